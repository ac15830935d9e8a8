theorem dL_drawn_0 : decode cL_drawn 0 = .ok (.iload_n 1, 1) := by decide +kernel
theorem dL_drawn_1 : decode cL_drawn 1 = .ok (.aload_n 0, 1) := by decide +kernel
theorem dL_drawn_2 : decode cL_drawn 2 = .ok (.arraylength, 1) := by decide +kernel
theorem dL_drawn_3 : decode cL_drawn 3 = .ok (.if_icmp .ge 9, 3) := by decide +kernel
theorem dL_drawn_6 : decode cL_drawn 6 = .ok (.aload_n 0, 1) := by decide +kernel
theorem dL_drawn_7 : decode cL_drawn 7 = .ok (.iload_n 1, 1) := by decide +kernel
theorem dL_drawn_8 : decode cL_drawn 8 = .ok (.iaload, 1) := by decide +kernel
theorem dL_drawn_9 : decode cL_drawn 9 = .ok (.goto 11, 3) := by decide +kernel
theorem dL_drawn_12 : decode cL_drawn 12 = .ok (.ldc 7, 2) := by decide +kernel
theorem dL_drawn_14 : decode cL_drawn 14 = .ok (.iload_n 1, 1) := by decide +kernel
theorem dL_drawn_15 : decode cL_drawn 15 = .ok (.imul, 1) := by decide +kernel
theorem dL_drawn_16 : decode cL_drawn 16 = .ok (.sipush 13007, 3) := by decide +kernel
theorem dL_drawn_19 : decode cL_drawn 19 = .ok (.iadd, 1) := by decide +kernel
theorem dL_drawn_20 : decode cL_drawn 20 = .ok (.istore_n 3, 1) := by decide +kernel
theorem dL_drawn_21 : decode cL_drawn 21 = .ok (.iload_n 3, 1) := by decide +kernel
theorem dL_drawn_22 : decode cL_drawn 22 = .ok (.iconst 1, 1) := by decide +kernel
theorem dL_drawn_23 : decode cL_drawn 23 = .ok (.iushr, 1) := by decide +kernel
theorem dL_drawn_24 : decode cL_drawn 24 = .ok (.iload_n 2, 1) := by decide +kernel
theorem dL_drawn_25 : decode cL_drawn 25 = .ok (.irem, 1) := by decide +kernel
theorem dL_drawn_26 : decode cL_drawn 26 = .ok (.ireturn, 1) := by decide +kernel
set_option maxRecDepth 20000 in
theorem ggL_value_X5_length : GoodIn wsL_value wsX5_length := goodIn_ca (goodIn_r _ [5, 6, 7, 8, 4, 9, 10, 11, 12, 13, 14, 15, 16, 17, 18, 31, 32, 33, 34, 35, 36, 37, 38, 39] (by decide +kernel) (by decide +kernel)) (goodIn_sub (fun _ h => List.mem_cons_of_mem _ (List.mem_append_right _ h)) (by decide +kernel))
set_option maxRecDepth 20000 in
theorem gL_value_X5_length : GoodIn wsL_value (wsV RL 8 RX5 yX5_length wsX5_length) := goodIn_app (goodIn_of _ (by decide +kernel)) ggL_value_X5_length
set_option maxRecDepth 20000 in
theorem ggL_value_X5_at : GoodIn wsL_value wsX5_at := goodIn_ca (goodIn_r _ [22, 6, 7, 8, 4, 9, 10, 11, 12, 13, 14, 15, 16, 17, 18, 23, 24, 25, 26, 27, 28, 29, 30, 31, 32, 33, 34, 35, 36, 37, 38, 39] (by decide +kernel) (by decide +kernel)) (goodIn_sub (fun _ h => List.mem_cons_of_mem _ (List.mem_append_right _ h)) (by decide +kernel))
set_option maxRecDepth 20000 in
theorem gL_value_X5_at : GoodIn wsL_value (wsV RL 14 RX5 yX5_at wsX5_at) := goodIn_app (goodIn_of _ (by decide +kernel)) ggL_value_X5_at
theorem dL_value_0 : decode cL_value 0 = .ok (.iconst 0, 1) := by decide +kernel
theorem dL_value_1 : decode cL_value 1 = .ok (.istore 4, 2) := by decide +kernel
theorem dL_value_3 : decode cL_value 3 = .ok (.aload_n 0, 1) := by decide +kernel
theorem dL_value_4 : decode cL_value 4 = .ok (.iload_n 1, 1) := by decide +kernel
theorem dL_value_5 : decode cL_value 5 = .ok (.invokevirtual 8, 3) := by decide +kernel
theorem dL_value_8 : decode cL_value 8 = .ok (.iconst 1, 1) := by decide +kernel
theorem dL_value_9 : decode cL_value 9 = .ok (.isub, 1) := by decide +kernel
theorem dL_value_10 : decode cL_value 10 = .ok (.istore 5, 2) := by decide +kernel
theorem dL_value_12 : decode cL_value 12 = .ok (.iload 5, 2) := by decide +kernel
theorem dL_value_14 : decode cL_value 14 = .ok (.ifCond .lt 29, 3) := by decide +kernel
theorem dL_value_17 : decode cL_value 17 = .ok (.iload 4, 2) := by decide +kernel
theorem dL_value_19 : decode cL_value 19 = .ok (.iload_n 2, 1) := by decide +kernel
theorem dL_value_20 : decode cL_value 20 = .ok (.imul, 1) := by decide +kernel
theorem dL_value_21 : decode cL_value 21 = .ok (.aload_n 0, 1) := by decide +kernel
theorem dL_value_22 : decode cL_value 22 = .ok (.iload_n 1, 1) := by decide +kernel
theorem dL_value_23 : decode cL_value 23 = .ok (.iload 5, 2) := by decide +kernel
theorem dL_value_25 : decode cL_value 25 = .ok (.invokevirtual 14, 3) := by decide +kernel
theorem dL_value_28 : decode cL_value 28 = .ok (.iadd, 1) := by decide +kernel
theorem dL_value_29 : decode cL_value 29 = .ok (.iload_n 3, 1) := by decide +kernel
theorem dL_value_30 : decode cL_value 30 = .ok (.irem, 1) := by decide +kernel
theorem dL_value_31 : decode cL_value 31 = .ok (.iload_n 3, 1) := by decide +kernel
theorem dL_value_32 : decode cL_value 32 = .ok (.iadd, 1) := by decide +kernel
theorem dL_value_33 : decode cL_value 33 = .ok (.iload_n 3, 1) := by decide +kernel
theorem dL_value_34 : decode cL_value 34 = .ok (.irem, 1) := by decide +kernel
theorem dL_value_35 : decode cL_value 35 = .ok (.istore 4, 2) := by decide +kernel
theorem dL_value_37 : decode cL_value 37 = .ok (.iinc 5 (-1), 3) := by decide +kernel
theorem dL_value_40 : decode cL_value 40 = .ok (.goto (-28), 3) := by decide +kernel
theorem dL_value_43 : decode cL_value 43 = .ok (.iload 4, 2) := by decide +kernel
theorem dL_value_45 : decode cL_value 45 = .ok (.ireturn, 1) := by decide +kernel
set_option maxRecDepth 20000 in
theorem ggL_areAlike_X5_length : GoodIn wsL_areAlike wsX5_length := goodIn_ca (goodIn_r _ [5, 6, 7, 8, 4, 9, 10, 11, 12, 13, 14, 15, 16, 17, 18, 31, 32, 33, 34, 35, 36, 37, 38, 39] (by decide +kernel) (by decide +kernel)) (goodIn_sub (fun _ h => List.mem_cons_of_mem _ (List.mem_append_right _ h)) (by decide +kernel))
set_option maxRecDepth 20000 in
theorem gL_areAlike_X5_length : GoodIn wsL_areAlike (wsV RL 8 RX5 yX5_length wsX5_length) := goodIn_app (goodIn_of _ (by decide +kernel)) ggL_areAlike_X5_length
set_option maxRecDepth 20000 in
theorem ggL_areAlike_X5_at : GoodIn wsL_areAlike wsX5_at := goodIn_ca (goodIn_r _ [22, 6, 7, 8, 4, 9, 10, 11, 12, 13, 14, 15, 16, 17, 18, 23, 24, 25, 26, 27, 28, 29, 30, 31, 32, 33, 34, 35, 36, 37, 38, 39] (by decide +kernel) (by decide +kernel)) (goodIn_sub (fun _ h => List.mem_cons_of_mem _ (List.mem_append_right _ h)) (by decide +kernel))
set_option maxRecDepth 20000 in
theorem gL_areAlike_X5_at : GoodIn wsL_areAlike (wsV RL 14 RX5 yX5_at wsX5_at) := goodIn_app (goodIn_of _ (by decide +kernel)) ggL_areAlike_X5_at
theorem dL_areAlike_0 : decode cL_areAlike 0 = .ok (.aload_n 0, 1) := by decide +kernel
theorem dL_areAlike_1 : decode cL_areAlike 1 = .ok (.iload_n 1, 1) := by decide +kernel
theorem dL_areAlike_2 : decode cL_areAlike 2 = .ok (.invokevirtual 8, 3) := by decide +kernel
theorem dL_areAlike_5 : decode cL_areAlike 5 = .ok (.aload_n 0, 1) := by decide +kernel
theorem dL_areAlike_6 : decode cL_areAlike 6 = .ok (.iload_n 2, 1) := by decide +kernel
theorem dL_areAlike_7 : decode cL_areAlike 7 = .ok (.invokevirtual 8, 3) := by decide +kernel
theorem dL_areAlike_10 : decode cL_areAlike 10 = .ok (.if_icmp .ne 7, 3) := by decide +kernel
theorem dL_areAlike_13 : decode cL_areAlike 13 = .ok (.iconst 1, 1) := by decide +kernel
theorem dL_areAlike_14 : decode cL_areAlike 14 = .ok (.goto 4, 3) := by decide +kernel
theorem dL_areAlike_17 : decode cL_areAlike 17 = .ok (.iconst 0, 1) := by decide +kernel
theorem dL_areAlike_18 : decode cL_areAlike 18 = .ok (.istore_n 3, 1) := by decide +kernel
theorem dL_areAlike_19 : decode cL_areAlike 19 = .ok (.iconst 0, 1) := by decide +kernel
theorem dL_areAlike_20 : decode cL_areAlike 20 = .ok (.istore 4, 2) := by decide +kernel
theorem dL_areAlike_22 : decode cL_areAlike 22 = .ok (.iload 4, 2) := by decide +kernel
theorem dL_areAlike_24 : decode cL_areAlike 24 = .ok (.aload_n 0, 1) := by decide +kernel
theorem dL_areAlike_25 : decode cL_areAlike 25 = .ok (.iload_n 1, 1) := by decide +kernel
theorem dL_areAlike_26 : decode cL_areAlike 26 = .ok (.invokevirtual 8, 3) := by decide +kernel
theorem dL_areAlike_29 : decode cL_areAlike 29 = .ok (.if_icmp .ge 36, 3) := by decide +kernel
theorem dL_areAlike_32 : decode cL_areAlike 32 = .ok (.iload_n 3, 1) := by decide +kernel
theorem dL_areAlike_33 : decode cL_areAlike 33 = .ok (.ifCond .eq 32, 3) := by decide +kernel
theorem dL_areAlike_36 : decode cL_areAlike 36 = .ok (.aload_n 0, 1) := by decide +kernel
theorem dL_areAlike_37 : decode cL_areAlike 37 = .ok (.iload_n 1, 1) := by decide +kernel
theorem dL_areAlike_38 : decode cL_areAlike 38 = .ok (.iload 4, 2) := by decide +kernel
theorem dL_areAlike_40 : decode cL_areAlike 40 = .ok (.invokevirtual 14, 3) := by decide +kernel
theorem dL_areAlike_43 : decode cL_areAlike 43 = .ok (.aload_n 0, 1) := by decide +kernel
theorem dL_areAlike_44 : decode cL_areAlike 44 = .ok (.iload_n 2, 1) := by decide +kernel
theorem dL_areAlike_45 : decode cL_areAlike 45 = .ok (.iload 4, 2) := by decide +kernel
theorem dL_areAlike_47 : decode cL_areAlike 47 = .ok (.invokevirtual 14, 3) := by decide +kernel
theorem dL_areAlike_50 : decode cL_areAlike 50 = .ok (.if_icmp .ne 7, 3) := by decide +kernel
theorem dL_areAlike_53 : decode cL_areAlike 53 = .ok (.iconst 1, 1) := by decide +kernel
theorem dL_areAlike_54 : decode cL_areAlike 54 = .ok (.goto 4, 3) := by decide +kernel
theorem dL_areAlike_57 : decode cL_areAlike 57 = .ok (.iconst 0, 1) := by decide +kernel
theorem dL_areAlike_58 : decode cL_areAlike 58 = .ok (.istore_n 3, 1) := by decide +kernel
theorem dL_areAlike_59 : decode cL_areAlike 59 = .ok (.iinc 4 1, 3) := by decide +kernel
theorem dL_areAlike_62 : decode cL_areAlike 62 = .ok (.goto (-40), 3) := by decide +kernel
theorem dL_areAlike_65 : decode cL_areAlike 65 = .ok (.iload_n 3, 1) := by decide +kernel
theorem dL_areAlike_66 : decode cL_areAlike 66 = .ok (.ireturn, 1) := by decide +kernel
set_option maxRecDepth 20000 in
theorem ggL_isFilled_X5_clear : GoodIn wsL_isFilled wsX5_clear := goodIn_ca (goodIn_r _ [5, 6, 7, 8, 4, 9, 10, 11, 12, 13, 14, 15, 16, 17, 18, 19, 20, 21, 22, 41, 42, 43, 44, 45, 46, 47, 48, 49] (by decide +kernel) (by decide +kernel)) (goodIn_sub (fun _ h => List.mem_cons_of_mem _ (List.mem_append_left _ (List.mem_append_left _ (List.mem_append_right _ h)))) (by decide +kernel))
set_option maxRecDepth 20000 in
theorem gL_isFilled_X5_clear : GoodIn wsL_isFilled (wsV RL 18 RX5 yX5_clear wsX5_clear) := goodIn_app (goodIn_of _ (by decide +kernel)) ggL_isFilled_X5_clear
set_option maxRecDepth 20000 in
theorem ggL_isFilled_L_drawn : GoodIn wsL_isFilled wsL_drawn := goodIn_r _ [26, 27] (by decide +kernel) (by decide +kernel)
set_option maxRecDepth 20000 in
theorem gL_isFilled_L_drawn : GoodIn wsL_isFilled (va_wsS RL 21 yL_drawn wsL_drawn) := goodIn_app (goodIn_of _ (by decide +kernel)) ggL_isFilled_L_drawn
set_option maxRecDepth 20000 in
theorem ggL_isFilled_X5_append : GoodIn wsL_isFilled wsX5_append := goodIn_ca (goodIn_ca (goodIn_ca (goodIn_r _ [31, 32, 33, 34, 35, 6, 7, 8, 4, 9, 10, 11, 12, 36, 37, 38, 16, 39, 18, 40, 13, 14, 15, 17, 41, 42, 43, 44, 45, 46, 47, 48, 49] (by decide +kernel) (by decide +kernel)) (goodIn_sub (fun _ h => List.mem_cons_of_mem _ (List.mem_append_left _ (List.mem_append_right _ h))) (by decide +kernel))) (goodIn_sub (fun _ h => List.mem_cons_of_mem _ (List.mem_append_right _ h)) (by decide +kernel))) (goodIn_sub (fun _ h => List.mem_cons_of_mem _ (List.mem_append_left _ (List.mem_append_left _ (List.mem_append_right _ h)))) (by decide +kernel))
set_option maxRecDepth 20000 in
theorem gL_isFilled_X5_append : GoodIn wsL_isFilled (wsV RL 27 RX5 yX5_append wsX5_append) := goodIn_app (goodIn_of _ (by decide +kernel)) ggL_isFilled_X5_append
theorem dL_isFilled_0 : decode cL_isFilled 0 = .ok (.aload_n 0, 1) := by decide +kernel
theorem dL_isFilled_1 : decode cL_isFilled 1 = .ok (.iload_n 1, 1) := by decide +kernel
theorem dL_isFilled_2 : decode cL_isFilled 2 = .ok (.invokevirtual 18, 3) := by decide +kernel
theorem dL_isFilled_5 : decode cL_isFilled 5 = .ok (.ifCond .lt 7, 3) := by decide +kernel
theorem dL_isFilled_8 : decode cL_isFilled 8 = .ok (.iconst 1, 1) := by decide +kernel
theorem dL_isFilled_9 : decode cL_isFilled 9 = .ok (.goto 4, 3) := by decide +kernel
theorem dL_isFilled_12 : decode cL_isFilled 12 = .ok (.iconst 0, 1) := by decide +kernel
theorem dL_isFilled_13 : decode cL_isFilled 13 = .ok (.istore 7, 2) := by decide +kernel
theorem dL_isFilled_15 : decode cL_isFilled 15 = .ok (.iconst 0, 1) := by decide +kernel
theorem dL_isFilled_16 : decode cL_isFilled 16 = .ok (.istore 8, 2) := by decide +kernel
theorem dL_isFilled_18 : decode cL_isFilled 18 = .ok (.iload 8, 2) := by decide +kernel
theorem dL_isFilled_20 : decode cL_isFilled 20 = .ok (.iload 4, 2) := by decide +kernel
theorem dL_isFilled_22 : decode cL_isFilled 22 = .ok (.if_icmp .ge 51, 3) := by decide +kernel
theorem dL_isFilled_25 : decode cL_isFilled 25 = .ok (.iload 7, 2) := by decide +kernel
theorem dL_isFilled_27 : decode cL_isFilled 27 = .ok (.ifCond .eq 37, 3) := by decide +kernel
theorem dL_isFilled_30 : decode cL_isFilled 30 = .ok (.aload_n 0, 1) := by decide +kernel
theorem dL_isFilled_31 : decode cL_isFilled 31 = .ok (.iload_n 1, 1) := by decide +kernel
theorem dL_isFilled_32 : decode cL_isFilled 32 = .ok (.iload 5, 2) := by decide +kernel
theorem dL_isFilled_34 : decode cL_isFilled 34 = .ok (.aload_n 2, 1) := by decide +kernel
theorem dL_isFilled_35 : decode cL_isFilled 35 = .ok (.iload_n 3, 1) := by decide +kernel
theorem dL_isFilled_36 : decode cL_isFilled 36 = .ok (.iload 8, 2) := by decide +kernel
theorem dL_isFilled_38 : decode cL_isFilled 38 = .ok (.iadd, 1) := by decide +kernel
theorem dL_isFilled_39 : decode cL_isFilled 39 = .ok (.iload 6, 2) := by decide +kernel
theorem dL_isFilled_41 : decode cL_isFilled 41 = .ok (.iload 5, 2) := by decide +kernel
theorem dL_isFilled_43 : decode cL_isFilled 43 = .ok (.isub, 1) := by decide +kernel
theorem dL_isFilled_44 : decode cL_isFilled 44 = .ok (.iconst 1, 1) := by decide +kernel
theorem dL_isFilled_45 : decode cL_isFilled 45 = .ok (.iadd, 1) := by decide +kernel
theorem dL_isFilled_46 : decode cL_isFilled 46 = .ok (.invokestatic 21, 3) := by decide +kernel
theorem dL_isFilled_49 : decode cL_isFilled 49 = .ok (.iadd, 1) := by decide +kernel
theorem dL_isFilled_50 : decode cL_isFilled 50 = .ok (.invokevirtual 27, 3) := by decide +kernel
theorem dL_isFilled_53 : decode cL_isFilled 53 = .ok (.iload 8, 2) := by decide +kernel
theorem dL_isFilled_55 : decode cL_isFilled 55 = .ok (.iconst 1, 1) := by decide +kernel
theorem dL_isFilled_56 : decode cL_isFilled 56 = .ok (.iadd, 1) := by decide +kernel
theorem dL_isFilled_57 : decode cL_isFilled 57 = .ok (.if_icmp .ne 7, 3) := by decide +kernel
theorem dL_isFilled_60 : decode cL_isFilled 60 = .ok (.iconst 1, 1) := by decide +kernel
theorem dL_isFilled_61 : decode cL_isFilled 61 = .ok (.goto 4, 3) := by decide +kernel
theorem dL_isFilled_64 : decode cL_isFilled 64 = .ok (.iconst 0, 1) := by decide +kernel
theorem dL_isFilled_65 : decode cL_isFilled 65 = .ok (.istore 7, 2) := by decide +kernel
theorem dL_isFilled_67 : decode cL_isFilled 67 = .ok (.iinc 8 1, 3) := by decide +kernel
theorem dL_isFilled_70 : decode cL_isFilled 70 = .ok (.goto (-52), 3) := by decide +kernel
theorem dL_isFilled_73 : decode cL_isFilled 73 = .ok (.iload 7, 2) := by decide +kernel
theorem dL_isFilled_75 : decode cL_isFilled 75 = .ok (.ireturn, 1) := by decide +kernel
set_option maxRecDepth 20000 in
theorem ggL_isProductRight_L_isFilled : GoodIn wsL_isProductRight wsL_isFilled := goodIn_ca (goodIn_ca (goodIn_ca (goodIn_r _ [4, 5, 6, 7, 8, 9, 10, 11, 12, 13, 14, 15, 16, 17, 18, 19, 20, 21, 22, 23, 24, 25, 26, 27, 28, 3, 29, 30, 31, 32, 33, 34, 35, 36, 37, 38, 39, 40, 41, 42, 43, 108, 109, 110, 111, 112, 113, 114, 115, 116] (by decide +kernel) (by decide +kernel)) (goodIn_sub (fun _ h => List.mem_cons_of_mem _ (List.mem_append_left _ (List.mem_append_left _ (List.mem_append_right _ h)))) (by decide +kernel))) (goodIn_sub (fun _ h => List.mem_cons_of_mem _ (List.mem_append_left _ (List.mem_append_right _ h))) (by decide +kernel))) (goodIn_sub (fun _ h => List.mem_cons_of_mem _ (List.mem_append_right _ h)) (by decide +kernel))
set_option maxRecDepth 20000 in
theorem gL_isProductRight_L_isFilled : GoodIn wsL_isProductRight (va_wsS RL 30 yL_isFilled wsL_isFilled) := goodIn_app (goodIn_of _ (by decide +kernel)) ggL_isProductRight_L_isFilled
set_option maxRecDepth 20000 in
theorem ggL_isProductRight_X5_multiply : GoodIn wsL_isProductRight wsX5_multiply := goodIn_ca (goodIn_ca (goodIn_ca (goodIn_r _ [47, 48, 10, 11, 12, 8, 13, 14, 15, 16, 49, 50, 51, 35, 36, 52, 53, 54, 20, 55, 22, 43, 17, 18, 19, 21, 56, 57, 58, 37, 38, 59, 60, 61, 62, 63, 64, 65, 66, 67, 68, 69, 70, 71, 72, 73, 74, 75, 76, 77, 78, 79, 80, 81, 82, 83, 84, 85, 86, 87, 88, 89, 108, 109, 110, 111, 112, 113, 114, 115, 116, 117, 118] (by decide +kernel) (by decide +kernel)) (goodIn_sub (fun _ h => List.mem_cons_of_mem _ (List.mem_append_left _ (List.mem_append_left _ (List.mem_append_right _ h)))) (by decide +kernel))) (goodIn_sub (fun _ h => List.mem_cons_of_mem _ (List.mem_append_left _ (List.mem_append_right _ h))) (by decide +kernel))) (goodIn_sub (fun _ h => List.mem_cons_of_mem _ (List.mem_append_right _ h)) (by decide +kernel))
set_option maxRecDepth 20000 in
theorem gL_isProductRight_X5_multiply : GoodIn wsL_isProductRight (wsV RL 34 RX5 yX5_multiply wsX5_multiply) := goodIn_app (goodIn_of _ (by decide +kernel)) ggL_isProductRight_X5_multiply
set_option maxRecDepth 20000 in
theorem ggL_isProductRight_X5_length : GoodIn wsL_isProductRight wsX5_length := goodIn_ca (goodIn_r _ [93, 10, 11, 12, 8, 13, 14, 15, 16, 17, 18, 19, 20, 21, 22, 108, 109, 110, 111, 112, 113, 114, 115, 116] (by decide +kernel) (by decide +kernel)) (goodIn_sub (fun _ h => List.mem_cons_of_mem _ (List.mem_append_left _ (List.mem_append_left _ (List.mem_append_right _ h)))) (by decide +kernel))
set_option maxRecDepth 20000 in
theorem gL_isProductRight_X5_length : GoodIn wsL_isProductRight (wsV RL 8 RX5 yX5_length wsX5_length) := goodIn_app (goodIn_of _ (by decide +kernel)) ggL_isProductRight_X5_length
set_option maxRecDepth 20000 in
theorem ggL_isProductRight_L_areAlike : GoodIn wsL_isProductRight wsL_areAlike := goodIn_ca (goodIn_r _ [96, 90, 91, 92, 8, 93, 10, 11, 12, 13, 14, 15, 16, 17, 18, 19, 20, 21, 22, 97, 98, 99, 100, 101, 102, 103, 104, 75, 76, 77, 43, 108, 109, 110, 111, 112, 113, 114, 115, 116] (by decide +kernel) (by decide +kernel)) (goodIn_sub (fun _ h => List.mem_cons_of_mem _ (List.mem_append_left _ (List.mem_append_left _ (List.mem_append_right _ h)))) (by decide +kernel))
set_option maxRecDepth 20000 in
theorem gL_isProductRight_L_areAlike : GoodIn wsL_isProductRight (va_wsS RL 38 yL_areAlike wsL_areAlike) := goodIn_app (goodIn_of _ (by decide +kernel)) ggL_isProductRight_L_areAlike
set_option maxRecDepth 20000 in
theorem ggL_isProductRight_L_value : GoodIn wsL_isProductRight wsL_value := goodIn_ca (goodIn_r _ [107, 90, 91, 92, 8, 93, 10, 11, 12, 13, 14, 15, 16, 17, 18, 19, 20, 21, 22, 97, 98, 99, 100, 101, 102, 103, 104, 75, 76, 77, 43, 108, 109, 110, 111, 112, 113, 114, 115, 116] (by decide +kernel) (by decide +kernel)) (goodIn_sub (fun _ h => List.mem_cons_of_mem _ (List.mem_append_left _ (List.mem_append_left _ (List.mem_append_right _ h)))) (by decide +kernel))
set_option maxRecDepth 20000 in
theorem gL_isProductRight_L_value : GoodIn wsL_isProductRight (va_wsS RL 42 yL_value wsL_value) := goodIn_app (goodIn_of _ (by decide +kernel)) ggL_isProductRight_L_value
set_option maxRecDepth 20000 in
theorem ggL_isProductRight_X5_at : GoodIn wsL_isProductRight wsX5_at := goodIn_ca (goodIn_r _ [100, 10, 11, 12, 8, 13, 14, 15, 16, 17, 18, 19, 20, 21, 22, 101, 102, 103, 104, 75, 76, 77, 43, 108, 109, 110, 111, 112, 113, 114, 115, 116] (by decide +kernel) (by decide +kernel)) (goodIn_sub (fun _ h => List.mem_cons_of_mem _ (List.mem_append_left _ (List.mem_append_left _ (List.mem_append_right _ h)))) (by decide +kernel))
set_option maxRecDepth 20000 in
theorem gL_isProductRight_X5_at : GoodIn wsL_isProductRight (wsV RL 14 RX5 yX5_at wsX5_at) := goodIn_app (goodIn_of _ (by decide +kernel)) ggL_isProductRight_X5_at
theorem dL_isProductRight_0 : decode cL_isProductRight 0 = .ok (.iconst 1, 1) := by decide +kernel
theorem dL_isProductRight_1 : decode cL_isProductRight 1 = .ok (.iload_n 3, 1) := by decide +kernel
theorem dL_isProductRight_2 : decode cL_isProductRight 2 = .ok (.bipush 32, 2) := by decide +kernel
theorem dL_isProductRight_4 : decode cL_isProductRight 4 = .ok (.irem, 1) := by decide +kernel
theorem dL_isProductRight_5 : decode cL_isProductRight 5 = .ok (.iadd, 1) := by decide +kernel
theorem dL_isProductRight_6 : decode cL_isProductRight 6 = .ok (.istore 4, 2) := by decide +kernel
theorem dL_isProductRight_8 : decode cL_isProductRight 8 = .ok (.iconst 1, 1) := by decide +kernel
theorem dL_isProductRight_9 : decode cL_isProductRight 9 = .ok (.iload_n 3, 1) := by decide +kernel
theorem dL_isProductRight_10 : decode cL_isProductRight 10 = .ok (.bipush 32, 2) := by decide +kernel
theorem dL_isProductRight_12 : decode cL_isProductRight 12 = .ok (.idiv, 1) := by decide +kernel
theorem dL_isProductRight_13 : decode cL_isProductRight 13 = .ok (.bipush 32, 2) := by decide +kernel
theorem dL_isProductRight_15 : decode cL_isProductRight 15 = .ok (.irem, 1) := by decide +kernel
theorem dL_isProductRight_16 : decode cL_isProductRight 16 = .ok (.iadd, 1) := by decide +kernel
theorem dL_isProductRight_17 : decode cL_isProductRight 17 = .ok (.istore 5, 2) := by decide +kernel
theorem dL_isProductRight_19 : decode cL_isProductRight 19 = .ok (.aload_n 0, 1) := by decide +kernel
theorem dL_isProductRight_20 : decode cL_isProductRight 20 = .ok (.iconst 0, 1) := by decide +kernel
theorem dL_isProductRight_21 : decode cL_isProductRight 21 = .ok (.aload_n 1, 1) := by decide +kernel
theorem dL_isProductRight_22 : decode cL_isProductRight 22 = .ok (.iload_n 2, 1) := by decide +kernel
theorem dL_isProductRight_23 : decode cL_isProductRight 23 = .ok (.iload 4, 2) := by decide +kernel
theorem dL_isProductRight_25 : decode cL_isProductRight 25 = .ok (.iconst 0, 1) := by decide +kernel
theorem dL_isProductRight_26 : decode cL_isProductRight 26 = .ok (.bipush 9, 2) := by decide +kernel
theorem dL_isProductRight_28 : decode cL_isProductRight 28 = .ok (.invokestatic 30, 3) := by decide +kernel
theorem dL_isProductRight_31 : decode cL_isProductRight 31 = .ok (.ifCond .eq 59, 3) := by decide +kernel
theorem dL_isProductRight_34 : decode cL_isProductRight 34 = .ok (.aload_n 0, 1) := by decide +kernel
theorem dL_isProductRight_35 : decode cL_isProductRight 35 = .ok (.iconst 1, 1) := by decide +kernel
theorem dL_isProductRight_36 : decode cL_isProductRight 36 = .ok (.aload_n 1, 1) := by decide +kernel
theorem dL_isProductRight_37 : decode cL_isProductRight 37 = .ok (.iload_n 2, 1) := by decide +kernel
theorem dL_isProductRight_38 : decode cL_isProductRight 38 = .ok (.bipush 7, 2) := by decide +kernel
theorem dL_isProductRight_40 : decode cL_isProductRight 40 = .ok (.iadd, 1) := by decide +kernel
theorem dL_isProductRight_41 : decode cL_isProductRight 41 = .ok (.iload 5, 2) := by decide +kernel
theorem dL_isProductRight_43 : decode cL_isProductRight 43 = .ok (.iconst 0, 1) := by decide +kernel
theorem dL_isProductRight_44 : decode cL_isProductRight 44 = .ok (.bipush 9, 2) := by decide +kernel
theorem dL_isProductRight_46 : decode cL_isProductRight 46 = .ok (.invokestatic 30, 3) := by decide +kernel
theorem dL_isProductRight_49 : decode cL_isProductRight 49 = .ok (.ifCond .eq 41, 3) := by decide +kernel
theorem dL_isProductRight_52 : decode cL_isProductRight 52 = .ok (.aload_n 0, 1) := by decide +kernel
theorem dL_isProductRight_53 : decode cL_isProductRight 53 = .ok (.iconst 0, 1) := by decide +kernel
theorem dL_isProductRight_54 : decode cL_isProductRight 54 = .ok (.iconst 1, 1) := by decide +kernel
theorem dL_isProductRight_55 : decode cL_isProductRight 55 = .ok (.iconst 2, 1) := by decide +kernel
theorem dL_isProductRight_56 : decode cL_isProductRight 56 = .ok (.invokevirtual 34, 3) := by decide +kernel
theorem dL_isProductRight_59 : decode cL_isProductRight 59 = .ok (.ifCond .le 31, 3) := by decide +kernel
theorem dL_isProductRight_62 : decode cL_isProductRight 62 = .ok (.aload_n 0, 1) := by decide +kernel
theorem dL_isProductRight_63 : decode cL_isProductRight 63 = .ok (.iconst 1, 1) := by decide +kernel
theorem dL_isProductRight_64 : decode cL_isProductRight 64 = .ok (.iconst 0, 1) := by decide +kernel
theorem dL_isProductRight_65 : decode cL_isProductRight 65 = .ok (.iconst 3, 1) := by decide +kernel
theorem dL_isProductRight_66 : decode cL_isProductRight 66 = .ok (.invokevirtual 34, 3) := by decide +kernel
theorem dL_isProductRight_69 : decode cL_isProductRight 69 = .ok (.aload_n 0, 1) := by decide +kernel
theorem dL_isProductRight_70 : decode cL_isProductRight 70 = .ok (.iconst 2, 1) := by decide +kernel
theorem dL_isProductRight_71 : decode cL_isProductRight 71 = .ok (.invokevirtual 8, 3) := by decide +kernel
theorem dL_isProductRight_74 : decode cL_isProductRight 74 = .ok (.if_icmp .ne 16, 3) := by decide +kernel
theorem dL_isProductRight_77 : decode cL_isProductRight 77 = .ok (.aload_n 0, 1) := by decide +kernel
theorem dL_isProductRight_78 : decode cL_isProductRight 78 = .ok (.iconst 2, 1) := by decide +kernel
theorem dL_isProductRight_79 : decode cL_isProductRight 79 = .ok (.iconst 3, 1) := by decide +kernel
theorem dL_isProductRight_80 : decode cL_isProductRight 80 = .ok (.invokestatic 38, 3) := by decide +kernel
theorem dL_isProductRight_83 : decode cL_isProductRight 83 = .ok (.ifCond .eq 7, 3) := by decide +kernel
theorem dL_isProductRight_86 : decode cL_isProductRight 86 = .ok (.iconst 1, 1) := by decide +kernel
theorem dL_isProductRight_87 : decode cL_isProductRight 87 = .ok (.goto 4, 3) := by decide +kernel
theorem dL_isProductRight_90 : decode cL_isProductRight 90 = .ok (.iconst 0, 1) := by decide +kernel
theorem dL_isProductRight_91 : decode cL_isProductRight 91 = .ok (.istore 6, 2) := by decide +kernel
theorem dL_isProductRight_93 : decode cL_isProductRight 93 = .ok (.bipush 7, 2) := by decide +kernel
theorem dL_isProductRight_95 : decode cL_isProductRight 95 = .ok (.istore 7, 2) := by decide +kernel
theorem dL_isProductRight_97 : decode cL_isProductRight 97 = .ok (.iload 7, 2) := by decide +kernel
theorem dL_isProductRight_99 : decode cL_isProductRight 99 = .ok (.sipush 9000, 3) := by decide +kernel
theorem dL_isProductRight_102 : decode cL_isProductRight 102 = .ok (.if_icmp .ge 60, 3) := by decide +kernel
theorem dL_isProductRight_105 : decode cL_isProductRight 105 = .ok (.iload 6, 2) := by decide +kernel
theorem dL_isProductRight_107 : decode cL_isProductRight 107 = .ok (.ifCond .eq 55, 3) := by decide +kernel
theorem dL_isProductRight_110 : decode cL_isProductRight 110 = .ok (.aload_n 0, 1) := by decide +kernel
theorem dL_isProductRight_111 : decode cL_isProductRight 111 = .ok (.iconst 2, 1) := by decide +kernel
theorem dL_isProductRight_112 : decode cL_isProductRight 112 = .ok (.bipush 10, 2) := by decide +kernel
theorem dL_isProductRight_114 : decode cL_isProductRight 114 = .ok (.iload 7, 2) := by decide +kernel
theorem dL_isProductRight_116 : decode cL_isProductRight 116 = .ok (.invokestatic 42, 3) := by decide +kernel
theorem dL_isProductRight_119 : decode cL_isProductRight 119 = .ok (.aload_n 0, 1) := by decide +kernel
theorem dL_isProductRight_120 : decode cL_isProductRight 120 = .ok (.iconst 0, 1) := by decide +kernel
theorem dL_isProductRight_121 : decode cL_isProductRight 121 = .ok (.bipush 10, 2) := by decide +kernel
theorem dL_isProductRight_123 : decode cL_isProductRight 123 = .ok (.iload 7, 2) := by decide +kernel
theorem dL_isProductRight_125 : decode cL_isProductRight 125 = .ok (.invokestatic 42, 3) := by decide +kernel
theorem dL_isProductRight_128 : decode cL_isProductRight 128 = .ok (.aload_n 0, 1) := by decide +kernel
theorem dL_isProductRight_129 : decode cL_isProductRight 129 = .ok (.iconst 1, 1) := by decide +kernel
theorem dL_isProductRight_130 : decode cL_isProductRight 130 = .ok (.bipush 10, 2) := by decide +kernel
theorem dL_isProductRight_132 : decode cL_isProductRight 132 = .ok (.iload 7, 2) := by decide +kernel
theorem dL_isProductRight_134 : decode cL_isProductRight 134 = .ok (.invokestatic 42, 3) := by decide +kernel
theorem dL_isProductRight_137 : decode cL_isProductRight 137 = .ok (.imul, 1) := by decide +kernel
theorem dL_isProductRight_138 : decode cL_isProductRight 138 = .ok (.iload 7, 2) := by decide +kernel
theorem dL_isProductRight_140 : decode cL_isProductRight 140 = .ok (.irem, 1) := by decide +kernel
theorem dL_isProductRight_141 : decode cL_isProductRight 141 = .ok (.if_icmp .ne 7, 3) := by decide +kernel
theorem dL_isProductRight_144 : decode cL_isProductRight 144 = .ok (.iconst 1, 1) := by decide +kernel
theorem dL_isProductRight_145 : decode cL_isProductRight 145 = .ok (.goto 4, 3) := by decide +kernel
theorem dL_isProductRight_148 : decode cL_isProductRight 148 = .ok (.iconst 0, 1) := by decide +kernel
theorem dL_isProductRight_149 : decode cL_isProductRight 149 = .ok (.istore 6, 2) := by decide +kernel
theorem dL_isProductRight_151 : decode cL_isProductRight 151 = .ok (.iconst 3, 1) := by decide +kernel
theorem dL_isProductRight_152 : decode cL_isProductRight 152 = .ok (.iload 7, 2) := by decide +kernel
theorem dL_isProductRight_154 : decode cL_isProductRight 154 = .ok (.imul, 1) := by decide +kernel
theorem dL_isProductRight_155 : decode cL_isProductRight 155 = .ok (.iconst 2, 1) := by decide +kernel
theorem dL_isProductRight_156 : decode cL_isProductRight 156 = .ok (.iadd, 1) := by decide +kernel
theorem dL_isProductRight_157 : decode cL_isProductRight 157 = .ok (.istore 7, 2) := by decide +kernel
theorem dL_isProductRight_159 : decode cL_isProductRight 159 = .ok (.goto (-62), 3) := by decide +kernel
theorem dL_isProductRight_162 : decode cL_isProductRight 162 = .ok (.iconst 1, 1) := by decide +kernel
theorem dL_isProductRight_163 : decode cL_isProductRight 163 = .ok (.istore 7, 2) := by decide +kernel
theorem dL_isProductRight_165 : decode cL_isProductRight 165 = .ok (.iconst 0, 1) := by decide +kernel
theorem dL_isProductRight_166 : decode cL_isProductRight 166 = .ok (.istore 8, 2) := by decide +kernel
theorem dL_isProductRight_168 : decode cL_isProductRight 168 = .ok (.iload 8, 2) := by decide +kernel
theorem dL_isProductRight_170 : decode cL_isProductRight 170 = .ok (.aload_n 0, 1) := by decide +kernel
theorem dL_isProductRight_171 : decode cL_isProductRight 171 = .ok (.iconst 2, 1) := by decide +kernel
theorem dL_isProductRight_172 : decode cL_isProductRight 172 = .ok (.invokevirtual 8, 3) := by decide +kernel
theorem dL_isProductRight_175 : decode cL_isProductRight 175 = .ok (.if_icmp .ge 65, 3) := by decide +kernel
theorem dL_isProductRight_178 : decode cL_isProductRight 178 = .ok (.iload 6, 2) := by decide +kernel
theorem dL_isProductRight_180 : decode cL_isProductRight 180 = .ok (.ifCond .eq 29, 3) := by decide +kernel
theorem dL_isProductRight_183 : decode cL_isProductRight 183 = .ok (.aload_n 0, 1) := by decide +kernel
theorem dL_isProductRight_184 : decode cL_isProductRight 184 = .ok (.iconst 2, 1) := by decide +kernel
theorem dL_isProductRight_185 : decode cL_isProductRight 185 = .ok (.iload 8, 2) := by decide +kernel
theorem dL_isProductRight_187 : decode cL_isProductRight 187 = .ok (.invokevirtual 14, 3) := by decide +kernel
theorem dL_isProductRight_190 : decode cL_isProductRight 190 = .ok (.ifCond .lt 19, 3) := by decide +kernel
theorem dL_isProductRight_193 : decode cL_isProductRight 193 = .ok (.aload_n 0, 1) := by decide +kernel
theorem dL_isProductRight_194 : decode cL_isProductRight 194 = .ok (.iconst 2, 1) := by decide +kernel
theorem dL_isProductRight_195 : decode cL_isProductRight 195 = .ok (.iload 8, 2) := by decide +kernel
theorem dL_isProductRight_197 : decode cL_isProductRight 197 = .ok (.invokevirtual 14, 3) := by decide +kernel
theorem dL_isProductRight_200 : decode cL_isProductRight 200 = .ok (.bipush 9, 2) := by decide +kernel
theorem dL_isProductRight_202 : decode cL_isProductRight 202 = .ok (.if_icmp .gt 7, 3) := by decide +kernel
theorem dL_isProductRight_205 : decode cL_isProductRight 205 = .ok (.iconst 1, 1) := by decide +kernel
theorem dL_isProductRight_206 : decode cL_isProductRight 206 = .ok (.goto 4, 3) := by decide +kernel
theorem dL_isProductRight_209 : decode cL_isProductRight 209 = .ok (.iconst 0, 1) := by decide +kernel
theorem dL_isProductRight_210 : decode cL_isProductRight 210 = .ok (.istore 6, 2) := by decide +kernel
theorem dL_isProductRight_212 : decode cL_isProductRight 212 = .ok (.iload 7, 2) := by decide +kernel
theorem dL_isProductRight_214 : decode cL_isProductRight 214 = .ok (.ifCond .eq 17, 3) := by decide +kernel
theorem dL_isProductRight_217 : decode cL_isProductRight 217 = .ok (.aload_n 0, 1) := by decide +kernel
theorem dL_isProductRight_218 : decode cL_isProductRight 218 = .ok (.iconst 2, 1) := by decide +kernel
theorem dL_isProductRight_219 : decode cL_isProductRight 219 = .ok (.iload 8, 2) := by decide +kernel
theorem dL_isProductRight_221 : decode cL_isProductRight 221 = .ok (.invokevirtual 14, 3) := by decide +kernel
theorem dL_isProductRight_224 : decode cL_isProductRight 224 = .ok (.ifCond .ne 7, 3) := by decide +kernel
theorem dL_isProductRight_227 : decode cL_isProductRight 227 = .ok (.iconst 1, 1) := by decide +kernel
theorem dL_isProductRight_228 : decode cL_isProductRight 228 = .ok (.goto 4, 3) := by decide +kernel
theorem dL_isProductRight_231 : decode cL_isProductRight 231 = .ok (.iconst 0, 1) := by decide +kernel
theorem dL_isProductRight_232 : decode cL_isProductRight 232 = .ok (.istore 7, 2) := by decide +kernel
theorem dL_isProductRight_234 : decode cL_isProductRight 234 = .ok (.iinc 8 1, 3) := by decide +kernel
theorem dL_isProductRight_237 : decode cL_isProductRight 237 = .ok (.goto (-69), 3) := by decide +kernel
theorem dL_isProductRight_240 : decode cL_isProductRight 240 = .ok (.iload 6, 2) := by decide +kernel
theorem dL_isProductRight_242 : decode cL_isProductRight 242 = .ok (.ifCond .eq 49, 3) := by decide +kernel
theorem dL_isProductRight_245 : decode cL_isProductRight 245 = .ok (.aload_n 0, 1) := by decide +kernel
theorem dL_isProductRight_246 : decode cL_isProductRight 246 = .ok (.iconst 2, 1) := by decide +kernel
theorem dL_isProductRight_247 : decode cL_isProductRight 247 = .ok (.invokevirtual 8, 3) := by decide +kernel
theorem dL_isProductRight_250 : decode cL_isProductRight 250 = .ok (.iload 4, 2) := by decide +kernel
theorem dL_isProductRight_252 : decode cL_isProductRight 252 = .ok (.iload 5, 2) := by decide +kernel
theorem dL_isProductRight_254 : decode cL_isProductRight 254 = .ok (.iadd, 1) := by decide +kernel
theorem dL_isProductRight_255 : decode cL_isProductRight 255 = .ok (.if_icmp .gt 36, 3) := by decide +kernel
theorem dL_isProductRight_258 : decode cL_isProductRight 258 = .ok (.aload_n 0, 1) := by decide +kernel
theorem dL_isProductRight_259 : decode cL_isProductRight 259 = .ok (.iconst 2, 1) := by decide +kernel
theorem dL_isProductRight_260 : decode cL_isProductRight 260 = .ok (.invokevirtual 8, 3) := by decide +kernel
theorem dL_isProductRight_263 : decode cL_isProductRight 263 = .ok (.iconst 1, 1) := by decide +kernel
theorem dL_isProductRight_264 : decode cL_isProductRight 264 = .ok (.if_icmp .eq 23, 3) := by decide +kernel
theorem dL_isProductRight_267 : decode cL_isProductRight 267 = .ok (.iload 7, 2) := by decide +kernel
theorem dL_isProductRight_269 : decode cL_isProductRight 269 = .ok (.ifCond .ne 22, 3) := by decide +kernel
theorem dL_isProductRight_272 : decode cL_isProductRight 272 = .ok (.aload_n 0, 1) := by decide +kernel
theorem dL_isProductRight_273 : decode cL_isProductRight 273 = .ok (.iconst 2, 1) := by decide +kernel
theorem dL_isProductRight_274 : decode cL_isProductRight 274 = .ok (.aload_n 0, 1) := by decide +kernel
theorem dL_isProductRight_275 : decode cL_isProductRight 275 = .ok (.iconst 2, 1) := by decide +kernel
theorem dL_isProductRight_276 : decode cL_isProductRight 276 = .ok (.invokevirtual 8, 3) := by decide +kernel
theorem dL_isProductRight_279 : decode cL_isProductRight 279 = .ok (.iconst 1, 1) := by decide +kernel
theorem dL_isProductRight_280 : decode cL_isProductRight 280 = .ok (.isub, 1) := by decide +kernel
theorem dL_isProductRight_281 : decode cL_isProductRight 281 = .ok (.invokevirtual 14, 3) := by decide +kernel
theorem dL_isProductRight_284 : decode cL_isProductRight 284 = .ok (.ifCond .le 7, 3) := by decide +kernel
theorem dL_isProductRight_287 : decode cL_isProductRight 287 = .ok (.iconst 1, 1) := by decide +kernel
theorem dL_isProductRight_288 : decode cL_isProductRight 288 = .ok (.goto 4, 3) := by decide +kernel
theorem dL_isProductRight_291 : decode cL_isProductRight 291 = .ok (.iconst 0, 1) := by decide +kernel
theorem dL_isProductRight_292 : decode cL_isProductRight 292 = .ok (.ireturn, 1) := by decide +kernel
set_option maxRecDepth 20000 in
theorem ggL_isFilterRight_L_isFilled : GoodIn wsL_isFilterRight wsL_isFilled := goodIn_ca (goodIn_ca (goodIn_ca (goodIn_r _ [4, 5, 6, 7, 8, 9, 10, 11, 12, 13, 14, 15, 16, 17, 18, 19, 20, 21, 22, 23, 24, 25, 26, 27, 28, 3, 29, 30, 31, 32, 33, 34, 35, 36, 37, 38, 39, 40, 41, 42, 43, 121, 122, 123, 124, 125, 126, 127, 128, 129] (by decide +kernel) (by decide +kernel)) (goodIn_sub (fun _ h => List.mem_cons_of_mem _ (List.mem_append_left _ (List.mem_append_left _ (List.mem_append_right _ h)))) (by decide +kernel))) (goodIn_sub (fun _ h => List.mem_cons_of_mem _ (List.mem_append_left _ (List.mem_append_right _ h))) (by decide +kernel))) (goodIn_sub (fun _ h => List.mem_cons_of_mem _ (List.mem_append_right _ h)) (by decide +kernel))
set_option maxRecDepth 20000 in
theorem gL_isFilterRight_L_isFilled : GoodIn wsL_isFilterRight (va_wsS RL 30 yL_isFilled wsL_isFilled) := goodIn_app (goodIn_of _ (by decide +kernel)) ggL_isFilterRight_L_isFilled
set_option maxRecDepth 20000 in
theorem ggL_isFilterRight_X5_filter : GoodIn wsL_isFilterRight wsX5_filter := goodIn_ca (goodIn_ca (goodIn_ca (goodIn_r _ [47, 35, 36, 48, 10, 11, 12, 8, 13, 14, 15, 16, 49, 50, 51, 52, 53, 54, 20, 55, 22, 43, 17, 18, 19, 21, 56, 57, 58, 37, 38, 59, 60, 61, 62, 63, 64, 65, 66, 67, 68, 69, 70, 71, 72, 73, 74, 75, 76, 77, 78, 79, 80, 81, 82, 83, 84, 85, 86, 87, 88, 89, 90, 91, 92, 93, 94, 95, 96, 97, 98, 99, 100, 101, 102, 121, 122, 123, 124, 125, 126, 127, 128, 129, 130, 131] (by decide +kernel) (by decide +kernel)) (goodIn_sub (fun _ h => List.mem_cons_of_mem _ (List.mem_append_left _ (List.mem_append_right _ h))) (by decide +kernel))) (goodIn_sub (fun _ h => List.mem_cons_of_mem _ (List.mem_append_left _ (List.mem_append_left _ (List.mem_append_right _ h)))) (by decide +kernel))) (goodIn_sub (fun _ h => List.mem_cons_of_mem _ (List.mem_append_right _ h)) (by decide +kernel))
set_option maxRecDepth 20000 in
theorem gL_isFilterRight_X5_filter : GoodIn wsL_isFilterRight (wsV RL 46 RX5 yX5_filter wsX5_filter) := goodIn_app (goodIn_of _ (by decide +kernel)) ggL_isFilterRight_X5_filter
set_option maxRecDepth 20000 in
theorem ggL_isFilterRight_L_areAlike : GoodIn wsL_isFilterRight wsL_areAlike := goodIn_ca (goodIn_r _ [105, 106, 107, 108, 8, 109, 10, 11, 12, 13, 14, 15, 16, 17, 18, 19, 20, 21, 22, 110, 111, 112, 113, 114, 115, 116, 117, 79, 80, 81, 43, 121, 122, 123, 124, 125, 126, 127, 128, 129] (by decide +kernel) (by decide +kernel)) (goodIn_sub (fun _ h => List.mem_cons_of_mem _ (List.mem_append_left _ (List.mem_append_left _ (List.mem_append_right _ h)))) (by decide +kernel))
set_option maxRecDepth 20000 in
theorem gL_isFilterRight_L_areAlike : GoodIn wsL_isFilterRight (va_wsS RL 38 yL_areAlike wsL_areAlike) := goodIn_app (goodIn_of _ (by decide +kernel)) ggL_isFilterRight_L_areAlike
set_option maxRecDepth 20000 in
theorem ggL_isFilterRight_L_value : GoodIn wsL_isFilterRight wsL_value := goodIn_ca (goodIn_r _ [120, 106, 107, 108, 8, 109, 10, 11, 12, 13, 14, 15, 16, 17, 18, 19, 20, 21, 22, 110, 111, 112, 113, 114, 115, 116, 117, 79, 80, 81, 43, 121, 122, 123, 124, 125, 126, 127, 128, 129] (by decide +kernel) (by decide +kernel)) (goodIn_sub (fun _ h => List.mem_cons_of_mem _ (List.mem_append_left _ (List.mem_append_left _ (List.mem_append_right _ h)))) (by decide +kernel))
set_option maxRecDepth 20000 in
theorem gL_isFilterRight_L_value : GoodIn wsL_isFilterRight (va_wsS RL 42 yL_value wsL_value) := goodIn_app (goodIn_of _ (by decide +kernel)) ggL_isFilterRight_L_value
theorem dL_isFilterRight_0 : decode cL_isFilterRight 0 = .ok (.iconst 1, 1) := by decide +kernel
theorem dL_isFilterRight_1 : decode cL_isFilterRight 1 = .ok (.iload_n 3, 1) := by decide +kernel
theorem dL_isFilterRight_2 : decode cL_isFilterRight 2 = .ok (.bipush 40, 2) := by decide +kernel
theorem dL_isFilterRight_4 : decode cL_isFilterRight 4 = .ok (.irem, 1) := by decide +kernel
theorem dL_isFilterRight_5 : decode cL_isFilterRight 5 = .ok (.iadd, 1) := by decide +kernel
theorem dL_isFilterRight_6 : decode cL_isFilterRight 6 = .ok (.istore 4, 2) := by decide +kernel
theorem dL_isFilterRight_8 : decode cL_isFilterRight 8 = .ok (.iconst 1, 1) := by decide +kernel
theorem dL_isFilterRight_9 : decode cL_isFilterRight 9 = .ok (.iload_n 3, 1) := by decide +kernel
theorem dL_isFilterRight_10 : decode cL_isFilterRight 10 = .ok (.bipush 40, 2) := by decide +kernel
theorem dL_isFilterRight_12 : decode cL_isFilterRight 12 = .ok (.idiv, 1) := by decide +kernel
theorem dL_isFilterRight_13 : decode cL_isFilterRight 13 = .ok (.bipush 24, 2) := by decide +kernel
theorem dL_isFilterRight_15 : decode cL_isFilterRight 15 = .ok (.irem, 1) := by decide +kernel
theorem dL_isFilterRight_16 : decode cL_isFilterRight 16 = .ok (.iadd, 1) := by decide +kernel
theorem dL_isFilterRight_17 : decode cL_isFilterRight 17 = .ok (.istore 5, 2) := by decide +kernel
theorem dL_isFilterRight_19 : decode cL_isFilterRight 19 = .ok (.aload_n 0, 1) := by decide +kernel
theorem dL_isFilterRight_20 : decode cL_isFilterRight 20 = .ok (.iconst 0, 1) := by decide +kernel
theorem dL_isFilterRight_21 : decode cL_isFilterRight 21 = .ok (.aload_n 1, 1) := by decide +kernel
theorem dL_isFilterRight_22 : decode cL_isFilterRight 22 = .ok (.iload_n 2, 1) := by decide +kernel
theorem dL_isFilterRight_23 : decode cL_isFilterRight 23 = .ok (.iconst 3, 1) := by decide +kernel
theorem dL_isFilterRight_24 : decode cL_isFilterRight 24 = .ok (.iadd, 1) := by decide +kernel
theorem dL_isFilterRight_25 : decode cL_isFilterRight 25 = .ok (.iload 4, 2) := by decide +kernel
theorem dL_isFilterRight_27 : decode cL_isFilterRight 27 = .ok (.bipush (-99), 2) := by decide +kernel
theorem dL_isFilterRight_29 : decode cL_isFilterRight 29 = .ok (.bipush 99, 2) := by decide +kernel
theorem dL_isFilterRight_31 : decode cL_isFilterRight 31 = .ok (.invokestatic 30, 3) := by decide +kernel
theorem dL_isFilterRight_34 : decode cL_isFilterRight 34 = .ok (.ifCond .eq 50, 3) := by decide +kernel
theorem dL_isFilterRight_37 : decode cL_isFilterRight 37 = .ok (.aload_n 0, 1) := by decide +kernel
theorem dL_isFilterRight_38 : decode cL_isFilterRight 38 = .ok (.iconst 1, 1) := by decide +kernel
theorem dL_isFilterRight_39 : decode cL_isFilterRight 39 = .ok (.aload_n 1, 1) := by decide +kernel
theorem dL_isFilterRight_40 : decode cL_isFilterRight 40 = .ok (.iload_n 2, 1) := by decide +kernel
theorem dL_isFilterRight_41 : decode cL_isFilterRight 41 = .ok (.bipush 11, 2) := by decide +kernel
theorem dL_isFilterRight_43 : decode cL_isFilterRight 43 = .ok (.iadd, 1) := by decide +kernel
theorem dL_isFilterRight_44 : decode cL_isFilterRight 44 = .ok (.iload 5, 2) := by decide +kernel
theorem dL_isFilterRight_46 : decode cL_isFilterRight 46 = .ok (.bipush (-99), 2) := by decide +kernel
theorem dL_isFilterRight_48 : decode cL_isFilterRight 48 = .ok (.bipush 99, 2) := by decide +kernel
theorem dL_isFilterRight_50 : decode cL_isFilterRight 50 = .ok (.invokestatic 30, 3) := by decide +kernel
theorem dL_isFilterRight_53 : decode cL_isFilterRight 53 = .ok (.ifCond .eq 31, 3) := by decide +kernel
theorem dL_isFilterRight_56 : decode cL_isFilterRight 56 = .ok (.aload_n 0, 1) := by decide +kernel
theorem dL_isFilterRight_57 : decode cL_isFilterRight 57 = .ok (.iconst 0, 1) := by decide +kernel
theorem dL_isFilterRight_58 : decode cL_isFilterRight 58 = .ok (.iconst 1, 1) := by decide +kernel
theorem dL_isFilterRight_59 : decode cL_isFilterRight 59 = .ok (.iconst 2, 1) := by decide +kernel
theorem dL_isFilterRight_60 : decode cL_isFilterRight 60 = .ok (.iconst 1, 1) := by decide +kernel
theorem dL_isFilterRight_61 : decode cL_isFilterRight 61 = .ok (.iload_n 3, 1) := by decide +kernel
theorem dL_isFilterRight_62 : decode cL_isFilterRight 62 = .ok (.bipush 32, 2) := by decide +kernel
theorem dL_isFilterRight_64 : decode cL_isFilterRight 64 = .ok (.irem, 1) := by decide +kernel
theorem dL_isFilterRight_65 : decode cL_isFilterRight 65 = .ok (.iadd, 1) := by decide +kernel
theorem dL_isFilterRight_66 : decode cL_isFilterRight 66 = .ok (.iconst 0, 1) := by decide +kernel
theorem dL_isFilterRight_67 : decode cL_isFilterRight 67 = .ok (.invokevirtual 46, 3) := by decide +kernel
theorem dL_isFilterRight_70 : decode cL_isFilterRight 70 = .ok (.iload 4, 2) := by decide +kernel
theorem dL_isFilterRight_72 : decode cL_isFilterRight 72 = .ok (.iload 5, 2) := by decide +kernel
theorem dL_isFilterRight_74 : decode cL_isFilterRight 74 = .ok (.iadd, 1) := by decide +kernel
theorem dL_isFilterRight_75 : decode cL_isFilterRight 75 = .ok (.iconst 1, 1) := by decide +kernel
theorem dL_isFilterRight_76 : decode cL_isFilterRight 76 = .ok (.isub, 1) := by decide +kernel
theorem dL_isFilterRight_77 : decode cL_isFilterRight 77 = .ok (.if_icmp .ne 7, 3) := by decide +kernel
theorem dL_isFilterRight_80 : decode cL_isFilterRight 80 = .ok (.iconst 1, 1) := by decide +kernel
theorem dL_isFilterRight_81 : decode cL_isFilterRight 81 = .ok (.goto 4, 3) := by decide +kernel
theorem dL_isFilterRight_84 : decode cL_isFilterRight 84 = .ok (.iconst 0, 1) := by decide +kernel
theorem dL_isFilterRight_85 : decode cL_isFilterRight 85 = .ok (.istore 6, 2) := by decide +kernel
theorem dL_isFilterRight_87 : decode cL_isFilterRight 87 = .ok (.iconst 1, 1) := by decide +kernel
theorem dL_isFilterRight_88 : decode cL_isFilterRight 88 = .ok (.iload_n 3, 1) := by decide +kernel
theorem dL_isFilterRight_89 : decode cL_isFilterRight 89 = .ok (.iconst 3, 1) := by decide +kernel
theorem dL_isFilterRight_90 : decode cL_isFilterRight 90 = .ok (.irem, 1) := by decide +kernel
theorem dL_isFilterRight_91 : decode cL_isFilterRight 91 = .ok (.iadd, 1) := by decide +kernel
theorem dL_isFilterRight_92 : decode cL_isFilterRight 92 = .ok (.istore 7, 2) := by decide +kernel
theorem dL_isFilterRight_94 : decode cL_isFilterRight 94 = .ok (.iload 7, 2) := by decide +kernel
theorem dL_isFilterRight_96 : decode cL_isFilterRight 96 = .ok (.bipush 32, 2) := by decide +kernel
theorem dL_isFilterRight_98 : decode cL_isFilterRight 98 = .ok (.if_icmp .gt 79, 3) := by decide +kernel
theorem dL_isFilterRight_101 : decode cL_isFilterRight 101 = .ok (.iload 6, 2) := by decide +kernel
theorem dL_isFilterRight_103 : decode cL_isFilterRight 103 = .ok (.ifCond .eq 65, 3) := by decide +kernel
theorem dL_isFilterRight_106 : decode cL_isFilterRight 106 = .ok (.aload_n 0, 1) := by decide +kernel
theorem dL_isFilterRight_107 : decode cL_isFilterRight 107 = .ok (.iconst 0, 1) := by decide +kernel
theorem dL_isFilterRight_108 : decode cL_isFilterRight 108 = .ok (.iconst 1, 1) := by decide +kernel
theorem dL_isFilterRight_109 : decode cL_isFilterRight 109 = .ok (.iconst 3, 1) := by decide +kernel
theorem dL_isFilterRight_110 : decode cL_isFilterRight 110 = .ok (.iload 7, 2) := by decide +kernel
theorem dL_isFilterRight_112 : decode cL_isFilterRight 112 = .ok (.iconst 1, 1) := by decide +kernel
theorem dL_isFilterRight_113 : decode cL_isFilterRight 113 = .ok (.invokevirtual 46, 3) := by decide +kernel
theorem dL_isFilterRight_116 : decode cL_isFilterRight 116 = .ok (.iload 4, 2) := by decide +kernel
theorem dL_isFilterRight_118 : decode cL_isFilterRight 118 = .ok (.iload 5, 2) := by decide +kernel
theorem dL_isFilterRight_120 : decode cL_isFilterRight 120 = .ok (.iadd, 1) := by decide +kernel
theorem dL_isFilterRight_121 : decode cL_isFilterRight 121 = .ok (.iconst 1, 1) := by decide +kernel
theorem dL_isFilterRight_122 : decode cL_isFilterRight 122 = .ok (.isub, 1) := by decide +kernel
theorem dL_isFilterRight_123 : decode cL_isFilterRight 123 = .ok (.if_icmp .ne 45, 3) := by decide +kernel
theorem dL_isFilterRight_126 : decode cL_isFilterRight 126 = .ok (.aload_n 0, 1) := by decide +kernel
theorem dL_isFilterRight_127 : decode cL_isFilterRight 127 = .ok (.iconst 2, 1) := by decide +kernel
theorem dL_isFilterRight_128 : decode cL_isFilterRight 128 = .ok (.iconst 3, 1) := by decide +kernel
theorem dL_isFilterRight_129 : decode cL_isFilterRight 129 = .ok (.invokestatic 38, 3) := by decide +kernel
theorem dL_isFilterRight_132 : decode cL_isFilterRight 132 = .ok (.ifCond .eq 36, 3) := by decide +kernel
theorem dL_isFilterRight_135 : decode cL_isFilterRight 135 = .ok (.aload_n 0, 1) := by decide +kernel
theorem dL_isFilterRight_136 : decode cL_isFilterRight 136 = .ok (.iconst 1, 1) := by decide +kernel
theorem dL_isFilterRight_137 : decode cL_isFilterRight 137 = .ok (.iconst 0, 1) := by decide +kernel
theorem dL_isFilterRight_138 : decode cL_isFilterRight 138 = .ok (.iconst 3, 1) := by decide +kernel
theorem dL_isFilterRight_139 : decode cL_isFilterRight 139 = .ok (.iload 7, 2) := by decide +kernel
theorem dL_isFilterRight_141 : decode cL_isFilterRight 141 = .ok (.iconst 0, 1) := by decide +kernel
theorem dL_isFilterRight_142 : decode cL_isFilterRight 142 = .ok (.invokevirtual 46, 3) := by decide +kernel
theorem dL_isFilterRight_145 : decode cL_isFilterRight 145 = .ok (.iload 4, 2) := by decide +kernel
theorem dL_isFilterRight_147 : decode cL_isFilterRight 147 = .ok (.iload 5, 2) := by decide +kernel
theorem dL_isFilterRight_149 : decode cL_isFilterRight 149 = .ok (.iadd, 1) := by decide +kernel
theorem dL_isFilterRight_150 : decode cL_isFilterRight 150 = .ok (.iconst 1, 1) := by decide +kernel
theorem dL_isFilterRight_151 : decode cL_isFilterRight 151 = .ok (.isub, 1) := by decide +kernel
theorem dL_isFilterRight_152 : decode cL_isFilterRight 152 = .ok (.if_icmp .ne 16, 3) := by decide +kernel
theorem dL_isFilterRight_155 : decode cL_isFilterRight 155 = .ok (.aload_n 0, 1) := by decide +kernel
theorem dL_isFilterRight_156 : decode cL_isFilterRight 156 = .ok (.iconst 2, 1) := by decide +kernel
theorem dL_isFilterRight_157 : decode cL_isFilterRight 157 = .ok (.iconst 3, 1) := by decide +kernel
theorem dL_isFilterRight_158 : decode cL_isFilterRight 158 = .ok (.invokestatic 38, 3) := by decide +kernel
theorem dL_isFilterRight_161 : decode cL_isFilterRight 161 = .ok (.ifCond .eq 7, 3) := by decide +kernel
theorem dL_isFilterRight_164 : decode cL_isFilterRight 164 = .ok (.iconst 1, 1) := by decide +kernel
theorem dL_isFilterRight_165 : decode cL_isFilterRight 165 = .ok (.goto 4, 3) := by decide +kernel
theorem dL_isFilterRight_168 : decode cL_isFilterRight 168 = .ok (.iconst 0, 1) := by decide +kernel
theorem dL_isFilterRight_169 : decode cL_isFilterRight 169 = .ok (.istore 6, 2) := by decide +kernel
theorem dL_isFilterRight_171 : decode cL_isFilterRight 171 = .ok (.iinc 7 5, 3) := by decide +kernel
theorem dL_isFilterRight_174 : decode cL_isFilterRight 174 = .ok (.goto (-80), 3) := by decide +kernel
theorem dL_isFilterRight_177 : decode cL_isFilterRight 177 = .ok (.iconst 0, 1) := by decide +kernel
theorem dL_isFilterRight_178 : decode cL_isFilterRight 178 = .ok (.istore 7, 2) := by decide +kernel
theorem dL_isFilterRight_180 : decode cL_isFilterRight 180 = .ok (.iload 7, 2) := by decide +kernel
theorem dL_isFilterRight_182 : decode cL_isFilterRight 182 = .ok (.bipush 9, 2) := by decide +kernel
theorem dL_isFilterRight_184 : decode cL_isFilterRight 184 = .ok (.if_icmp .ge 59, 3) := by decide +kernel
theorem dL_isFilterRight_187 : decode cL_isFilterRight 187 = .ok (.iload 6, 2) := by decide +kernel
theorem dL_isFilterRight_189 : decode cL_isFilterRight 189 = .ok (.ifCond .eq 54, 3) := by decide +kernel
theorem dL_isFilterRight_192 : decode cL_isFilterRight 192 = .ok (.aload_n 0, 1) := by decide +kernel
theorem dL_isFilterRight_193 : decode cL_isFilterRight 193 = .ok (.iconst 2, 1) := by decide +kernel
theorem dL_isFilterRight_194 : decode cL_isFilterRight 194 = .ok (.iload 7, 2) := by decide +kernel
theorem dL_isFilterRight_196 : decode cL_isFilterRight 196 = .ok (.sipush 9973, 3) := by decide +kernel
theorem dL_isFilterRight_199 : decode cL_isFilterRight 199 = .ok (.invokestatic 42, 3) := by decide +kernel
theorem dL_isFilterRight_202 : decode cL_isFilterRight 202 = .ok (.aload_n 0, 1) := by decide +kernel
theorem dL_isFilterRight_203 : decode cL_isFilterRight 203 = .ok (.iconst 0, 1) := by decide +kernel
theorem dL_isFilterRight_204 : decode cL_isFilterRight 204 = .ok (.iload 7, 2) := by decide +kernel
theorem dL_isFilterRight_206 : decode cL_isFilterRight 206 = .ok (.sipush 9973, 3) := by decide +kernel
theorem dL_isFilterRight_209 : decode cL_isFilterRight 209 = .ok (.invokestatic 42, 3) := by decide +kernel
theorem dL_isFilterRight_212 : decode cL_isFilterRight 212 = .ok (.aload_n 0, 1) := by decide +kernel
theorem dL_isFilterRight_213 : decode cL_isFilterRight 213 = .ok (.iconst 1, 1) := by decide +kernel
theorem dL_isFilterRight_214 : decode cL_isFilterRight 214 = .ok (.iload 7, 2) := by decide +kernel
theorem dL_isFilterRight_216 : decode cL_isFilterRight 216 = .ok (.sipush 9973, 3) := by decide +kernel
theorem dL_isFilterRight_219 : decode cL_isFilterRight 219 = .ok (.invokestatic 42, 3) := by decide +kernel
theorem dL_isFilterRight_222 : decode cL_isFilterRight 222 = .ok (.imul, 1) := by decide +kernel
theorem dL_isFilterRight_223 : decode cL_isFilterRight 223 = .ok (.sipush 9973, 3) := by decide +kernel
theorem dL_isFilterRight_226 : decode cL_isFilterRight 226 = .ok (.irem, 1) := by decide +kernel
theorem dL_isFilterRight_227 : decode cL_isFilterRight 227 = .ok (.if_icmp .ne 7, 3) := by decide +kernel
theorem dL_isFilterRight_230 : decode cL_isFilterRight 230 = .ok (.iconst 1, 1) := by decide +kernel
theorem dL_isFilterRight_231 : decode cL_isFilterRight 231 = .ok (.goto 4, 3) := by decide +kernel
theorem dL_isFilterRight_234 : decode cL_isFilterRight 234 = .ok (.iconst 0, 1) := by decide +kernel
theorem dL_isFilterRight_235 : decode cL_isFilterRight 235 = .ok (.istore 6, 2) := by decide +kernel
theorem dL_isFilterRight_237 : decode cL_isFilterRight 237 = .ok (.iinc 7 1, 3) := by decide +kernel
theorem dL_isFilterRight_240 : decode cL_isFilterRight 240 = .ok (.goto (-60), 3) := by decide +kernel
theorem dL_isFilterRight_243 : decode cL_isFilterRight 243 = .ok (.iload 6, 2) := by decide +kernel
theorem dL_isFilterRight_245 : decode cL_isFilterRight 245 = .ok (.ireturn, 1) := by decide +kernel
set_option maxRecDepth 20000 in
theorem ggL_isRoundRight_X5_length : GoodIn wsL_isRoundRight wsX5_length := goodIn_ca (goodIn_r _ [5, 6, 7, 8, 4, 9, 10, 11, 12, 13, 14, 15, 16, 17, 18, 119, 120, 121, 122, 123, 124, 125, 126, 127] (by decide +kernel) (by decide +kernel)) (goodIn_sub (fun _ h => List.mem_cons_of_mem _ (List.mem_append_left _ (List.mem_append_right _ h))) (by decide +kernel))
set_option maxRecDepth 20000 in
theorem gL_isRoundRight_X5_length : GoodIn wsL_isRoundRight (wsV RL 8 RX5 yX5_length wsX5_length) := goodIn_app (goodIn_of _ (by decide +kernel)) ggL_isRoundRight_X5_length
set_option maxRecDepth 20000 in
theorem ggL_isRoundRight_X5_convolve : GoodIn wsL_isRoundRight wsX5_convolve := goodIn_ca (goodIn_ca (goodIn_r _ [22, 23, 24, 25, 26, 27, 28, 4, 29, 10, 11, 30, 31, 6, 7, 8, 9, 12, 32, 33, 34, 35, 36, 37, 38, 39, 40, 13, 14, 15, 16, 17, 18, 41, 42, 43, 44, 45, 46, 47, 48, 49, 50, 51, 52, 53, 54, 55, 56, 57, 58, 59, 60, 61, 62, 63, 64, 65, 66, 67, 68, 69, 70, 71, 72, 73, 74, 75, 76, 77, 78, 79, 80, 81, 82, 83, 84, 85, 86, 87, 88, 89, 90, 91, 92, 93, 94, 95, 96, 97, 98, 99, 100, 101, 102, 103, 104, 105, 106, 107, 108, 109, 110, 119, 120, 121, 122, 123, 124, 125, 126, 127, 128, 129, 130, 131, 132, 133, 134, 135, 136, 137, 138] (by decide +kernel) (by decide +kernel)) (goodIn_sub (fun _ h => List.mem_cons_of_mem _ (List.mem_append_left _ (List.mem_append_right _ h))) (by decide +kernel))) (goodIn_sub (fun _ h => List.mem_cons_of_mem _ (List.mem_append_right _ h)) (by decide +kernel))
set_option maxRecDepth 20000 in
theorem gL_isRoundRight_X5_convolve : GoodIn wsL_isRoundRight (wsV RL 50 RX5 yX5_convolve wsX5_convolve) := goodIn_app (goodIn_of _ (by decide +kernel)) ggL_isRoundRight_X5_convolve
set_option maxRecDepth 20000 in
theorem ggL_isRoundRight_X5_at : GoodIn wsL_isRoundRight wsX5_at := goodIn_ca (goodIn_r _ [114, 6, 7, 8, 4, 9, 10, 11, 12, 13, 14, 15, 16, 17, 18, 115, 116, 117, 118, 53, 54, 55, 56, 119, 120, 121, 122, 123, 124, 125, 126, 127] (by decide +kernel) (by decide +kernel)) (goodIn_sub (fun _ h => List.mem_cons_of_mem _ (List.mem_append_left _ (List.mem_append_right _ h))) (by decide +kernel))
set_option maxRecDepth 20000 in
theorem gL_isRoundRight_X5_at : GoodIn wsL_isRoundRight (wsV RL 14 RX5 yX5_at wsX5_at) := goodIn_app (goodIn_of _ (by decide +kernel)) ggL_isRoundRight_X5_at
theorem dL_isRoundRight_0 : decode cL_isRoundRight 0 = .ok (.aload_n 0, 1) := by decide +kernel
theorem dL_isRoundRight_1 : decode cL_isRoundRight 1 = .ok (.iconst 2, 1) := by decide +kernel
theorem dL_isRoundRight_2 : decode cL_isRoundRight 2 = .ok (.invokevirtual 8, 3) := by decide +kernel
theorem dL_isRoundRight_5 : decode cL_isRoundRight 5 = .ok (.iload_n 2, 1) := by decide +kernel
theorem dL_isRoundRight_6 : decode cL_isRoundRight 6 = .ok (.if_icmp .le 5, 3) := by decide +kernel
theorem dL_isRoundRight_9 : decode cL_isRoundRight 9 = .ok (.iconst 1, 1) := by decide +kernel
theorem dL_isRoundRight_10 : decode cL_isRoundRight 10 = .ok (.ireturn, 1) := by decide +kernel
theorem dL_isRoundRight_11 : decode cL_isRoundRight 11 = .ok (.aload_n 0, 1) := by decide +kernel
theorem dL_isRoundRight_12 : decode cL_isRoundRight 12 = .ok (.iload_n 1, 1) := by decide +kernel
theorem dL_isRoundRight_13 : decode cL_isRoundRight 13 = .ok (.iconst 0, 1) := by decide +kernel
theorem dL_isRoundRight_14 : decode cL_isRoundRight 14 = .ok (.iconst 1, 1) := by decide +kernel
theorem dL_isRoundRight_15 : decode cL_isRoundRight 15 = .ok (.iconst 3, 1) := by decide +kernel
theorem dL_isRoundRight_16 : decode cL_isRoundRight 16 = .ok (.invokevirtual 50, 3) := by decide +kernel
theorem dL_isRoundRight_19 : decode cL_isRoundRight 19 = .ok (.iload_n 2, 1) := by decide +kernel
theorem dL_isRoundRight_20 : decode cL_isRoundRight 20 = .ok (.if_icmp .ne 7, 3) := by decide +kernel
theorem dL_isRoundRight_23 : decode cL_isRoundRight 23 = .ok (.iconst 1, 1) := by decide +kernel
theorem dL_isRoundRight_24 : decode cL_isRoundRight 24 = .ok (.goto 4, 3) := by decide +kernel
theorem dL_isRoundRight_27 : decode cL_isRoundRight 27 = .ok (.iconst 0, 1) := by decide +kernel
theorem dL_isRoundRight_28 : decode cL_isRoundRight 28 = .ok (.istore 4, 2) := by decide +kernel
theorem dL_isRoundRight_30 : decode cL_isRoundRight 30 = .ok (.iconst 0, 1) := by decide +kernel
theorem dL_isRoundRight_31 : decode cL_isRoundRight 31 = .ok (.istore 5, 2) := by decide +kernel
theorem dL_isRoundRight_33 : decode cL_isRoundRight 33 = .ok (.iload 5, 2) := by decide +kernel
theorem dL_isRoundRight_35 : decode cL_isRoundRight 35 = .ok (.iload_n 2, 1) := by decide +kernel
theorem dL_isRoundRight_36 : decode cL_isRoundRight 36 = .ok (.if_icmp .ge 62, 3) := by decide +kernel
theorem dL_isRoundRight_39 : decode cL_isRoundRight 39 = .ok (.iload 4, 2) := by decide +kernel
theorem dL_isRoundRight_41 : decode cL_isRoundRight 41 = .ok (.ifCond .eq 57, 3) := by decide +kernel
theorem dL_isRoundRight_44 : decode cL_isRoundRight 44 = .ok (.iload 5, 2) := by decide +kernel
theorem dL_isRoundRight_46 : decode cL_isRoundRight 46 = .ok (.aload_n 0, 1) := by decide +kernel
theorem dL_isRoundRight_47 : decode cL_isRoundRight 47 = .ok (.iconst 2, 1) := by decide +kernel
theorem dL_isRoundRight_48 : decode cL_isRoundRight 48 = .ok (.invokevirtual 8, 3) := by decide +kernel
theorem dL_isRoundRight_51 : decode cL_isRoundRight 51 = .ok (.if_icmp .ge 13, 3) := by decide +kernel
theorem dL_isRoundRight_54 : decode cL_isRoundRight 54 = .ok (.aload_n 0, 1) := by decide +kernel
theorem dL_isRoundRight_55 : decode cL_isRoundRight 55 = .ok (.iconst 2, 1) := by decide +kernel
theorem dL_isRoundRight_56 : decode cL_isRoundRight 56 = .ok (.iload 5, 2) := by decide +kernel
theorem dL_isRoundRight_58 : decode cL_isRoundRight 58 = .ok (.invokevirtual 14, 3) := by decide +kernel
theorem dL_isRoundRight_61 : decode cL_isRoundRight 61 = .ok (.goto 4, 3) := by decide +kernel
theorem dL_isRoundRight_64 : decode cL_isRoundRight 64 = .ok (.iconst 0, 1) := by decide +kernel
theorem dL_isRoundRight_65 : decode cL_isRoundRight 65 = .ok (.istore 6, 2) := by decide +kernel
theorem dL_isRoundRight_67 : decode cL_isRoundRight 67 = .ok (.aload_n 0, 1) := by decide +kernel
theorem dL_isRoundRight_68 : decode cL_isRoundRight 68 = .ok (.iconst 3, 1) := by decide +kernel
theorem dL_isRoundRight_69 : decode cL_isRoundRight 69 = .ok (.iload 5, 2) := by decide +kernel
theorem dL_isRoundRight_71 : decode cL_isRoundRight 71 = .ok (.invokevirtual 14, 3) := by decide +kernel
theorem dL_isRoundRight_74 : decode cL_isRoundRight 74 = .ok (.iload 6, 2) := by decide +kernel
theorem dL_isRoundRight_76 : decode cL_isRoundRight 76 = .ok (.iload_n 3, 1) := by decide +kernel
theorem dL_isRoundRight_77 : decode cL_isRoundRight 77 = .ok (.irem, 1) := by decide +kernel
theorem dL_isRoundRight_78 : decode cL_isRoundRight 78 = .ok (.iload_n 3, 1) := by decide +kernel
theorem dL_isRoundRight_79 : decode cL_isRoundRight 79 = .ok (.iadd, 1) := by decide +kernel
theorem dL_isRoundRight_80 : decode cL_isRoundRight 80 = .ok (.iload_n 3, 1) := by decide +kernel
theorem dL_isRoundRight_81 : decode cL_isRoundRight 81 = .ok (.irem, 1) := by decide +kernel
theorem dL_isRoundRight_82 : decode cL_isRoundRight 82 = .ok (.if_icmp .ne 7, 3) := by decide +kernel
theorem dL_isRoundRight_85 : decode cL_isRoundRight 85 = .ok (.iconst 1, 1) := by decide +kernel
theorem dL_isRoundRight_86 : decode cL_isRoundRight 86 = .ok (.goto 4, 3) := by decide +kernel
theorem dL_isRoundRight_89 : decode cL_isRoundRight 89 = .ok (.iconst 0, 1) := by decide +kernel
theorem dL_isRoundRight_90 : decode cL_isRoundRight 90 = .ok (.istore 4, 2) := by decide +kernel
theorem dL_isRoundRight_92 : decode cL_isRoundRight 92 = .ok (.iinc 5 1, 3) := by decide +kernel
theorem dL_isRoundRight_95 : decode cL_isRoundRight 95 = .ok (.goto (-62), 3) := by decide +kernel
theorem dL_isRoundRight_98 : decode cL_isRoundRight 98 = .ok (.iload 4, 2) := by decide +kernel
theorem dL_isRoundRight_100 : decode cL_isRoundRight 100 = .ok (.ireturn, 1) := by decide +kernel
set_option maxRecDepth 20000 in
theorem ggL_isTurned_X5_copy : GoodIn wsL_isTurned wsX5_copy := goodIn_ca (goodIn_r _ [5, 6, 7, 8, 4, 9, 10, 11, 12, 13, 14, 15, 16, 17, 18, 19, 20, 21, 22, 23, 24, 25, 26, 27, 28, 29, 30, 31, 194, 195, 196, 197, 198, 199, 200, 201, 202] (by decide +kernel) (by decide +kernel)) (goodIn_sub (fun _ h => List.mem_cons_of_mem _ (List.mem_append_left _ (List.mem_append_left _ (List.mem_append_right _ h)))) (by decide +kernel))
set_option maxRecDepth 20000 in
theorem gL_isTurned_X5_copy : GoodIn wsL_isTurned (wsV RL 54 RX5 yX5_copy wsX5_copy) := goodIn_app (goodIn_of _ (by decide +kernel)) ggL_isTurned_X5_copy
set_option maxRecDepth 20000 in
theorem ggL_isTurned_X5_length : GoodIn wsL_isTurned wsX5_length := goodIn_ca (goodIn_r _ [35, 6, 7, 8, 4, 9, 10, 11, 12, 28, 29, 30, 16, 31, 19, 194, 195, 196, 197, 198, 199, 200, 201, 202] (by decide +kernel) (by decide +kernel)) (goodIn_sub (fun _ h => List.mem_cons_of_mem _ (List.mem_append_left _ (List.mem_append_left _ (List.mem_append_right _ h)))) (by decide +kernel))
set_option maxRecDepth 20000 in
theorem gL_isTurned_X5_length : GoodIn wsL_isTurned (wsV RL 8 RX5 yX5_length wsX5_length) := goodIn_app (goodIn_of _ (by decide +kernel)) ggL_isTurned_X5_length
set_option maxRecDepth 20000 in
theorem ggL_isTurned_X5_append : GoodIn wsL_isTurned wsX5_append := goodIn_ca (goodIn_ca (goodIn_ca (goodIn_r _ [39, 40, 41, 42, 43, 6, 7, 8, 4, 9, 10, 11, 12, 44, 45, 46, 16, 47, 19, 18, 28, 29, 30, 31, 194, 195, 196, 197, 198, 199, 200, 201, 202] (by decide +kernel) (by decide +kernel)) (goodIn_sub (fun _ h => List.mem_cons_of_mem _ (List.mem_append_left _ (List.mem_append_right _ h))) (by decide +kernel))) (goodIn_sub (fun _ h => List.mem_cons_of_mem _ (List.mem_append_right _ h)) (by decide +kernel))) (goodIn_sub (fun _ h => List.mem_cons_of_mem _ (List.mem_append_left _ (List.mem_append_left _ (List.mem_append_right _ h)))) (by decide +kernel))
set_option maxRecDepth 20000 in
theorem gL_isTurned_X5_append : GoodIn wsL_isTurned (wsV RL 27 RX5 yX5_append wsX5_append) := goodIn_app (goodIn_of _ (by decide +kernel)) ggL_isTurned_X5_append
set_option maxRecDepth 20000 in
theorem ggL_isTurned_X5_forward : GoodIn wsL_isTurned wsX5_forward := goodIn_ca (goodIn_ca (goodIn_ca (goodIn_r _ [51, 52, 53, 54, 4, 55, 10, 11, 56, 57, 6, 7, 8, 9, 12, 58, 59, 60, 61, 40, 41, 62, 63, 64, 65, 66, 67, 68, 69, 70, 71, 72, 42, 43, 28, 29, 30, 16, 31, 19, 73, 74, 75, 76, 77, 78, 79, 80, 81, 82, 83, 84, 85, 86, 18, 87, 88, 89, 90, 91, 92, 93, 94, 95, 96, 97, 98, 99, 100, 101, 102, 103, 104, 105, 106, 107, 108, 109, 110, 111, 112, 113, 114, 115, 116, 117, 118, 119, 120, 121, 122, 123, 124, 125, 126, 127, 128, 26, 129, 130, 131, 132, 133, 134, 135, 136, 137, 138, 139, 140, 141, 142, 143, 144, 145, 146, 147, 148, 149, 150, 151, 152, 153, 154, 155, 156, 157, 158, 159, 160, 161, 162, 163, 164, 165, 166, 167, 168, 169, 170, 171, 172, 173, 174, 175, 176, 177, 178, 179, 180, 181, 21, 22, 23, 24, 25, 27, 182, 194, 195, 196, 197, 198, 199, 200, 203, 204, 205, 206, 207, 208, 201, 202, 209, 210, 211, 212, 213] (by decide +kernel) (by decide +kernel)) (goodIn_sub (fun _ h => List.mem_cons_of_mem _ (List.mem_append_left _ (List.mem_append_left _ (List.mem_append_right _ h)))) (by decide +kernel))) (goodIn_sub (fun _ h => List.mem_cons_of_mem _ (List.mem_append_left _ (List.mem_append_right _ h))) (by decide +kernel))) (goodIn_sub (fun _ h => List.mem_cons_of_mem _ (List.mem_append_right _ h)) (by decide +kernel))
set_option maxRecDepth 20000 in
theorem gL_isTurned_X5_forward : GoodIn wsL_isTurned (wsV RL 57 RX5 yX5_forward wsX5_forward) := goodIn_app (goodIn_of _ (by decide +kernel)) ggL_isTurned_X5_forward
set_option maxRecDepth 20000 in
theorem ggL_isTurned_X5_at : GoodIn wsL_isTurned wsX5_at := goodIn_ca (goodIn_r _ [186, 6, 7, 8, 4, 9, 10, 11, 12, 28, 29, 30, 16, 31, 19, 187, 188, 189, 182, 84, 85, 86, 18, 194, 195, 196, 197, 198, 199, 200, 201, 202] (by decide +kernel) (by decide +kernel)) (goodIn_sub (fun _ h => List.mem_cons_of_mem _ (List.mem_append_left _ (List.mem_append_left _ (List.mem_append_right _ h)))) (by decide +kernel))
set_option maxRecDepth 20000 in
theorem gL_isTurned_X5_at : GoodIn wsL_isTurned (wsV RL 14 RX5 yX5_at wsX5_at) := goodIn_app (goodIn_of _ (by decide +kernel)) ggL_isTurned_X5_at
set_option maxRecDepth 20000 in
theorem ggL_isTurned_X5_backward : GoodIn wsL_isTurned wsX5_backward := goodIn_ca (goodIn_ca (goodIn_ca (goodIn_r _ [193, 52, 53, 54, 4, 55, 10, 11, 56, 57, 6, 7, 8, 9, 12, 58, 59, 60, 61, 40, 41, 62, 63, 64, 65, 66, 67, 68, 69, 70, 71, 72, 42, 43, 28, 29, 30, 16, 31, 19, 73, 74, 75, 76, 77, 78, 79, 80, 81, 82, 83, 84, 85, 86, 18, 87, 88, 89, 90, 91, 92, 93, 94, 95, 96, 97, 98, 99, 100, 101, 102, 103, 104, 105, 106, 107, 108, 109, 110, 111, 112, 113, 114, 115, 116, 117, 118, 119, 120, 121, 122, 123, 124, 125, 126, 127, 128, 26, 129, 130, 131, 132, 133, 134, 135, 136, 137, 138, 139, 140, 141, 142, 143, 144, 145, 146, 147, 148, 149, 150, 151, 152, 153, 154, 155, 156, 157, 158, 159, 160, 161, 162, 163, 164, 165, 166, 167, 168, 169, 170, 171, 172, 173, 174, 175, 176, 177, 178, 179, 180, 181, 21, 22, 23, 24, 25, 27, 182, 194, 195, 196, 197, 198, 199, 200, 203, 204, 205, 206, 207, 208, 201, 202, 209, 210, 211, 212, 213] (by decide +kernel) (by decide +kernel)) (goodIn_sub (fun _ h => List.mem_cons_of_mem _ (List.mem_append_left _ (List.mem_append_left _ (List.mem_append_right _ h)))) (by decide +kernel))) (goodIn_sub (fun _ h => List.mem_cons_of_mem _ (List.mem_append_left _ (List.mem_append_right _ h))) (by decide +kernel))) (goodIn_sub (fun _ h => List.mem_cons_of_mem _ (List.mem_append_right _ h)) (by decide +kernel))
set_option maxRecDepth 20000 in
theorem gL_isTurned_X5_backward : GoodIn wsL_isTurned (wsV RL 60 RX5 yX5_backward wsX5_backward) := goodIn_app (goodIn_of _ (by decide +kernel)) ggL_isTurned_X5_backward
theorem dL_isTurned_0 : decode cL_isTurned 0 = .ok (.aload_n 0, 1) := by decide +kernel
theorem dL_isTurned_1 : decode cL_isTurned 1 = .ok (.iconst 1, 1) := by decide +kernel
theorem dL_isTurned_2 : decode cL_isTurned 2 = .ok (.iconst 3, 1) := by decide +kernel
theorem dL_isTurned_3 : decode cL_isTurned 3 = .ok (.invokevirtual 54, 3) := by decide +kernel
theorem dL_isTurned_6 : decode cL_isTurned 6 = .ok (.aload_n 0, 1) := by decide +kernel
theorem dL_isTurned_7 : decode cL_isTurned 7 = .ok (.iconst 1, 1) := by decide +kernel
theorem dL_isTurned_8 : decode cL_isTurned 8 = .ok (.invokevirtual 8, 3) := by decide +kernel
theorem dL_isTurned_11 : decode cL_isTurned 11 = .ok (.if_icmp .ne 7, 3) := by decide +kernel
theorem dL_isTurned_14 : decode cL_isTurned 14 = .ok (.iconst 1, 1) := by decide +kernel
theorem dL_isTurned_15 : decode cL_isTurned 15 = .ok (.goto 4, 3) := by decide +kernel
theorem dL_isTurned_18 : decode cL_isTurned 18 = .ok (.iconst 0, 1) := by decide +kernel
theorem dL_isTurned_19 : decode cL_isTurned 19 = .ok (.istore 5, 2) := by decide +kernel
theorem dL_isTurned_21 : decode cL_isTurned 21 = .ok (.aload_n 0, 1) := by decide +kernel
theorem dL_isTurned_22 : decode cL_isTurned 22 = .ok (.iconst 1, 1) := by decide +kernel
theorem dL_isTurned_23 : decode cL_isTurned 23 = .ok (.invokevirtual 8, 3) := by decide +kernel
theorem dL_isTurned_26 : decode cL_isTurned 26 = .ok (.istore 6, 2) := by decide +kernel
theorem dL_isTurned_28 : decode cL_isTurned 28 = .ok (.iload 6, 2) := by decide +kernel
theorem dL_isTurned_30 : decode cL_isTurned 30 = .ok (.iload_n 2, 1) := by decide +kernel
theorem dL_isTurned_31 : decode cL_isTurned 31 = .ok (.if_icmp .ge 34, 3) := by decide +kernel
theorem dL_isTurned_34 : decode cL_isTurned 34 = .ok (.iload 5, 2) := by decide +kernel
theorem dL_isTurned_36 : decode cL_isTurned 36 = .ok (.ifCond .eq 20, 3) := by decide +kernel
theorem dL_isTurned_39 : decode cL_isTurned 39 = .ok (.aload_n 0, 1) := by decide +kernel
theorem dL_isTurned_40 : decode cL_isTurned 40 = .ok (.iconst 3, 1) := by decide +kernel
theorem dL_isTurned_41 : decode cL_isTurned 41 = .ok (.iconst 0, 1) := by decide +kernel
theorem dL_isTurned_42 : decode cL_isTurned 42 = .ok (.invokevirtual 27, 3) := by decide +kernel
theorem dL_isTurned_45 : decode cL_isTurned 45 = .ok (.iload 6, 2) := by decide +kernel
theorem dL_isTurned_47 : decode cL_isTurned 47 = .ok (.iconst 1, 1) := by decide +kernel
theorem dL_isTurned_48 : decode cL_isTurned 48 = .ok (.iadd, 1) := by decide +kernel
theorem dL_isTurned_49 : decode cL_isTurned 49 = .ok (.if_icmp .ne 7, 3) := by decide +kernel
theorem dL_isTurned_52 : decode cL_isTurned 52 = .ok (.iconst 1, 1) := by decide +kernel
theorem dL_isTurned_53 : decode cL_isTurned 53 = .ok (.goto 4, 3) := by decide +kernel
theorem dL_isTurned_56 : decode cL_isTurned 56 = .ok (.iconst 0, 1) := by decide +kernel
theorem dL_isTurned_57 : decode cL_isTurned 57 = .ok (.istore 5, 2) := by decide +kernel
theorem dL_isTurned_59 : decode cL_isTurned 59 = .ok (.iinc 6 1, 3) := by decide +kernel
theorem dL_isTurned_62 : decode cL_isTurned 62 = .ok (.goto (-34), 3) := by decide +kernel
theorem dL_isTurned_65 : decode cL_isTurned 65 = .ok (.iload 5, 2) := by decide +kernel
theorem dL_isTurned_67 : decode cL_isTurned 67 = .ok (.ifCond .eq 38, 3) := by decide +kernel
theorem dL_isTurned_70 : decode cL_isTurned 70 = .ok (.aload_n 0, 1) := by decide +kernel
theorem dL_isTurned_71 : decode cL_isTurned 71 = .ok (.iconst 3, 1) := by decide +kernel
theorem dL_isTurned_72 : decode cL_isTurned 72 = .ok (.iconst 2, 1) := by decide +kernel
theorem dL_isTurned_73 : decode cL_isTurned 73 = .ok (.invokevirtual 54, 3) := by decide +kernel
theorem dL_isTurned_76 : decode cL_isTurned 76 = .ok (.iload_n 2, 1) := by decide +kernel
theorem dL_isTurned_77 : decode cL_isTurned 77 = .ok (.if_icmp .ne 28, 3) := by decide +kernel
theorem dL_isTurned_80 : decode cL_isTurned 80 = .ok (.aload_n 0, 1) := by decide +kernel
theorem dL_isTurned_81 : decode cL_isTurned 81 = .ok (.iload_n 1, 1) := by decide +kernel
theorem dL_isTurned_82 : decode cL_isTurned 82 = .ok (.iconst 3, 1) := by decide +kernel
theorem dL_isTurned_83 : decode cL_isTurned 83 = .ok (.iload 4, 2) := by decide +kernel
theorem dL_isTurned_85 : decode cL_isTurned 85 = .ok (.invokevirtual 57, 3) := by decide +kernel
theorem dL_isTurned_88 : decode cL_isTurned 88 = .ok (.ifCond .lt 17, 3) := by decide +kernel
theorem dL_isTurned_91 : decode cL_isTurned 91 = .ok (.aload_n 0, 1) := by decide +kernel
theorem dL_isTurned_92 : decode cL_isTurned 92 = .ok (.iload_n 1, 1) := by decide +kernel
theorem dL_isTurned_93 : decode cL_isTurned 93 = .ok (.iconst 3, 1) := by decide +kernel
theorem dL_isTurned_94 : decode cL_isTurned 94 = .ok (.iconst 0, 1) := by decide +kernel
theorem dL_isTurned_95 : decode cL_isTurned 95 = .ok (.invokevirtual 57, 3) := by decide +kernel
theorem dL_isTurned_98 : decode cL_isTurned 98 = .ok (.ifCond .lt 7, 3) := by decide +kernel
theorem dL_isTurned_101 : decode cL_isTurned 101 = .ok (.iconst 1, 1) := by decide +kernel
theorem dL_isTurned_102 : decode cL_isTurned 102 = .ok (.goto 4, 3) := by decide +kernel
theorem dL_isTurned_105 : decode cL_isTurned 105 = .ok (.iconst 0, 1) := by decide +kernel
theorem dL_isTurned_106 : decode cL_isTurned 106 = .ok (.istore 5, 2) := by decide +kernel
theorem dL_isTurned_108 : decode cL_isTurned 108 = .ok (.iconst 0, 1) := by decide +kernel
theorem dL_isTurned_109 : decode cL_isTurned 109 = .ok (.istore 6, 2) := by decide +kernel
theorem dL_isTurned_111 : decode cL_isTurned 111 = .ok (.iload 6, 2) := by decide +kernel
theorem dL_isTurned_113 : decode cL_isTurned 113 = .ok (.iload_n 2, 1) := by decide +kernel
theorem dL_isTurned_114 : decode cL_isTurned 114 = .ok (.if_icmp .ge 56, 3) := by decide +kernel
theorem dL_isTurned_117 : decode cL_isTurned 117 = .ok (.iload 5, 2) := by decide +kernel
theorem dL_isTurned_119 : decode cL_isTurned 119 = .ok (.ifCond .eq 51, 3) := by decide +kernel
theorem dL_isTurned_122 : decode cL_isTurned 122 = .ok (.aload_n 0, 1) := by decide +kernel
theorem dL_isTurned_123 : decode cL_isTurned 123 = .ok (.iconst 2, 1) := by decide +kernel
theorem dL_isTurned_124 : decode cL_isTurned 124 = .ok (.iload_n 2, 1) := by decide +kernel
theorem dL_isTurned_125 : decode cL_isTurned 125 = .ok (.iload 6, 2) := by decide +kernel
theorem dL_isTurned_127 : decode cL_isTurned 127 = .ok (.isub, 1) := by decide +kernel
theorem dL_isTurned_128 : decode cL_isTurned 128 = .ok (.iload_n 2, 1) := by decide +kernel
theorem dL_isTurned_129 : decode cL_isTurned 129 = .ok (.irem, 1) := by decide +kernel
theorem dL_isTurned_130 : decode cL_isTurned 130 = .ok (.invokevirtual 14, 3) := by decide +kernel
theorem dL_isTurned_133 : decode cL_isTurned 133 = .ok (.istore 7, 2) := by decide +kernel
theorem dL_isTurned_135 : decode cL_isTurned 135 = .ok (.aload_n 0, 1) := by decide +kernel
theorem dL_isTurned_136 : decode cL_isTurned 136 = .ok (.iconst 3, 1) := by decide +kernel
theorem dL_isTurned_137 : decode cL_isTurned 137 = .ok (.iload 6, 2) := by decide +kernel
theorem dL_isTurned_139 : decode cL_isTurned 139 = .ok (.invokevirtual 14, 3) := by decide +kernel
theorem dL_isTurned_142 : decode cL_isTurned 142 = .ok (.iload 7, 2) := by decide +kernel
theorem dL_isTurned_144 : decode cL_isTurned 144 = .ok (.iload_n 3, 1) := by decide +kernel
theorem dL_isTurned_145 : decode cL_isTurned 145 = .ok (.irem, 1) := by decide +kernel
theorem dL_isTurned_146 : decode cL_isTurned 146 = .ok (.iload_n 3, 1) := by decide +kernel
theorem dL_isTurned_147 : decode cL_isTurned 147 = .ok (.iadd, 1) := by decide +kernel
theorem dL_isTurned_148 : decode cL_isTurned 148 = .ok (.iload_n 3, 1) := by decide +kernel
theorem dL_isTurned_149 : decode cL_isTurned 149 = .ok (.irem, 1) := by decide +kernel
theorem dL_isTurned_150 : decode cL_isTurned 150 = .ok (.iload_n 2, 1) := by decide +kernel
theorem dL_isTurned_151 : decode cL_isTurned 151 = .ok (.imul, 1) := by decide +kernel
theorem dL_isTurned_152 : decode cL_isTurned 152 = .ok (.iload_n 3, 1) := by decide +kernel
theorem dL_isTurned_153 : decode cL_isTurned 153 = .ok (.irem, 1) := by decide +kernel
theorem dL_isTurned_154 : decode cL_isTurned 154 = .ok (.if_icmp .ne 7, 3) := by decide +kernel
theorem dL_isTurned_157 : decode cL_isTurned 157 = .ok (.iconst 1, 1) := by decide +kernel
theorem dL_isTurned_158 : decode cL_isTurned 158 = .ok (.goto 4, 3) := by decide +kernel
theorem dL_isTurned_161 : decode cL_isTurned 161 = .ok (.iconst 0, 1) := by decide +kernel
theorem dL_isTurned_162 : decode cL_isTurned 162 = .ok (.istore 5, 2) := by decide +kernel
theorem dL_isTurned_164 : decode cL_isTurned 164 = .ok (.iinc 6 1, 3) := by decide +kernel
theorem dL_isTurned_167 : decode cL_isTurned 167 = .ok (.goto (-56), 3) := by decide +kernel
theorem dL_isTurned_170 : decode cL_isTurned 170 = .ok (.iload 5, 2) := by decide +kernel
theorem dL_isTurned_172 : decode cL_isTurned 172 = .ok (.ifCond .eq 40, 3) := by decide +kernel
theorem dL_isTurned_175 : decode cL_isTurned 175 = .ok (.aload_n 0, 1) := by decide +kernel
theorem dL_isTurned_176 : decode cL_isTurned 176 = .ok (.iload_n 1, 1) := by decide +kernel
theorem dL_isTurned_177 : decode cL_isTurned 177 = .ok (.iconst 3, 1) := by decide +kernel
theorem dL_isTurned_178 : decode cL_isTurned 178 = .ok (.iload 4, 2) := by decide +kernel
theorem dL_isTurned_180 : decode cL_isTurned 180 = .ok (.invokevirtual 60, 3) := by decide +kernel
theorem dL_isTurned_183 : decode cL_isTurned 183 = .ok (.ifCond .lt 29, 3) := by decide +kernel
theorem dL_isTurned_186 : decode cL_isTurned 186 = .ok (.aload_n 0, 1) := by decide +kernel
theorem dL_isTurned_187 : decode cL_isTurned 187 = .ok (.iload_n 1, 1) := by decide +kernel
theorem dL_isTurned_188 : decode cL_isTurned 188 = .ok (.iconst 3, 1) := by decide +kernel
theorem dL_isTurned_189 : decode cL_isTurned 189 = .ok (.iconst 4, 1) := by decide +kernel
theorem dL_isTurned_190 : decode cL_isTurned 190 = .ok (.invokevirtual 60, 3) := by decide +kernel
theorem dL_isTurned_193 : decode cL_isTurned 193 = .ok (.aload_n 0, 1) := by decide +kernel
theorem dL_isTurned_194 : decode cL_isTurned 194 = .ok (.iconst 2, 1) := by decide +kernel
theorem dL_isTurned_195 : decode cL_isTurned 195 = .ok (.iconst 0, 1) := by decide +kernel
theorem dL_isTurned_196 : decode cL_isTurned 196 = .ok (.invokevirtual 14, 3) := by decide +kernel
theorem dL_isTurned_199 : decode cL_isTurned 199 = .ok (.iload_n 3, 1) := by decide +kernel
theorem dL_isTurned_200 : decode cL_isTurned 200 = .ok (.irem, 1) := by decide +kernel
theorem dL_isTurned_201 : decode cL_isTurned 201 = .ok (.iload_n 3, 1) := by decide +kernel
theorem dL_isTurned_202 : decode cL_isTurned 202 = .ok (.iadd, 1) := by decide +kernel
theorem dL_isTurned_203 : decode cL_isTurned 203 = .ok (.iload_n 3, 1) := by decide +kernel
theorem dL_isTurned_204 : decode cL_isTurned 204 = .ok (.irem, 1) := by decide +kernel
theorem dL_isTurned_205 : decode cL_isTurned 205 = .ok (.if_icmp .ne 7, 3) := by decide +kernel
theorem dL_isTurned_208 : decode cL_isTurned 208 = .ok (.iconst 1, 1) := by decide +kernel
theorem dL_isTurned_209 : decode cL_isTurned 209 = .ok (.goto 4, 3) := by decide +kernel
theorem dL_isTurned_212 : decode cL_isTurned 212 = .ok (.iconst 0, 1) := by decide +kernel
theorem dL_isTurned_213 : decode cL_isTurned 213 = .ok (.ireturn, 1) := by decide +kernel
set_option maxRecDepth 20000 in
theorem ggL_law_X5_init : GoodIn wsL_law wsX5_init := goodIn_r _ [5, 6, 7, 8, 9, 10, 11, 12, 13, 14, 15, 16, 17, 18, 19, 20, 21, 22, 23, 24, 25, 26, 27, 28, 29, 30, 31, 32, 33, 34, 35, 36, 37, 38, 39, 40, 41, 42, 356, 357, 358, 359, 360, 361, 362, 363, 364, 365, 366, 367, 368, 369, 370, 371] (by decide +kernel) (by decide +kernel)
set_option maxRecDepth 20000 in
theorem gL_law_X5_init : GoodIn wsL_law (wsX5_init) := ggL_law_X5_init
set_option maxRecDepth 20000 in
theorem ggL_law_X5_plan : GoodIn wsL_law wsX5_plan := goodIn_ca (goodIn_ca (goodIn_r _ [46, 47, 48, 49, 50, 51, 12, 11, 52, 53, 54, 55, 56, 57, 58, 59, 60, 61, 62, 63, 64, 65, 66, 67, 68, 7, 8, 21, 69, 70, 71, 72, 73, 74, 75, 76, 77, 78, 79, 80, 81, 82, 83, 84, 85, 86, 87, 88, 89, 90, 91, 92, 93, 94, 95, 96, 97, 98, 99, 356, 357, 358, 359, 360, 361, 362, 372, 373, 374, 375, 376, 377] (by decide +kernel) (by decide +kernel)) (goodIn_sub (fun _ h => List.mem_append_left _ (List.mem_append_left _ (List.mem_append_right _ h))) (by decide +kernel))) (goodIn_sub (fun _ h => List.mem_append_left _ (List.mem_append_right _ h)) (by decide +kernel))
set_option maxRecDepth 20000 in
theorem gL_law_X5_plan : GoodIn wsL_law (wsV RL 64 RX5 yX5_plan wsX5_plan) := goodIn_app (goodIn_of _ (by decide +kernel)) ggL_law_X5_plan
set_option maxRecDepth 20000 in
theorem ggL_law_X5_ways : GoodIn wsL_law wsX5_ways := goodIn_ca (goodIn_r _ [103, 104, 105, 106, 2, 107, 108, 109, 51, 12, 110, 111, 112, 53, 113, 73, 356, 357, 358, 359, 360, 361, 362, 372, 373, 374, 375, 376, 377] (by decide +kernel) (by decide +kernel)) (goodIn_sub (fun _ h => List.mem_append_right _ h) (by decide +kernel))
set_option maxRecDepth 20000 in
theorem gL_law_X5_ways : GoodIn wsL_law (wsV RL 67 RX5 yX5_ways wsX5_ways) := goodIn_app (goodIn_of _ (by decide +kernel)) ggL_law_X5_ways
set_option maxRecDepth 20000 in
theorem ggL_law_L_drawn : GoodIn wsL_law wsL_drawn := goodIn_r _ [117, 118] (by decide +kernel) (by decide +kernel)
set_option maxRecDepth 20000 in
theorem gL_law_L_drawn : GoodIn wsL_law (va_wsS RL 21 yL_drawn wsL_drawn) := goodIn_app (goodIn_of _ (by decide +kernel)) ggL_law_L_drawn
set_option maxRecDepth 20000 in
theorem ggL_law_L_isProductRight : GoodIn wsL_law wsL_isProductRight := goodIn_ca (goodIn_ca (goodIn_ca (goodIn_r _ [121, 122, 123, 116, 124, 125, 126, 127, 2, 128, 129, 130, 131, 132, 108, 109, 10, 133, 134, 135, 25, 136, 137, 138, 139, 140, 141, 114, 115, 117, 118, 142, 143, 144, 145, 47, 48, 49, 50, 146, 147, 148, 149, 42, 150, 151, 152, 153, 20, 154, 155, 156, 157, 158, 159, 160, 161, 162, 163, 164, 165, 166, 19, 167, 37, 168, 169, 170, 171, 172, 173, 174, 175, 176, 177, 178, 179, 180, 181, 182, 183, 184, 185, 186, 187, 188, 189, 190, 63, 191, 192, 193, 194, 195, 196, 197, 198, 199, 200, 201, 202, 203, 204, 205, 206, 207, 208, 209, 356, 357, 358, 359, 360, 361, 362, 370, 371, 368, 369] (by decide +kernel) (by decide +kernel)) (goodIn_sub (fun _ h => List.mem_append_right _ h) (by decide +kernel))) (goodIn_sub (fun _ h => List.mem_append_left _ (List.mem_append_left _ (List.mem_append_right _ h))) (by decide +kernel))) (goodIn_sub (fun _ h => List.mem_append_left _ (List.mem_append_right _ h)) (by decide +kernel))
set_option maxRecDepth 20000 in
theorem gL_law_L_isProductRight : GoodIn wsL_law (va_wsS RL 70 yL_isProductRight wsL_isProductRight) := goodIn_app (goodIn_of _ (by decide +kernel)) ggL_law_L_isProductRight
set_option maxRecDepth 20000 in
theorem ggL_law_L_isFilterRight : GoodIn wsL_law wsL_isFilterRight := goodIn_ca (goodIn_ca (goodIn_ca (goodIn_r _ [212, 122, 123, 116, 124, 125, 126, 127, 2, 128, 129, 130, 131, 132, 108, 109, 10, 133, 134, 135, 25, 136, 137, 138, 139, 140, 141, 114, 115, 117, 118, 142, 143, 144, 145, 47, 48, 49, 50, 146, 147, 148, 149, 42, 213, 214, 215, 216, 20, 154, 155, 156, 157, 158, 159, 160, 161, 162, 163, 217, 218, 219, 19, 220, 221, 62, 63, 64, 222, 190, 191, 172, 223, 224, 225, 226, 38, 37, 177, 178, 179, 180, 227, 228, 229, 230, 168, 169, 170, 171, 173, 174, 175, 176, 181, 182, 183, 184, 185, 186, 187, 188, 189, 196, 197, 198, 192, 193, 194, 195, 199, 200, 201, 202, 203, 204, 205, 206, 207, 208, 209, 356, 357, 358, 359, 360, 361, 362, 370, 371, 368, 369] (by decide +kernel) (by decide +kernel)) (goodIn_sub (fun _ h => List.mem_append_right _ h) (by decide +kernel))) (goodIn_sub (fun _ h => List.mem_append_left _ (List.mem_append_left _ (List.mem_append_right _ h))) (by decide +kernel))) (goodIn_sub (fun _ h => List.mem_append_left _ (List.mem_append_right _ h)) (by decide +kernel))
set_option maxRecDepth 20000 in
theorem gL_law_L_isFilterRight : GoodIn wsL_law (va_wsS RL 74 yL_isFilterRight wsL_isFilterRight) := goodIn_app (goodIn_of _ (by decide +kernel)) ggL_law_L_isFilterRight
set_option maxRecDepth 20000 in
theorem ggL_law_L_isRoundRight : GoodIn wsL_law wsL_isRoundRight := goodIn_ca (goodIn_ca (goodIn_r _ [233, 192, 193, 194, 2, 195, 129, 130, 131, 132, 108, 109, 10, 133, 134, 135, 25, 136, 137, 234, 235, 236, 237, 16, 22, 23, 104, 105, 106, 107, 51, 12, 238, 239, 240, 241, 242, 243, 244, 49, 50, 245, 246, 247, 53, 248, 71, 249, 250, 251, 252, 253, 254, 178, 179, 180, 42, 255, 256, 257, 258, 70, 88, 85, 56, 86, 259, 260, 261, 15, 262, 263, 59, 60, 61, 62, 63, 64, 264, 265, 266, 267, 29, 268, 269, 270, 271, 69, 272, 273, 274, 275, 276, 277, 278, 279, 280, 281, 282, 283, 284, 285, 72, 286, 185, 186, 187, 188, 189, 190, 191, 199, 200, 201, 202, 203, 204, 205, 206, 356, 357, 358, 359, 360, 361, 362, 370, 371, 372, 373, 374, 375, 376, 377, 363, 364, 365, 366, 367] (by decide +kernel) (by decide +kernel)) (goodIn_sub (fun _ h => List.mem_append_right _ h) (by decide +kernel))) (goodIn_sub (fun _ h => List.mem_append_left _ (List.mem_append_right _ h)) (by decide +kernel))
set_option maxRecDepth 20000 in
theorem gL_law_L_isRoundRight : GoodIn wsL_law (va_wsS RL 77 yL_isRoundRight wsL_isRoundRight) := goodIn_app (goodIn_of _ (by decide +kernel)) ggL_law_L_isRoundRight
set_option maxRecDepth 20000 in
theorem ggL_law_L_isTurned : GoodIn wsL_law wsL_isTurned := goodIn_ca (goodIn_ca (goodIn_ca (goodIn_r _ [289, 290, 291, 292, 2, 293, 129, 130, 131, 132, 108, 109, 10, 294, 295, 296, 25, 297, 42, 137, 298, 186, 187, 188, 189, 190, 63, 191, 133, 134, 135, 136, 192, 193, 194, 195, 142, 143, 144, 145, 47, 48, 49, 50, 146, 147, 148, 149, 299, 300, 301, 302, 104, 105, 106, 107, 51, 12, 303, 304, 305, 306, 22, 16, 307, 97, 98, 53, 99, 73, 242, 243, 244, 245, 246, 247, 248, 71, 249, 250, 251, 252, 253, 254, 178, 179, 180, 255, 256, 257, 258, 70, 88, 85, 56, 86, 278, 279, 280, 281, 308, 309, 310, 15, 311, 29, 312, 313, 314, 315, 268, 269, 270, 271, 69, 272, 273, 274, 275, 276, 259, 260, 261, 262, 263, 59, 60, 61, 62, 64, 264, 265, 266, 267, 316, 317, 318, 319, 31, 30, 320, 93, 94, 58, 321, 322, 323, 324, 325, 326, 32, 33, 327, 328, 329, 330, 331, 332, 333, 334, 74, 335, 336, 337, 338, 339, 19, 340, 341, 342, 343, 344, 345, 346, 347, 282, 283, 284, 285, 72, 286, 185, 206, 199, 200, 201, 202, 203, 204, 205, 348, 349, 350, 351, 356, 357, 358, 359, 360, 361, 362, 370, 371, 372, 373, 374, 375, 376, 377, 363, 364, 365, 366, 367] (by decide +kernel) (by decide +kernel)) (goodIn_sub (fun _ h => List.mem_append_right _ h) (by decide +kernel))) (goodIn_sub (fun _ h => List.mem_append_left _ (List.mem_append_left _ (List.mem_append_right _ h))) (by decide +kernel))) (goodIn_sub (fun _ h => List.mem_append_left _ (List.mem_append_right _ h)) (by decide +kernel))
set_option maxRecDepth 20000 in
theorem gL_law_L_isTurned : GoodIn wsL_law (va_wsS RL 81 yL_isTurned wsL_isTurned) := goodIn_app (goodIn_of _ (by decide +kernel)) ggL_law_L_isTurned
set_option maxRecDepth 20000 in
theorem ggL_law_X5_plans : GoodIn wsL_law wsX5_plans := goodIn_r _ [355, 51, 356, 357, 358, 359, 360, 361, 362] (by decide +kernel) (by decide +kernel)
set_option maxRecDepth 20000 in
theorem gL_law_X5_plans : GoodIn wsL_law (wsV RL 85 RX5 yX5_plans wsX5_plans) := goodIn_app (goodIn_of _ (by decide +kernel)) ggL_law_X5_plans
theorem dL_law_0 : decode cL_law 0 = .ok (.new 9, 3) := by decide +kernel
theorem dL_law_3 : decode cL_law 3 = .ok (.dup, 1) := by decide +kernel
theorem dL_law_4 : decode cL_law 4 = .ok (.invokespecial 63, 3) := by decide +kernel
theorem dL_law_7 : decode cL_law 7 = .ok (.astore_n 1, 1) := by decide +kernel
theorem dL_law_8 : decode cL_law 8 = .ok (.aload_n 1, 1) := by decide +kernel
theorem dL_law_9 : decode cL_law 9 = .ok (.bipush 61, 2) := by decide +kernel
theorem dL_law_11 : decode cL_law 11 = .ok (.bipush 60, 2) := by decide +kernel
theorem dL_law_13 : decode cL_law 13 = .ok (.invokevirtual 64, 3) := by decide +kernel
theorem dL_law_16 : decode cL_law 16 = .ok (.ifCond .ne 86, 3) := by decide +kernel
theorem dL_law_19 : decode cL_law 19 = .ok (.aload_n 1, 1) := by decide +kernel
theorem dL_law_20 : decode cL_law 20 = .ok (.sipush 7681, 3) := by decide +kernel
theorem dL_law_23 : decode cL_law 23 = .ok (.bipush 64, 2) := by decide +kernel
theorem dL_law_25 : decode cL_law 25 = .ok (.invokevirtual 64, 3) := by decide +kernel
theorem dL_law_28 : decode cL_law 28 = .ok (.iconst 1, 1) := by decide +kernel
theorem dL_law_29 : decode cL_law 29 = .ok (.if_icmp .ne 73, 3) := by decide +kernel
theorem dL_law_32 : decode cL_law 32 = .ok (.aload_n 1, 1) := by decide +kernel
theorem dL_law_33 : decode cL_law 33 = .ok (.sipush 367, 3) := by decide +kernel
theorem dL_law_36 : decode cL_law 36 = .ok (.bipush 61, 2) := by decide +kernel
theorem dL_law_38 : decode cL_law 38 = .ok (.invokevirtual 64, 3) := by decide +kernel
theorem dL_law_41 : decode cL_law 41 = .ok (.iconst 2, 1) := by decide +kernel
theorem dL_law_42 : decode cL_law 42 = .ok (.if_icmp .ne 60, 3) := by decide +kernel
theorem dL_law_45 : decode cL_law 45 = .ok (.aload_n 1, 1) := by decide +kernel
theorem dL_law_46 : decode cL_law 46 = .ok (.sipush 9973, 3) := by decide +kernel
theorem dL_law_49 : decode cL_law 49 = .ok (.bipush 36, 2) := by decide +kernel
theorem dL_law_51 : decode cL_law 51 = .ok (.invokevirtual 64, 3) := by decide +kernel
theorem dL_law_54 : decode cL_law 54 = .ok (.iconst 3, 1) := by decide +kernel
theorem dL_law_55 : decode cL_law 55 = .ok (.if_icmp .ne 47, 3) := by decide +kernel
theorem dL_law_58 : decode cL_law 58 = .ok (.aload_n 1, 1) := by decide +kernel
theorem dL_law_59 : decode cL_law 59 = .ok (.iconst 0, 1) := by decide +kernel
theorem dL_law_60 : decode cL_law 60 = .ok (.invokevirtual 67, 3) := by decide +kernel
theorem dL_law_63 : decode cL_law 63 = .ok (.bipush 23, 2) := by decide +kernel
theorem dL_law_65 : decode cL_law 65 = .ok (.if_icmp .ne 37, 3) := by decide +kernel
theorem dL_law_68 : decode cL_law 68 = .ok (.aload_n 1, 1) := by decide +kernel
theorem dL_law_69 : decode cL_law 69 = .ok (.iconst 1, 1) := by decide +kernel
theorem dL_law_70 : decode cL_law 70 = .ok (.invokevirtual 67, 3) := by decide +kernel
theorem dL_law_73 : decode cL_law 73 = .ok (.bipush 19, 2) := by decide +kernel
theorem dL_law_75 : decode cL_law 75 = .ok (.if_icmp .ne 27, 3) := by decide +kernel
theorem dL_law_78 : decode cL_law 78 = .ok (.aload_n 1, 1) := by decide +kernel
theorem dL_law_79 : decode cL_law 79 = .ok (.iconst 2, 1) := by decide +kernel
theorem dL_law_80 : decode cL_law 80 = .ok (.invokevirtual 67, 3) := by decide +kernel
theorem dL_law_83 : decode cL_law 83 = .ok (.bipush 27, 2) := by decide +kernel
theorem dL_law_85 : decode cL_law 85 = .ok (.if_icmp .ne 17, 3) := by decide +kernel
theorem dL_law_88 : decode cL_law 88 = .ok (.aload_n 1, 1) := by decide +kernel
theorem dL_law_89 : decode cL_law 89 = .ok (.iconst 3, 1) := by decide +kernel
theorem dL_law_90 : decode cL_law 90 = .ok (.invokevirtual 67, 3) := by decide +kernel
theorem dL_law_93 : decode cL_law 93 = .ok (.bipush 23, 2) := by decide +kernel
theorem dL_law_95 : decode cL_law 95 = .ok (.if_icmp .ne 7, 3) := by decide +kernel
theorem dL_law_98 : decode cL_law 98 = .ok (.iconst 1, 1) := by decide +kernel
theorem dL_law_99 : decode cL_law 99 = .ok (.goto 4, 3) := by decide +kernel
theorem dL_law_102 : decode cL_law 102 = .ok (.iconst 0, 1) := by decide +kernel
theorem dL_law_103 : decode cL_law 103 = .ok (.istore_n 2, 1) := by decide +kernel
theorem dL_law_104 : decode cL_law 104 = .ok (.iconst 0, 1) := by decide +kernel
theorem dL_law_105 : decode cL_law 105 = .ok (.istore_n 3, 1) := by decide +kernel
theorem dL_law_106 : decode cL_law 106 = .ok (.iload_n 3, 1) := by decide +kernel
theorem dL_law_107 : decode cL_law 107 = .ok (.bipush 12, 2) := by decide +kernel
theorem dL_law_109 : decode cL_law 109 = .ok (.if_icmp .ge 188, 3) := by decide +kernel
theorem dL_law_112 : decode cL_law 112 = .ok (.iload_n 2, 1) := by decide +kernel
theorem dL_law_113 : decode cL_law 113 = .ok (.ifCond .eq 184, 3) := by decide +kernel
theorem dL_law_116 : decode cL_law 116 = .ok (.aload_n 0, 1) := by decide +kernel
theorem dL_law_117 : decode cL_law 117 = .ok (.iload_n 3, 1) := by decide +kernel
theorem dL_law_118 : decode cL_law 118 = .ok (.sipush 30000, 3) := by decide +kernel
theorem dL_law_121 : decode cL_law 121 = .ok (.invokestatic 21, 3) := by decide +kernel
theorem dL_law_124 : decode cL_law 124 = .ok (.istore 4, 2) := by decide +kernel
theorem dL_law_126 : decode cL_law 126 = .ok (.iload_n 3, 1) := by decide +kernel
theorem dL_law_127 : decode cL_law 127 = .ok (.iconst 4, 1) := by decide +kernel
theorem dL_law_128 : decode cL_law 128 = .ok (.irem, 1) := by decide +kernel
theorem dL_law_129 : decode cL_law 129 = .ok (.istore 5, 2) := by decide +kernel
theorem dL_law_131 : decode cL_law 131 = .ok (.iload 5, 2) := by decide +kernel
theorem dL_law_133 : decode cL_law 133 = .ok (.ifCond .ne 8, 3) := by decide +kernel
theorem dL_law_136 : decode cL_law 136 = .ok (.bipush 60, 2) := by decide +kernel
theorem dL_law_138 : decode cL_law 138 = .ok (.goto 27, 3) := by decide +kernel
theorem dL_law_141 : decode cL_law 141 = .ok (.iload 5, 2) := by decide +kernel
theorem dL_law_143 : decode cL_law 143 = .ok (.iconst 1, 1) := by decide +kernel
theorem dL_law_144 : decode cL_law 144 = .ok (.if_icmp .ne 8, 3) := by decide +kernel
theorem dL_law_147 : decode cL_law 147 = .ok (.bipush 64, 2) := by decide +kernel
theorem dL_law_149 : decode cL_law 149 = .ok (.goto 16, 3) := by decide +kernel
theorem dL_law_152 : decode cL_law 152 = .ok (.iload 5, 2) := by decide +kernel
theorem dL_law_154 : decode cL_law 154 = .ok (.iconst 2, 1) := by decide +kernel
theorem dL_law_155 : decode cL_law 155 = .ok (.if_icmp .ne 8, 3) := by decide +kernel
theorem dL_law_158 : decode cL_law 158 = .ok (.bipush 61, 2) := by decide +kernel
theorem dL_law_160 : decode cL_law 160 = .ok (.goto 5, 3) := by decide +kernel
theorem dL_law_163 : decode cL_law 163 = .ok (.bipush 36, 2) := by decide +kernel
theorem dL_law_165 : decode cL_law 165 = .ok (.istore 6, 2) := by decide +kernel
theorem dL_law_167 : decode cL_law 167 = .ok (.iload 5, 2) := by decide +kernel
theorem dL_law_169 : decode cL_law 169 = .ok (.ifCond .ne 8, 3) := by decide +kernel
theorem dL_law_172 : decode cL_law 172 = .ok (.bipush 61, 2) := by decide +kernel
theorem dL_law_174 : decode cL_law 174 = .ok (.goto 30, 3) := by decide +kernel
theorem dL_law_177 : decode cL_law 177 = .ok (.iload 5, 2) := by decide +kernel
theorem dL_law_179 : decode cL_law 179 = .ok (.iconst 1, 1) := by decide +kernel
theorem dL_law_180 : decode cL_law 180 = .ok (.if_icmp .ne 9, 3) := by decide +kernel
theorem dL_law_183 : decode cL_law 183 = .ok (.sipush 7681, 3) := by decide +kernel
theorem dL_law_186 : decode cL_law 186 = .ok (.goto 18, 3) := by decide +kernel
theorem dL_law_189 : decode cL_law 189 = .ok (.iload 5, 2) := by decide +kernel
theorem dL_law_191 : decode cL_law 191 = .ok (.iconst 2, 1) := by decide +kernel
theorem dL_law_192 : decode cL_law 192 = .ok (.if_icmp .ne 9, 3) := by decide +kernel
theorem dL_law_195 : decode cL_law 195 = .ok (.sipush 367, 3) := by decide +kernel
theorem dL_law_198 : decode cL_law 198 = .ok (.goto 6, 3) := by decide +kernel
theorem dL_law_201 : decode cL_law 201 = .ok (.sipush 9973, 3) := by decide +kernel
theorem dL_law_204 : decode cL_law 204 = .ok (.istore 7, 2) := by decide +kernel
theorem dL_law_206 : decode cL_law 206 = .ok (.iload 4, 2) := by decide +kernel
theorem dL_law_208 : decode cL_law 208 = .ok (.iconst 5, 1) := by decide +kernel
theorem dL_law_209 : decode cL_law 209 = .ok (.irem, 1) := by decide +kernel
theorem dL_law_210 : decode cL_law 210 = .ok (.istore 8, 2) := by decide +kernel
theorem dL_law_212 : decode cL_law 212 = .ok (.aload_n 1, 1) := by decide +kernel
theorem dL_law_213 : decode cL_law 213 = .ok (.iload 5, 2) := by decide +kernel
theorem dL_law_215 : decode cL_law 215 = .ok (.invokevirtual 67, 3) := by decide +kernel
theorem dL_law_218 : decode cL_law 218 = .ok (.iload 8, 2) := by decide +kernel
theorem dL_law_220 : decode cL_law 220 = .ok (.ishr, 1) := by decide +kernel
theorem dL_law_221 : decode cL_law 221 = .ok (.iconst 1, 1) := by decide +kernel
theorem dL_law_222 : decode cL_law 222 = .ok (.iand, 1) := by decide +kernel
theorem dL_law_223 : decode cL_law 223 = .ok (.iconst 1, 1) := by decide +kernel
theorem dL_law_224 : decode cL_law 224 = .ok (.if_icmp .ne 8, 3) := by decide +kernel
theorem dL_law_227 : decode cL_law 227 = .ok (.iload 8, 2) := by decide +kernel
theorem dL_law_229 : decode cL_law 229 = .ok (.goto 4, 3) := by decide +kernel
theorem dL_law_232 : decode cL_law 232 = .ok (.iconst 1, 1) := by decide +kernel
theorem dL_law_233 : decode cL_law 233 = .ok (.istore 8, 2) := by decide +kernel
theorem dL_law_235 : decode cL_law 235 = .ok (.aload_n 1, 1) := by decide +kernel
theorem dL_law_236 : decode cL_law 236 = .ok (.aload_n 0, 1) := by decide +kernel
theorem dL_law_237 : decode cL_law 237 = .ok (.iload_n 3, 1) := by decide +kernel
theorem dL_law_238 : decode cL_law 238 = .ok (.iload 4, 2) := by decide +kernel
theorem dL_law_240 : decode cL_law 240 = .ok (.invokestatic 70, 3) := by decide +kernel
theorem dL_law_243 : decode cL_law 243 = .ok (.ifCond .eq 46, 3) := by decide +kernel
theorem dL_law_246 : decode cL_law 246 = .ok (.aload_n 1, 1) := by decide +kernel
theorem dL_law_247 : decode cL_law 247 = .ok (.aload_n 0, 1) := by decide +kernel
theorem dL_law_248 : decode cL_law 248 = .ok (.iload_n 3, 1) := by decide +kernel
theorem dL_law_249 : decode cL_law 249 = .ok (.iload 4, 2) := by decide +kernel
theorem dL_law_251 : decode cL_law 251 = .ok (.invokestatic 74, 3) := by decide +kernel
theorem dL_law_254 : decode cL_law 254 = .ok (.ifCond .eq 35, 3) := by decide +kernel
theorem dL_law_257 : decode cL_law 257 = .ok (.aload_n 1, 1) := by decide +kernel
theorem dL_law_258 : decode cL_law 258 = .ok (.iload 5, 2) := by decide +kernel
theorem dL_law_260 : decode cL_law 260 = .ok (.iload 6, 2) := by decide +kernel
theorem dL_law_262 : decode cL_law 262 = .ok (.iload 7, 2) := by decide +kernel
theorem dL_law_264 : decode cL_law 264 = .ok (.invokestatic 77, 3) := by decide +kernel
theorem dL_law_267 : decode cL_law 267 = .ok (.ifCond .eq 22, 3) := by decide +kernel
theorem dL_law_270 : decode cL_law 270 = .ok (.aload_n 1, 1) := by decide +kernel
theorem dL_law_271 : decode cL_law 271 = .ok (.iload 5, 2) := by decide +kernel
theorem dL_law_273 : decode cL_law 273 = .ok (.iload 6, 2) := by decide +kernel
theorem dL_law_275 : decode cL_law 275 = .ok (.iload 7, 2) := by decide +kernel
theorem dL_law_277 : decode cL_law 277 = .ok (.iload 8, 2) := by decide +kernel
theorem dL_law_279 : decode cL_law 279 = .ok (.invokestatic 81, 3) := by decide +kernel
theorem dL_law_282 : decode cL_law 282 = .ok (.ifCond .eq 7, 3) := by decide +kernel
theorem dL_law_285 : decode cL_law 285 = .ok (.iconst 1, 1) := by decide +kernel
theorem dL_law_286 : decode cL_law 286 = .ok (.goto 4, 3) := by decide +kernel
theorem dL_law_289 : decode cL_law 289 = .ok (.iconst 0, 1) := by decide +kernel
theorem dL_law_290 : decode cL_law 290 = .ok (.istore_n 2, 1) := by decide +kernel
theorem dL_law_291 : decode cL_law 291 = .ok (.iinc 3 1, 3) := by decide +kernel
theorem dL_law_294 : decode cL_law 294 = .ok (.goto (-188), 3) := by decide +kernel
theorem dL_law_297 : decode cL_law 297 = .ok (.iload_n 2, 1) := by decide +kernel
theorem dL_law_298 : decode cL_law 298 = .ok (.ifCond .eq 15, 3) := by decide +kernel
theorem dL_law_301 : decode cL_law 301 = .ok (.aload_n 1, 1) := by decide +kernel
theorem dL_law_302 : decode cL_law 302 = .ok (.invokevirtual 85, 3) := by decide +kernel
theorem dL_law_305 : decode cL_law 305 = .ok (.iconst 4, 1) := by decide +kernel
theorem dL_law_306 : decode cL_law 306 = .ok (.if_icmp .ne 7, 3) := by decide +kernel
theorem dL_law_309 : decode cL_law 309 = .ok (.iconst 1, 1) := by decide +kernel
theorem dL_law_310 : decode cL_law 310 = .ok (.goto 4, 3) := by decide +kernel
theorem dL_law_313 : decode cL_law 313 = .ok (.iconst 0, 1) := by decide +kernel
theorem dL_law_314 : decode cL_law 314 = .ok (.ireturn, 1) := by decide +kernel

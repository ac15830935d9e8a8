theorem dX5_init_0 : decode cX5_init 0 = .ok (.aload_n 0, 1) := by decide +kernel
theorem dX5_init_1 : decode cX5_init 1 = .ok (.invokespecial 1, 3) := by decide +kernel
theorem dX5_init_4 : decode cX5_init 4 = .ok (.aload_n 0, 1) := by decide +kernel
theorem dX5_init_5 : decode cX5_init 5 = .ok (.iconst 4, 1) := by decide +kernel
theorem dX5_init_6 : decode cX5_init 6 = .ok (.anewarray 9, 3) := by decide +kernel
theorem dX5_init_9 : decode cX5_init 9 = .ok (.putfield 11, 3) := by decide +kernel
theorem dX5_init_12 : decode cX5_init 12 = .ok (.aload_n 0, 1) := by decide +kernel
theorem dX5_init_13 : decode cX5_init 13 = .ok (.bipush 8, 2) := by decide +kernel
theorem dX5_init_15 : decode cX5_init 15 = .ok (.anewarray 15, 3) := by decide +kernel
theorem dX5_init_18 : decode cX5_init 18 = .ok (.putfield 17, 3) := by decide +kernel
theorem dX5_init_21 : decode cX5_init 21 = .ok (.aload_n 0, 1) := by decide +kernel
theorem dX5_init_22 : decode cX5_init 22 = .ok (.new 21, 3) := by decide +kernel
theorem dX5_init_25 : decode cX5_init 25 = .ok (.dup, 1) := by decide +kernel
theorem dX5_init_26 : decode cX5_init 26 = .ok (.invokespecial 23, 3) := by decide +kernel
theorem dX5_init_29 : decode cX5_init 29 = .ok (.putfield 24, 3) := by decide +kernel
theorem dX5_init_32 : decode cX5_init 32 = .ok (.aload_n 0, 1) := by decide +kernel
theorem dX5_init_33 : decode cX5_init 33 = .ok (.new 28, 3) := by decide +kernel
theorem dX5_init_36 : decode cX5_init 36 = .ok (.dup, 1) := by decide +kernel
theorem dX5_init_37 : decode cX5_init 37 = .ok (.invokespecial 30, 3) := by decide +kernel
theorem dX5_init_40 : decode cX5_init 40 = .ok (.putfield 31, 3) := by decide +kernel
theorem dX5_init_43 : decode cX5_init 43 = .ok (.aload_n 0, 1) := by decide +kernel
theorem dX5_init_44 : decode cX5_init 44 = .ok (.bipush 64, 2) := by decide +kernel
theorem dX5_init_46 : decode cX5_init 46 = .ok (.newarray .int, 2) := by decide +kernel
theorem dX5_init_48 : decode cX5_init 48 = .ok (.putfield 35, 3) := by decide +kernel
theorem dX5_init_51 : decode cX5_init 51 = .ok (.aload_n 0, 1) := by decide +kernel
theorem dX5_init_52 : decode cX5_init 52 = .ok (.bipush 64, 2) := by decide +kernel
theorem dX5_init_54 : decode cX5_init 54 = .ok (.newarray .int, 2) := by decide +kernel
theorem dX5_init_56 : decode cX5_init 56 = .ok (.putfield 39, 3) := by decide +kernel
theorem dX5_init_59 : decode cX5_init 59 = .ok (.iconst 0, 1) := by decide +kernel
theorem dX5_init_60 : decode cX5_init 60 = .ok (.istore_n 1, 1) := by decide +kernel
theorem dX5_init_61 : decode cX5_init 61 = .ok (.iload_n 1, 1) := by decide +kernel
theorem dX5_init_62 : decode cX5_init 62 = .ok (.iconst 4, 1) := by decide +kernel
theorem dX5_init_63 : decode cX5_init 63 = .ok (.if_icmp .ge 22, 3) := by decide +kernel
theorem dX5_init_66 : decode cX5_init 66 = .ok (.aload_n 0, 1) := by decide +kernel
theorem dX5_init_67 : decode cX5_init 67 = .ok (.getfield 11, 3) := by decide +kernel
theorem dX5_init_70 : decode cX5_init 70 = .ok (.iload_n 1, 1) := by decide +kernel
theorem dX5_init_71 : decode cX5_init 71 = .ok (.new 9, 3) := by decide +kernel
theorem dX5_init_74 : decode cX5_init 74 = .ok (.dup, 1) := by decide +kernel
theorem dX5_init_75 : decode cX5_init 75 = .ok (.invokespecial 42, 3) := by decide +kernel
theorem dX5_init_78 : decode cX5_init 78 = .ok (.aastore, 1) := by decide +kernel
theorem dX5_init_79 : decode cX5_init 79 = .ok (.iinc 1 1, 3) := by decide +kernel
theorem dX5_init_82 : decode cX5_init 82 = .ok (.goto (-21), 3) := by decide +kernel
theorem dX5_init_85 : decode cX5_init 85 = .ok (.return_, 1) := by decide +kernel
set_option maxRecDepth 20000 in
theorem ggX5_append_X5_rowOf : GoodIn wsX5_append wsX5_rowOf := goodIn_ca (goodIn_r _ [9, 10, 11, 12, 24, 25, 26, 27, 28, 29, 30] (by decide +kernel) (by decide +kernel)) (goodIn_sub (fun _ h => List.mem_cons_of_mem _ (List.mem_append_right _ h)) (by decide +kernel))
set_option maxRecDepth 20000 in
theorem gX5_append_X5_rowOf : GoodIn wsX5_append (wsV RX5 43 RX5 yX5_rowOf wsX5_rowOf) := goodIn_app (goodIn_of _ (by decide +kernel)) ggX5_append_X5_rowOf
set_option maxRecDepth 20000 in
theorem ggX5_append_X3_add : GoodIn wsX5_append wsX3_add := goodIn_r _ [17, 18, 19, 31, 32] (by decide +kernel) (by decide +kernel)
set_option maxRecDepth 20000 in
theorem gX5_append_X3_add : GoodIn wsX5_append (wsV RX5 54 RX3 yX3_add wsX3_add) := goodIn_app (goodIn_of _ (by decide +kernel)) ggX5_append_X3_add
set_option maxRecDepth 20000 in
theorem ggX5_append_X3_count : GoodIn wsX5_append wsX3_count := goodIn_r _ [23, 18, 31, 32] (by decide +kernel) (by decide +kernel)
set_option maxRecDepth 20000 in
theorem gX5_append_X3_count : GoodIn wsX5_append (wsV RX5 63 RX3 yX3_count wsX3_count) := goodIn_app (goodIn_of _ (by decide +kernel)) ggX5_append_X3_count
theorem dX5_append_0 : decode cX5_append 0 = .ok (.aload_n 0, 1) := by decide +kernel
theorem dX5_append_1 : decode cX5_append 1 = .ok (.iload_n 1, 1) := by decide +kernel
theorem dX5_append_2 : decode cX5_append 2 = .ok (.invokevirtual 43, 3) := by decide +kernel
theorem dX5_append_5 : decode cX5_append 5 = .ok (.astore_n 3, 1) := by decide +kernel
theorem dX5_append_6 : decode cX5_append 6 = .ok (.iload_n 2, 1) := by decide +kernel
theorem dX5_append_7 : decode cX5_append 7 = .ok (.sipush (-9999), 3) := by decide +kernel
theorem dX5_append_10 : decode cX5_append 10 = .ok (.if_icmp .lt 10, 3) := by decide +kernel
theorem dX5_append_13 : decode cX5_append 13 = .ok (.iload_n 2, 1) := by decide +kernel
theorem dX5_append_14 : decode cX5_append 14 = .ok (.sipush 9999, 3) := by decide +kernel
theorem dX5_append_17 : decode cX5_append 17 = .ok (.if_icmp .le 13, 3) := by decide +kernel
theorem dX5_append_20 : decode cX5_append 20 = .ok (.new 47, 3) := by decide +kernel
theorem dX5_append_23 : decode cX5_append 23 = .ok (.dup, 1) := by decide +kernel
theorem dX5_append_24 : decode cX5_append 24 = .ok (.ldc 49, 2) := by decide +kernel
theorem dX5_append_26 : decode cX5_append 26 = .ok (.invokespecial 51, 3) := by decide +kernel
theorem dX5_append_29 : decode cX5_append 29 = .ok (.athrow, 1) := by decide +kernel
theorem dX5_append_30 : decode cX5_append 30 = .ok (.aload_n 3, 1) := by decide +kernel
theorem dX5_append_31 : decode cX5_append 31 = .ok (.iload_n 2, 1) := by decide +kernel
theorem dX5_append_32 : decode cX5_append 32 = .ok (.invokevirtual 54, 3) := by decide +kernel
theorem dX5_append_35 : decode cX5_append 35 = .ok (.ifCond .ne 13, 3) := by decide +kernel
theorem dX5_append_38 : decode cX5_append 38 = .ok (.new 58, 3) := by decide +kernel
theorem dX5_append_41 : decode cX5_append 41 = .ok (.dup, 1) := by decide +kernel
theorem dX5_append_42 : decode cX5_append 42 = .ok (.ldc 60, 2) := by decide +kernel
theorem dX5_append_44 : decode cX5_append 44 = .ok (.invokespecial 62, 3) := by decide +kernel
theorem dX5_append_47 : decode cX5_append 47 = .ok (.athrow, 1) := by decide +kernel
theorem dX5_append_48 : decode cX5_append 48 = .ok (.aload_n 3, 1) := by decide +kernel
theorem dX5_append_49 : decode cX5_append 49 = .ok (.invokevirtual 63, 3) := by decide +kernel
theorem dX5_append_52 : decode cX5_append 52 = .ok (.ireturn, 1) := by decide +kernel
set_option maxRecDepth 20000 in
theorem ggX5_clear_X5_rowOf : GoodIn wsX5_clear wsX5_rowOf := goodIn_ca (goodIn_r _ [5, 6, 7, 8, 19, 20, 21, 22, 23, 24, 25] (by decide +kernel) (by decide +kernel)) (goodIn_sub (fun _ h => List.mem_cons_of_mem _ (List.mem_append_right _ h)) (by decide +kernel))
set_option maxRecDepth 20000 in
theorem gX5_clear_X5_rowOf : GoodIn wsX5_clear (wsV RX5 43 RX5 yX5_rowOf wsX5_rowOf) := goodIn_app (goodIn_of _ (by decide +kernel)) ggX5_clear_X5_rowOf
set_option maxRecDepth 20000 in
theorem ggX5_clear_X3_count : GoodIn wsX5_clear wsX3_count := goodIn_r _ [13, 14, 26, 27] (by decide +kernel) (by decide +kernel)
set_option maxRecDepth 20000 in
theorem gX5_clear_X3_count : GoodIn wsX5_clear (wsV RX5 63 RX3 yX3_count wsX3_count) := goodIn_app (goodIn_of _ (by decide +kernel)) ggX5_clear_X3_count
set_option maxRecDepth 20000 in
theorem ggX5_clear_X3_empty : GoodIn wsX5_clear wsX3_empty := goodIn_r _ [18, 14, 26, 27] (by decide +kernel) (by decide +kernel)
set_option maxRecDepth 20000 in
theorem gX5_clear_X3_empty : GoodIn wsX5_clear (wsV RX5 67 RX3 yX3_empty wsX3_empty) := goodIn_app (goodIn_of _ (by decide +kernel)) ggX5_clear_X3_empty
theorem dX5_clear_0 : decode cX5_clear 0 = .ok (.aload_n 0, 1) := by decide +kernel
theorem dX5_clear_1 : decode cX5_clear 1 = .ok (.iload_n 1, 1) := by decide +kernel
theorem dX5_clear_2 : decode cX5_clear 2 = .ok (.invokevirtual 43, 3) := by decide +kernel
theorem dX5_clear_5 : decode cX5_clear 5 = .ok (.astore_n 2, 1) := by decide +kernel
theorem dX5_clear_6 : decode cX5_clear 6 = .ok (.aload_n 2, 1) := by decide +kernel
theorem dX5_clear_7 : decode cX5_clear 7 = .ok (.invokevirtual 63, 3) := by decide +kernel
theorem dX5_clear_10 : decode cX5_clear 10 = .ok (.istore_n 3, 1) := by decide +kernel
theorem dX5_clear_11 : decode cX5_clear 11 = .ok (.aload_n 2, 1) := by decide +kernel
theorem dX5_clear_12 : decode cX5_clear 12 = .ok (.invokevirtual 67, 3) := by decide +kernel
theorem dX5_clear_15 : decode cX5_clear 15 = .ok (.iload_n 3, 1) := by decide +kernel
theorem dX5_clear_16 : decode cX5_clear 16 = .ok (.ireturn, 1) := by decide +kernel
set_option maxRecDepth 20000 in
theorem ggX5_copy_X5_rowOf : GoodIn wsX5_copy wsX5_rowOf := goodIn_ca (goodIn_r _ [5, 6, 7, 8, 28, 29, 30, 31, 32, 33, 34] (by decide +kernel) (by decide +kernel)) (goodIn_sub (fun _ h => List.mem_cons_of_mem _ (List.mem_append_right _ h)) (by decide +kernel))
set_option maxRecDepth 20000 in
theorem gX5_copy_X5_rowOf : GoodIn wsX5_copy (wsV RX5 43 RX5 yX5_rowOf wsX5_rowOf) := goodIn_app (goodIn_of _ (by decide +kernel)) ggX5_copy_X5_rowOf
set_option maxRecDepth 20000 in
theorem ggX5_copy_X3_takeRow : GoodIn wsX5_copy wsX3_takeRow := goodIn_r _ [13, 14, 15, 16, 17, 18, 12, 19, 20, 21, 22, 23, 35, 36] (by decide +kernel) (by decide +kernel)
set_option maxRecDepth 20000 in
theorem gX5_copy_X3_takeRow : GoodIn wsX5_copy (wsV RX5 70 RX3 yX3_takeRow wsX3_takeRow) := goodIn_app (goodIn_of _ (by decide +kernel)) ggX5_copy_X3_takeRow
set_option maxRecDepth 20000 in
theorem ggX5_copy_X3_count : GoodIn wsX5_copy wsX3_count := goodIn_r _ [27, 15, 35, 36] (by decide +kernel) (by decide +kernel)
set_option maxRecDepth 20000 in
theorem gX5_copy_X3_count : GoodIn wsX5_copy (wsV RX5 63 RX3 yX3_count wsX3_count) := goodIn_app (goodIn_of _ (by decide +kernel)) ggX5_copy_X3_count
theorem dX5_copy_0 : decode cX5_copy 0 = .ok (.aload_n 0, 1) := by decide +kernel
theorem dX5_copy_1 : decode cX5_copy 1 = .ok (.iload_n 1, 1) := by decide +kernel
theorem dX5_copy_2 : decode cX5_copy 2 = .ok (.invokevirtual 43, 3) := by decide +kernel
theorem dX5_copy_5 : decode cX5_copy 5 = .ok (.astore_n 3, 1) := by decide +kernel
theorem dX5_copy_6 : decode cX5_copy 6 = .ok (.aload_n 0, 1) := by decide +kernel
theorem dX5_copy_7 : decode cX5_copy 7 = .ok (.iload_n 2, 1) := by decide +kernel
theorem dX5_copy_8 : decode cX5_copy 8 = .ok (.invokevirtual 43, 3) := by decide +kernel
theorem dX5_copy_11 : decode cX5_copy 11 = .ok (.astore 4, 2) := by decide +kernel
theorem dX5_copy_13 : decode cX5_copy 13 = .ok (.aload 4, 2) := by decide +kernel
theorem dX5_copy_15 : decode cX5_copy 15 = .ok (.aload_n 3, 1) := by decide +kernel
theorem dX5_copy_16 : decode cX5_copy 16 = .ok (.invokevirtual 70, 3) := by decide +kernel
theorem dX5_copy_19 : decode cX5_copy 19 = .ok (.aload 4, 2) := by decide +kernel
theorem dX5_copy_21 : decode cX5_copy 21 = .ok (.invokevirtual 63, 3) := by decide +kernel
theorem dX5_copy_24 : decode cX5_copy 24 = .ok (.ireturn, 1) := by decide +kernel
set_option maxRecDepth 20000 in
theorem ggX5_length_X5_rowOf : GoodIn wsX5_length wsX5_rowOf := goodIn_ca (goodIn_r _ [5, 6, 7, 8, 15, 16, 17, 18, 19, 20, 21] (by decide +kernel) (by decide +kernel)) (goodIn_sub (fun _ h => List.mem_cons_of_mem _ (List.mem_append_right _ h)) (by decide +kernel))
set_option maxRecDepth 20000 in
theorem gX5_length_X5_rowOf : GoodIn wsX5_length (wsV RX5 43 RX5 yX5_rowOf wsX5_rowOf) := goodIn_app (goodIn_of _ (by decide +kernel)) ggX5_length_X5_rowOf
set_option maxRecDepth 20000 in
theorem ggX5_length_X3_count : GoodIn wsX5_length wsX3_count := goodIn_r _ [13, 14, 22, 23] (by decide +kernel) (by decide +kernel)
set_option maxRecDepth 20000 in
theorem gX5_length_X3_count : GoodIn wsX5_length (wsV RX5 63 RX3 yX3_count wsX3_count) := goodIn_app (goodIn_of _ (by decide +kernel)) ggX5_length_X3_count
theorem dX5_length_0 : decode cX5_length 0 = .ok (.aload_n 0, 1) := by decide +kernel
theorem dX5_length_1 : decode cX5_length 1 = .ok (.iload_n 1, 1) := by decide +kernel
theorem dX5_length_2 : decode cX5_length 2 = .ok (.invokevirtual 43, 3) := by decide +kernel
theorem dX5_length_5 : decode cX5_length 5 = .ok (.invokevirtual 63, 3) := by decide +kernel
theorem dX5_length_8 : decode cX5_length 8 = .ok (.ireturn, 1) := by decide +kernel
set_option maxRecDepth 20000 in
theorem ggX5_at_X5_rowOf : GoodIn wsX5_at wsX5_rowOf := goodIn_ca (goodIn_r _ [5, 6, 7, 8, 23, 24, 25, 26, 27, 28, 29] (by decide +kernel) (by decide +kernel)) (goodIn_sub (fun _ h => List.mem_cons_of_mem _ (List.mem_append_right _ h)) (by decide +kernel))
set_option maxRecDepth 20000 in
theorem gX5_at_X5_rowOf : GoodIn wsX5_at (wsV RX5 43 RX5 yX5_rowOf wsX5_rowOf) := goodIn_app (goodIn_of _ (by decide +kernel)) ggX5_at_X5_rowOf
set_option maxRecDepth 20000 in
theorem ggX5_at_X3_count : GoodIn wsX5_at wsX3_count := goodIn_r _ [13, 14, 30, 31] (by decide +kernel) (by decide +kernel)
set_option maxRecDepth 20000 in
theorem gX5_at_X3_count : GoodIn wsX5_at (wsV RX5 63 RX3 yX3_count wsX3_count) := goodIn_app (goodIn_of _ (by decide +kernel)) ggX5_at_X3_count
set_option maxRecDepth 20000 in
theorem ggX5_at_X5_requireEntry : GoodIn wsX5_at wsX5_requireEntry := goodIn_ca (goodIn_r _ [17, 6, 7] (by decide +kernel) (by decide +kernel)) (goodIn_sub (fun _ h => List.mem_cons_of_mem _ (List.mem_append_right _ h)) (by decide +kernel))
set_option maxRecDepth 20000 in
theorem gX5_at_X5_requireEntry : GoodIn wsX5_at (va_wsS RX5 74 yX5_requireEntry wsX5_requireEntry) := goodIn_app (goodIn_of _ (by decide +kernel)) ggX5_at_X5_requireEntry
set_option maxRecDepth 20000 in
theorem ggX5_at_X3_entry : GoodIn wsX5_at wsX3_entry := goodIn_r _ [21, 14, 22, 30, 31] (by decide +kernel) (by decide +kernel)
set_option maxRecDepth 20000 in
theorem gX5_at_X3_entry : GoodIn wsX5_at (wsV RX5 78 RX3 yX3_entry wsX3_entry) := goodIn_app (goodIn_of _ (by decide +kernel)) ggX5_at_X3_entry
theorem dX5_at_0 : decode cX5_at 0 = .ok (.aload_n 0, 1) := by decide +kernel
theorem dX5_at_1 : decode cX5_at 1 = .ok (.iload_n 1, 1) := by decide +kernel
theorem dX5_at_2 : decode cX5_at 2 = .ok (.invokevirtual 43, 3) := by decide +kernel
theorem dX5_at_5 : decode cX5_at 5 = .ok (.astore_n 3, 1) := by decide +kernel
theorem dX5_at_6 : decode cX5_at 6 = .ok (.iload_n 2, 1) := by decide +kernel
theorem dX5_at_7 : decode cX5_at 7 = .ok (.aload_n 3, 1) := by decide +kernel
theorem dX5_at_8 : decode cX5_at 8 = .ok (.invokevirtual 63, 3) := by decide +kernel
theorem dX5_at_11 : decode cX5_at 11 = .ok (.invokestatic 74, 3) := by decide +kernel
theorem dX5_at_14 : decode cX5_at 14 = .ok (.aload_n 3, 1) := by decide +kernel
theorem dX5_at_15 : decode cX5_at 15 = .ok (.iload_n 2, 1) := by decide +kernel
theorem dX5_at_16 : decode cX5_at 16 = .ok (.invokevirtual 78, 3) := by decide +kernel
theorem dX5_at_19 : decode cX5_at 19 = .ok (.ireturn, 1) := by decide +kernel
set_option maxRecDepth 20000 in
theorem ggX5_plan_X1_isPrime : GoodIn wsX5_plan wsX1_isPrime := goodIn_r _ [13, 14, 15, 12, 16, 17, 18, 19, 20] (by decide +kernel) (by decide +kernel)
set_option maxRecDepth 20000 in
theorem gX5_plan_X1_isPrime : GoodIn wsX5_plan (va_wsS RX5 82 yX1_isPrime wsX1_isPrime) := goodIn_app (goodIn_of _ (by decide +kernel)) ggX5_plan_X1_isPrime
set_option maxRecDepth 20000 in
theorem ggX5_plan_X2_init : GoodIn wsX5_plan wsX2_init := goodIn_r _ [23, 24, 25, 26, 27, 28, 29, 30, 31, 32, 33, 34, 35, 12, 36, 37, 38, 39, 14, 15, 16, 17, 18, 19, 20, 40, 41, 42, 43, 44, 45, 46, 47, 48, 49, 9, 50, 51, 52, 53, 54, 11, 13, 55, 56, 57, 58, 66, 67, 68, 69, 70, 71] (by decide +kernel) (by decide +kernel)
set_option maxRecDepth 20000 in
theorem gX5_plan_X2_init : GoodIn wsX5_plan (wsX2_init) := ggX5_plan_X2_init
theorem dX5_plan_0 : decode cX5_plan 0 = .ok (.iload_n 1, 1) := by decide +kernel
theorem dX5_plan_1 : decode cX5_plan 1 = .ok (.iconst 3, 1) := by decide +kernel
theorem dX5_plan_2 : decode cX5_plan 2 = .ok (.if_icmp .lt 17, 3) := by decide +kernel
theorem dX5_plan_5 : decode cX5_plan 5 = .ok (.iload_n 1, 1) := by decide +kernel
theorem dX5_plan_6 : decode cX5_plan 6 = .ok (.sipush 9973, 3) := by decide +kernel
theorem dX5_plan_9 : decode cX5_plan 9 = .ok (.if_icmp .gt 10, 3) := by decide +kernel
theorem dX5_plan_12 : decode cX5_plan 12 = .ok (.iload_n 1, 1) := by decide +kernel
theorem dX5_plan_13 : decode cX5_plan 13 = .ok (.invokestatic 82, 3) := by decide +kernel
theorem dX5_plan_16 : decode cX5_plan 16 = .ok (.ifCond .ne 13, 3) := by decide +kernel
theorem dX5_plan_19 : decode cX5_plan 19 = .ok (.new 47, 3) := by decide +kernel
theorem dX5_plan_22 : decode cX5_plan 22 = .ok (.dup, 1) := by decide +kernel
theorem dX5_plan_23 : decode cX5_plan 23 = .ok (.ldc 87, 2) := by decide +kernel
theorem dX5_plan_25 : decode cX5_plan 25 = .ok (.invokespecial 51, 3) := by decide +kernel
theorem dX5_plan_28 : decode cX5_plan 28 = .ok (.athrow, 1) := by decide +kernel
theorem dX5_plan_29 : decode cX5_plan 29 = .ok (.iload_n 2, 1) := by decide +kernel
theorem dX5_plan_30 : decode cX5_plan 30 = .ok (.iconst 1, 1) := by decide +kernel
theorem dX5_plan_31 : decode cX5_plan 31 = .ok (.if_icmp .lt 17, 3) := by decide +kernel
theorem dX5_plan_34 : decode cX5_plan 34 = .ok (.iload_n 2, 1) := by decide +kernel
theorem dX5_plan_35 : decode cX5_plan 35 = .ok (.bipush 64, 2) := by decide +kernel
theorem dX5_plan_37 : decode cX5_plan 37 = .ok (.if_icmp .gt 11, 3) := by decide +kernel
theorem dX5_plan_40 : decode cX5_plan 40 = .ok (.iload_n 1, 1) := by decide +kernel
theorem dX5_plan_41 : decode cX5_plan 41 = .ok (.iconst 1, 1) := by decide +kernel
theorem dX5_plan_42 : decode cX5_plan 42 = .ok (.isub, 1) := by decide +kernel
theorem dX5_plan_43 : decode cX5_plan 43 = .ok (.iload_n 2, 1) := by decide +kernel
theorem dX5_plan_44 : decode cX5_plan 44 = .ok (.irem, 1) := by decide +kernel
theorem dX5_plan_45 : decode cX5_plan 45 = .ok (.ifCond .eq 13, 3) := by decide +kernel
theorem dX5_plan_48 : decode cX5_plan 48 = .ok (.new 47, 3) := by decide +kernel
theorem dX5_plan_51 : decode cX5_plan 51 = .ok (.dup, 1) := by decide +kernel
theorem dX5_plan_52 : decode cX5_plan 52 = .ok (.ldc 89, 2) := by decide +kernel
theorem dX5_plan_54 : decode cX5_plan 54 = .ok (.invokespecial 51, 3) := by decide +kernel
theorem dX5_plan_57 : decode cX5_plan 57 = .ok (.athrow, 1) := by decide +kernel
theorem dX5_plan_58 : decode cX5_plan 58 = .ok (.aload_n 0, 1) := by decide +kernel
theorem dX5_plan_59 : decode cX5_plan 59 = .ok (.getfield 91, 3) := by decide +kernel
theorem dX5_plan_62 : decode cX5_plan 62 = .ok (.bipush 8, 2) := by decide +kernel
theorem dX5_plan_64 : decode cX5_plan 64 = .ok (.if_icmp .lt 13, 3) := by decide +kernel
theorem dX5_plan_67 : decode cX5_plan 67 = .ok (.new 58, 3) := by decide +kernel
theorem dX5_plan_70 : decode cX5_plan 70 = .ok (.dup, 1) := by decide +kernel
theorem dX5_plan_71 : decode cX5_plan 71 = .ok (.ldc 95, 2) := by decide +kernel
theorem dX5_plan_73 : decode cX5_plan 73 = .ok (.invokespecial 62, 3) := by decide +kernel
theorem dX5_plan_76 : decode cX5_plan 76 = .ok (.athrow, 1) := by decide +kernel
theorem dX5_plan_77 : decode cX5_plan 77 = .ok (.aload_n 0, 1) := by decide +kernel
theorem dX5_plan_78 : decode cX5_plan 78 = .ok (.getfield 91, 3) := by decide +kernel
theorem dX5_plan_81 : decode cX5_plan 81 = .ok (.istore_n 3, 1) := by decide +kernel
theorem dX5_plan_82 : decode cX5_plan 82 = .ok (.aload_n 0, 1) := by decide +kernel
theorem dX5_plan_83 : decode cX5_plan 83 = .ok (.getfield 17, 3) := by decide +kernel
theorem dX5_plan_86 : decode cX5_plan 86 = .ok (.iload_n 3, 1) := by decide +kernel
theorem dX5_plan_87 : decode cX5_plan 87 = .ok (.new 15, 3) := by decide +kernel
theorem dX5_plan_90 : decode cX5_plan 90 = .ok (.dup, 1) := by decide +kernel
theorem dX5_plan_91 : decode cX5_plan 91 = .ok (.iload_n 1, 1) := by decide +kernel
theorem dX5_plan_92 : decode cX5_plan 92 = .ok (.iload_n 2, 1) := by decide +kernel
theorem dX5_plan_93 : decode cX5_plan 93 = .ok (.invokespecial 97, 3) := by decide +kernel
theorem dX5_plan_96 : decode cX5_plan 96 = .ok (.aastore, 1) := by decide +kernel
theorem dX5_plan_97 : decode cX5_plan 97 = .ok (.aload_n 0, 1) := by decide +kernel
theorem dX5_plan_98 : decode cX5_plan 98 = .ok (.iload_n 3, 1) := by decide +kernel
theorem dX5_plan_99 : decode cX5_plan 99 = .ok (.iconst 1, 1) := by decide +kernel
theorem dX5_plan_100 : decode cX5_plan 100 = .ok (.iadd, 1) := by decide +kernel
theorem dX5_plan_101 : decode cX5_plan 101 = .ok (.putfield 91, 3) := by decide +kernel
theorem dX5_plan_104 : decode cX5_plan 104 = .ok (.iload_n 3, 1) := by decide +kernel
theorem dX5_plan_105 : decode cX5_plan 105 = .ok (.ireturn, 1) := by decide +kernel
theorem dX5_plans_0 : decode cX5_plans 0 = .ok (.aload_n 0, 1) := by decide +kernel
theorem dX5_plans_1 : decode cX5_plans 1 = .ok (.getfield 91, 3) := by decide +kernel
theorem dX5_plans_4 : decode cX5_plans 4 = .ok (.ireturn, 1) := by decide +kernel
set_option maxRecDepth 20000 in
theorem ggX5_root_X5_planOf : GoodIn wsX5_root wsX5_planOf := goodIn_ca (goodIn_r _ [5, 6, 7, 8, 9, 21, 22, 23, 24, 25, 26, 27] (by decide +kernel) (by decide +kernel)) (goodIn_sub (fun _ h => List.mem_cons_of_mem _ (List.mem_append_right _ h)) (by decide +kernel))
set_option maxRecDepth 20000 in
theorem gX5_root_X5_planOf : GoodIn wsX5_root (wsV RX5 99 RX5 yX5_planOf wsX5_planOf) := goodIn_app (goodIn_of _ (by decide +kernel)) ggX5_root_X5_planOf
set_option maxRecDepth 20000 in
theorem ggX5_root_X2_power : GoodIn wsX5_root wsX2_power := goodIn_r _ [14, 15, 16, 17, 18, 19, 20, 28, 29, 30, 31, 32, 33] (by decide +kernel) (by decide +kernel)
set_option maxRecDepth 20000 in
theorem gX5_root_X2_power : GoodIn wsX5_root (wsV RX5 103 RX2 yX2_power wsX2_power) := goodIn_app (goodIn_of _ (by decide +kernel)) ggX5_root_X2_power
theorem dX5_root_0 : decode cX5_root 0 = .ok (.aload_n 0, 1) := by decide +kernel
theorem dX5_root_1 : decode cX5_root 1 = .ok (.iload_n 1, 1) := by decide +kernel
theorem dX5_root_2 : decode cX5_root 2 = .ok (.invokevirtual 99, 3) := by decide +kernel
theorem dX5_root_5 : decode cX5_root 5 = .ok (.iconst 1, 1) := by decide +kernel
theorem dX5_root_6 : decode cX5_root 6 = .ok (.invokevirtual 103, 3) := by decide +kernel
theorem dX5_root_9 : decode cX5_root 9 = .ok (.ireturn, 1) := by decide +kernel
set_option maxRecDepth 20000 in
theorem ggX5_ways_X5_planOf : GoodIn wsX5_ways wsX5_planOf := goodIn_ca (goodIn_r _ [5, 6, 7, 8, 9, 16, 17, 18, 19, 20, 21, 22] (by decide +kernel) (by decide +kernel)) (goodIn_sub (fun _ h => List.mem_cons_of_mem _ (List.mem_append_right _ h)) (by decide +kernel))
set_option maxRecDepth 20000 in
theorem gX5_ways_X5_planOf : GoodIn wsX5_ways (wsV RX5 99 RX5 yX5_planOf wsX5_planOf) := goodIn_app (goodIn_of _ (by decide +kernel)) ggX5_ways_X5_planOf
set_option maxRecDepth 20000 in
theorem ggX5_ways_X2_wayset : GoodIn wsX5_ways wsX2_wayset := goodIn_r _ [14, 15, 23, 24, 25, 26, 27, 28] (by decide +kernel) (by decide +kernel)
set_option maxRecDepth 20000 in
theorem gX5_ways_X2_wayset : GoodIn wsX5_ways (wsV RX5 106 RX2 yX2_wayset wsX2_wayset) := goodIn_app (goodIn_of _ (by decide +kernel)) ggX5_ways_X2_wayset
theorem dX5_ways_0 : decode cX5_ways 0 = .ok (.aload_n 0, 1) := by decide +kernel
theorem dX5_ways_1 : decode cX5_ways 1 = .ok (.iload_n 1, 1) := by decide +kernel
theorem dX5_ways_2 : decode cX5_ways 2 = .ok (.invokevirtual 99, 3) := by decide +kernel
theorem dX5_ways_5 : decode cX5_ways 5 = .ok (.invokevirtual 106, 3) := by decide +kernel
theorem dX5_ways_8 : decode cX5_ways 8 = .ok (.ireturn, 1) := by decide +kernel
set_option maxRecDepth 20000 in
theorem ggX5_forward_X5_planOf : GoodIn wsX5_forward wsX5_planOf := goodIn_ca (goodIn_r _ [5, 6, 7, 8, 9, 158, 159, 160, 161, 162, 163, 164] (by decide +kernel) (by decide +kernel)) (goodIn_sub (fun _ h => List.mem_cons_of_mem _ (List.mem_append_left _ (List.mem_append_left _ (List.mem_append_right _ h)))) (by decide +kernel))
set_option maxRecDepth 20000 in
theorem gX5_forward_X5_planOf : GoodIn wsX5_forward (wsV RX5 99 RX5 yX5_planOf wsX5_planOf) := goodIn_app (goodIn_of _ (by decide +kernel)) ggX5_forward_X5_planOf
set_option maxRecDepth 20000 in
theorem ggX5_forward_X5_rowOf : GoodIn wsX5_forward wsX5_rowOf := goodIn_ca (goodIn_r _ [13, 6, 7, 14, 158, 159, 160, 161, 162, 163, 164] (by decide +kernel) (by decide +kernel)) (goodIn_sub (fun _ h => List.mem_cons_of_mem _ (List.mem_append_left _ (List.mem_append_left _ (List.mem_append_right _ h)))) (by decide +kernel))
set_option maxRecDepth 20000 in
theorem gX5_forward_X5_rowOf : GoodIn wsX5_forward (wsV RX5 43 RX5 yX5_rowOf wsX5_rowOf) := goodIn_app (goodIn_of _ (by decide +kernel)) ggX5_forward_X5_rowOf
set_option maxRecDepth 20000 in
theorem ggX5_forward_X5_transformRow : GoodIn wsX5_forward wsX5_transformRow := goodIn_ca (goodIn_ca (goodIn_r _ [18, 19, 20, 21, 22, 23, 24, 25, 26, 27, 28, 29, 30, 4, 31, 32, 33, 34, 35, 36, 37, 38, 39, 40, 41, 42, 43, 44, 45, 46, 47, 48, 49, 50, 51, 52, 53, 54, 55, 56, 57, 58, 59, 60, 61, 62, 63, 64, 65, 66, 67, 68, 69, 70, 71, 72, 73, 74, 75, 76, 77, 78, 79, 80, 81, 82, 83, 84, 85, 86, 87, 88, 89, 90, 91, 92, 93, 94, 95, 96, 97, 98, 99, 100, 101, 102, 103, 104, 105, 106, 107, 108, 109, 110, 111, 112, 113, 114, 115, 116, 117, 118, 119, 120, 121, 122, 123, 124, 125, 126, 127, 128, 129, 130, 131, 132, 133, 134, 135, 136, 137, 138, 139, 140, 141, 142, 143, 144, 145, 146, 147, 148, 149, 150, 151, 152, 153, 154, 155, 156, 157, 158, 159, 160, 161, 162, 163, 164, 165, 166, 167, 168, 169, 170, 171, 172, 173, 174, 175, 176, 177] (by decide +kernel) (by decide +kernel)) (goodIn_sub (fun _ h => List.mem_cons_of_mem _ (List.mem_append_left _ (List.mem_append_right _ h))) (by decide +kernel))) (goodIn_sub (fun _ h => List.mem_cons_of_mem _ (List.mem_append_right _ h)) (by decide +kernel))
set_option maxRecDepth 20000 in
theorem gX5_forward_X5_transformRow : GoodIn wsX5_forward (wsV RX5 109 RX5 yX5_transformRow wsX5_transformRow) := goodIn_app (goodIn_of _ (by decide +kernel)) ggX5_forward_X5_transformRow
theorem dX5_forward_0 : decode cX5_forward 0 = .ok (.aload_n 0, 1) := by decide +kernel
theorem dX5_forward_1 : decode cX5_forward 1 = .ok (.aload_n 0, 1) := by decide +kernel
theorem dX5_forward_2 : decode cX5_forward 2 = .ok (.iload_n 1, 1) := by decide +kernel
theorem dX5_forward_3 : decode cX5_forward 3 = .ok (.invokevirtual 99, 3) := by decide +kernel
theorem dX5_forward_6 : decode cX5_forward 6 = .ok (.aload_n 0, 1) := by decide +kernel
theorem dX5_forward_7 : decode cX5_forward 7 = .ok (.iload_n 2, 1) := by decide +kernel
theorem dX5_forward_8 : decode cX5_forward 8 = .ok (.invokevirtual 43, 3) := by decide +kernel
theorem dX5_forward_11 : decode cX5_forward 11 = .ok (.iload_n 3, 1) := by decide +kernel
theorem dX5_forward_12 : decode cX5_forward 12 = .ok (.iconst 0, 1) := by decide +kernel
theorem dX5_forward_13 : decode cX5_forward 13 = .ok (.invokevirtual 109, 3) := by decide +kernel
theorem dX5_forward_16 : decode cX5_forward 16 = .ok (.ireturn, 1) := by decide +kernel
set_option maxRecDepth 20000 in
theorem ggX5_backward_X5_planOf : GoodIn wsX5_backward wsX5_planOf := goodIn_ca (goodIn_r _ [5, 6, 7, 8, 9, 158, 159, 160, 161, 162, 163, 164] (by decide +kernel) (by decide +kernel)) (goodIn_sub (fun _ h => List.mem_cons_of_mem _ (List.mem_append_left _ (List.mem_append_left _ (List.mem_append_right _ h)))) (by decide +kernel))
set_option maxRecDepth 20000 in
theorem gX5_backward_X5_planOf : GoodIn wsX5_backward (wsV RX5 99 RX5 yX5_planOf wsX5_planOf) := goodIn_app (goodIn_of _ (by decide +kernel)) ggX5_backward_X5_planOf
set_option maxRecDepth 20000 in
theorem ggX5_backward_X5_rowOf : GoodIn wsX5_backward wsX5_rowOf := goodIn_ca (goodIn_r _ [13, 6, 7, 14, 158, 159, 160, 161, 162, 163, 164] (by decide +kernel) (by decide +kernel)) (goodIn_sub (fun _ h => List.mem_cons_of_mem _ (List.mem_append_left _ (List.mem_append_left _ (List.mem_append_right _ h)))) (by decide +kernel))
set_option maxRecDepth 20000 in
theorem gX5_backward_X5_rowOf : GoodIn wsX5_backward (wsV RX5 43 RX5 yX5_rowOf wsX5_rowOf) := goodIn_app (goodIn_of _ (by decide +kernel)) ggX5_backward_X5_rowOf
set_option maxRecDepth 20000 in
theorem ggX5_backward_X5_transformRow : GoodIn wsX5_backward wsX5_transformRow := goodIn_ca (goodIn_ca (goodIn_r _ [18, 19, 20, 21, 22, 23, 24, 25, 26, 27, 28, 29, 30, 4, 31, 32, 33, 34, 35, 36, 37, 38, 39, 40, 41, 42, 43, 44, 45, 46, 47, 48, 49, 50, 51, 52, 53, 54, 55, 56, 57, 58, 59, 60, 61, 62, 63, 64, 65, 66, 67, 68, 69, 70, 71, 72, 73, 74, 75, 76, 77, 78, 79, 80, 81, 82, 83, 84, 85, 86, 87, 88, 89, 90, 91, 92, 93, 94, 95, 96, 97, 98, 99, 100, 101, 102, 103, 104, 105, 106, 107, 108, 109, 110, 111, 112, 113, 114, 115, 116, 117, 118, 119, 120, 121, 122, 123, 124, 125, 126, 127, 128, 129, 130, 131, 132, 133, 134, 135, 136, 137, 138, 139, 140, 141, 142, 143, 144, 145, 146, 147, 148, 149, 150, 151, 152, 153, 154, 155, 156, 157, 158, 159, 160, 161, 162, 163, 164, 165, 166, 167, 168, 169, 170, 171, 172, 173, 174, 175, 176, 177] (by decide +kernel) (by decide +kernel)) (goodIn_sub (fun _ h => List.mem_cons_of_mem _ (List.mem_append_left _ (List.mem_append_right _ h))) (by decide +kernel))) (goodIn_sub (fun _ h => List.mem_cons_of_mem _ (List.mem_append_right _ h)) (by decide +kernel))
set_option maxRecDepth 20000 in
theorem gX5_backward_X5_transformRow : GoodIn wsX5_backward (wsV RX5 109 RX5 yX5_transformRow wsX5_transformRow) := goodIn_app (goodIn_of _ (by decide +kernel)) ggX5_backward_X5_transformRow
theorem dX5_backward_0 : decode cX5_backward 0 = .ok (.aload_n 0, 1) := by decide +kernel
theorem dX5_backward_1 : decode cX5_backward 1 = .ok (.aload_n 0, 1) := by decide +kernel
theorem dX5_backward_2 : decode cX5_backward 2 = .ok (.iload_n 1, 1) := by decide +kernel
theorem dX5_backward_3 : decode cX5_backward 3 = .ok (.invokevirtual 99, 3) := by decide +kernel
theorem dX5_backward_6 : decode cX5_backward 6 = .ok (.aload_n 0, 1) := by decide +kernel
theorem dX5_backward_7 : decode cX5_backward 7 = .ok (.iload_n 2, 1) := by decide +kernel
theorem dX5_backward_8 : decode cX5_backward 8 = .ok (.invokevirtual 43, 3) := by decide +kernel
theorem dX5_backward_11 : decode cX5_backward 11 = .ok (.iload_n 3, 1) := by decide +kernel
theorem dX5_backward_12 : decode cX5_backward 12 = .ok (.iconst 1, 1) := by decide +kernel
theorem dX5_backward_13 : decode cX5_backward 13 = .ok (.invokevirtual 109, 3) := by decide +kernel
theorem dX5_backward_16 : decode cX5_backward 16 = .ok (.ireturn, 1) := by decide +kernel
set_option maxRecDepth 20000 in
theorem ggX5_sum_X5_planOf : GoodIn wsX5_sum wsX5_planOf := goodIn_ca (goodIn_r _ [6, 7, 8, 9, 10, 66, 67, 68, 69, 70, 71, 72] (by decide +kernel) (by decide +kernel)) (goodIn_sub (fun _ h => List.mem_cons_of_mem _ (List.mem_append_left _ (List.mem_append_right _ h))) (by decide +kernel))
set_option maxRecDepth 20000 in
theorem gX5_sum_X5_planOf : GoodIn wsX5_sum (wsV RX5 99 RX5 yX5_planOf wsX5_planOf) := goodIn_app (goodIn_of _ (by decide +kernel)) ggX5_sum_X5_planOf
set_option maxRecDepth 20000 in
theorem ggX5_sum_X5_rowOf : GoodIn wsX5_sum wsX5_rowOf := goodIn_ca (goodIn_r _ [14, 7, 8, 15, 66, 67, 68, 69, 70, 71, 72] (by decide +kernel) (by decide +kernel)) (goodIn_sub (fun _ h => List.mem_cons_of_mem _ (List.mem_append_left _ (List.mem_append_right _ h))) (by decide +kernel))
set_option maxRecDepth 20000 in
theorem gX5_sum_X5_rowOf : GoodIn wsX5_sum (wsV RX5 43 RX5 yX5_rowOf wsX5_rowOf) := goodIn_app (goodIn_of _ (by decide +kernel)) ggX5_sum_X5_rowOf
set_option maxRecDepth 20000 in
theorem ggX5_sum_X2_size : GoodIn wsX5_sum wsX2_size := goodIn_r _ [20, 21, 73, 74, 75, 76, 77, 78] (by decide +kernel) (by decide +kernel)
set_option maxRecDepth 20000 in
theorem gX5_sum_X2_size : GoodIn wsX5_sum (wsV RX5 113 RX2 yX2_size wsX2_size) := goodIn_app (goodIn_of _ (by decide +kernel)) ggX5_sum_X2_size
set_option maxRecDepth 20000 in
theorem ggX5_sum_X5_requireEntry : GoodIn wsX5_sum wsX5_requireEntry := goodIn_ca (goodIn_r _ [24, 7, 8] (by decide +kernel) (by decide +kernel)) (goodIn_sub (fun _ h => List.mem_cons_of_mem _ (List.mem_append_left _ (List.mem_append_right _ h))) (by decide +kernel))
set_option maxRecDepth 20000 in
theorem gX5_sum_X5_requireEntry : GoodIn wsX5_sum (va_wsS RX5 74 yX5_requireEntry wsX5_requireEntry) := goodIn_app (goodIn_of _ (by decide +kernel)) ggX5_sum_X5_requireEntry
set_option maxRecDepth 20000 in
theorem ggX5_sum_X5_requireFit : GoodIn wsX5_sum wsX5_requireFit := goodIn_ca (goodIn_r _ [27, 28, 29, 30, 31, 32, 33, 34, 35, 16, 17, 18, 19, 20, 21, 79, 80, 73, 74, 75, 76, 77, 78] (by decide +kernel) (by decide +kernel)) (goodIn_sub (fun _ h => List.mem_cons_of_mem _ (List.mem_append_right _ h)) (by decide +kernel))
set_option maxRecDepth 20000 in
theorem gX5_sum_X5_requireFit : GoodIn wsX5_sum (va_wsS RX5 116 yX5_requireFit wsX5_requireFit) := goodIn_app (goodIn_of _ (by decide +kernel)) ggX5_sum_X5_requireFit
set_option maxRecDepth 20000 in
theorem ggX5_sum_X3_loadRemainders : GoodIn wsX5_sum wsX3_loadRemainders := goodIn_r _ [39, 40, 17, 18, 19, 20, 21, 41, 42, 43, 33, 44, 35, 45, 46, 47, 48, 49, 50, 51, 52, 53, 54, 73, 74, 75, 76, 77, 78, 79, 80] (by decide +kernel) (by decide +kernel)
set_option maxRecDepth 20000 in
theorem gX5_sum_X3_loadRemainders : GoodIn wsX5_sum (wsV RX5 120 RX3 yX3_loadRemainders wsX3_loadRemainders) := goodIn_app (goodIn_of _ (by decide +kernel)) ggX5_sum_X3_loadRemainders
set_option maxRecDepth 20000 in
theorem ggX5_sum_X4_transformedEntry : GoodIn wsX5_sum wsX4_transformedEntry := goodIn_r _ [58, 59, 17, 18, 19, 20, 21, 60, 61, 62, 63, 64, 51, 52, 53, 54, 65, 47, 48, 49, 50, 73, 74, 75, 76, 77, 78] (by decide +kernel) (by decide +kernel)
set_option maxRecDepth 20000 in
theorem gX5_sum_X4_transformedEntry : GoodIn wsX5_sum (va_wsS RX5 124 yX4_transformedEntry wsX4_transformedEntry) := goodIn_app (goodIn_of _ (by decide +kernel)) ggX5_sum_X4_transformedEntry
theorem dX5_sum_0 : decode cX5_sum 0 = .ok (.aload_n 0, 1) := by decide +kernel
theorem dX5_sum_1 : decode cX5_sum 1 = .ok (.iload_n 1, 1) := by decide +kernel
theorem dX5_sum_2 : decode cX5_sum 2 = .ok (.invokevirtual 99, 3) := by decide +kernel
theorem dX5_sum_5 : decode cX5_sum 5 = .ok (.astore 4, 2) := by decide +kernel
theorem dX5_sum_7 : decode cX5_sum 7 = .ok (.aload_n 0, 1) := by decide +kernel
theorem dX5_sum_8 : decode cX5_sum 8 = .ok (.iload_n 2, 1) := by decide +kernel
theorem dX5_sum_9 : decode cX5_sum 9 = .ok (.invokevirtual 43, 3) := by decide +kernel
theorem dX5_sum_12 : decode cX5_sum 12 = .ok (.astore 5, 2) := by decide +kernel
theorem dX5_sum_14 : decode cX5_sum 14 = .ok (.iload_n 3, 1) := by decide +kernel
theorem dX5_sum_15 : decode cX5_sum 15 = .ok (.aload 4, 2) := by decide +kernel
theorem dX5_sum_17 : decode cX5_sum 17 = .ok (.invokevirtual 113, 3) := by decide +kernel
theorem dX5_sum_20 : decode cX5_sum 20 = .ok (.invokestatic 74, 3) := by decide +kernel
theorem dX5_sum_23 : decode cX5_sum 23 = .ok (.aload 4, 2) := by decide +kernel
theorem dX5_sum_25 : decode cX5_sum 25 = .ok (.aload 5, 2) := by decide +kernel
theorem dX5_sum_27 : decode cX5_sum 27 = .ok (.invokestatic 116, 3) := by decide +kernel
theorem dX5_sum_30 : decode cX5_sum 30 = .ok (.aload 5, 2) := by decide +kernel
theorem dX5_sum_32 : decode cX5_sum 32 = .ok (.aload 4, 2) := by decide +kernel
theorem dX5_sum_34 : decode cX5_sum 34 = .ok (.aload_n 0, 1) := by decide +kernel
theorem dX5_sum_35 : decode cX5_sum 35 = .ok (.getfield 35, 3) := by decide +kernel
theorem dX5_sum_38 : decode cX5_sum 38 = .ok (.invokevirtual 120, 3) := by decide +kernel
theorem dX5_sum_41 : decode cX5_sum 41 = .ok (.aload 4, 2) := by decide +kernel
theorem dX5_sum_43 : decode cX5_sum 43 = .ok (.aload_n 0, 1) := by decide +kernel
theorem dX5_sum_44 : decode cX5_sum 44 = .ok (.getfield 35, 3) := by decide +kernel
theorem dX5_sum_47 : decode cX5_sum 47 = .ok (.iconst 1, 1) := by decide +kernel
theorem dX5_sum_48 : decode cX5_sum 48 = .ok (.iload_n 3, 1) := by decide +kernel
theorem dX5_sum_49 : decode cX5_sum 49 = .ok (.invokestatic 124, 3) := by decide +kernel
theorem dX5_sum_52 : decode cX5_sum 52 = .ok (.ireturn, 1) := by decide +kernel
set_option maxRecDepth 20000 in
theorem ggX5_convolve_X5_planOf : GoodIn wsX5_convolve wsX5_planOf := goodIn_ca (goodIn_r _ [8, 9, 10, 11, 12, 103, 104, 105, 106, 107, 108, 109] (by decide +kernel) (by decide +kernel)) (goodIn_sub (fun _ h => List.mem_cons_of_mem _ (List.mem_append_left _ (List.mem_append_right _ h))) (by decide +kernel))
set_option maxRecDepth 20000 in
theorem gX5_convolve_X5_planOf : GoodIn wsX5_convolve (wsV RX5 99 RX5 yX5_planOf wsX5_planOf) := goodIn_app (goodIn_of _ (by decide +kernel)) ggX5_convolve_X5_planOf
set_option maxRecDepth 20000 in
theorem ggX5_convolve_X5_rowOf : GoodIn wsX5_convolve wsX5_rowOf := goodIn_ca (goodIn_r _ [16, 9, 10, 17, 103, 104, 105, 106, 107, 108, 109] (by decide +kernel) (by decide +kernel)) (goodIn_sub (fun _ h => List.mem_cons_of_mem _ (List.mem_append_left _ (List.mem_append_right _ h))) (by decide +kernel))
set_option maxRecDepth 20000 in
theorem gX5_convolve_X5_rowOf : GoodIn wsX5_convolve (wsV RX5 43 RX5 yX5_rowOf wsX5_rowOf) := goodIn_app (goodIn_of _ (by decide +kernel)) ggX5_convolve_X5_rowOf
set_option maxRecDepth 20000 in
theorem ggX5_convolve_X5_loadPair : GoodIn wsX5_convolve wsX5_loadPair := goodIn_ca (goodIn_r _ [21, 2, 3, 22, 23, 7, 24, 25, 26, 27, 28, 29, 30, 31, 32, 33, 34, 35, 36, 37, 38, 39, 40, 41, 42, 43, 44, 45, 46, 47, 48, 49, 50, 51, 52, 53, 54, 55, 56, 57, 103, 104, 105, 106, 107, 108, 109, 110, 111, 112, 113, 114, 115, 116, 117] (by decide +kernel) (by decide +kernel)) (goodIn_sub (fun _ h => List.mem_cons_of_mem _ (List.mem_append_right _ h)) (by decide +kernel))
set_option maxRecDepth 20000 in
theorem gX5_convolve_X5_loadPair : GoodIn wsX5_convolve (wsV RX5 128 RX5 yX5_loadPair wsX5_loadPair) := goodIn_app (goodIn_of _ (by decide +kernel)) ggX5_convolve_X5_loadPair
set_option maxRecDepth 20000 in
theorem ggX5_convolve_X2_size : GoodIn wsX5_convolve wsX2_size := goodIn_r _ [37, 38, 112, 113, 114, 115, 116, 117] (by decide +kernel) (by decide +kernel)
set_option maxRecDepth 20000 in
theorem gX5_convolve_X2_size : GoodIn wsX5_convolve (wsV RX5 113 RX2 yX2_size wsX2_size) := goodIn_app (goodIn_of _ (by decide +kernel)) ggX5_convolve_X2_size
set_option maxRecDepth 20000 in
theorem ggX5_convolve_X4_byMixedRadices : GoodIn wsX5_convolve wsX4_byMixedRadices := goodIn_r _ [62, 63, 64, 56, 65, 66, 67, 68, 69, 70, 71, 72, 61, 73, 74, 75, 76, 77, 36, 78, 79, 38, 54, 55, 57, 80, 50, 51, 52, 53, 81, 82, 83, 84, 118, 119, 120, 121, 122, 112, 113, 114, 115, 116, 117] (by decide +kernel) (by decide +kernel)
set_option maxRecDepth 20000 in
theorem gX5_convolve_X4_byMixedRadices : GoodIn wsX5_convolve (wsV RX5 132 RX4 yX4_byMixedRadices wsX4_byMixedRadices) := goodIn_app (goodIn_of _ (by decide +kernel)) ggX5_convolve_X4_byMixedRadices
set_option maxRecDepth 20000 in
theorem ggX5_convolve_X2_remainder : GoodIn wsX5_convolve wsX2_remainder := goodIn_r _ [52, 53, 54, 55, 56, 57, 112, 113, 114, 115, 116, 117] (by decide +kernel) (by decide +kernel)
set_option maxRecDepth 20000 in
theorem gX5_convolve_X2_remainder : GoodIn wsX5_convolve (wsV RX5 136 RX2 yX2_remainder wsX2_remainder) := goodIn_app (goodIn_of _ (by decide +kernel)) ggX5_convolve_X2_remainder
set_option maxRecDepth 20000 in
theorem ggX5_convolve_X2_backTurn : GoodIn wsX5_convolve wsX2_backTurn := goodIn_r _ [89, 38, 112, 113, 114, 115, 116, 117] (by decide +kernel) (by decide +kernel)
set_option maxRecDepth 20000 in
theorem gX5_convolve_X2_backTurn : GoodIn wsX5_convolve (wsV RX5 140 RX2 yX2_backTurn wsX2_backTurn) := goodIn_app (goodIn_of _ (by decide +kernel)) ggX5_convolve_X2_backTurn
set_option maxRecDepth 20000 in
theorem ggX5_convolve_X2_divideBySize : GoodIn wsX5_convolve wsX2_divideBySize := goodIn_r _ [93, 38, 94, 95, 50, 51, 36, 52, 53, 54, 55, 56, 57, 112, 113, 114, 115, 116, 117] (by decide +kernel) (by decide +kernel)
set_option maxRecDepth 20000 in
theorem gX5_convolve_X2_divideBySize : GoodIn wsX5_convolve (wsV RX5 143 RX2 yX2_divideBySize wsX2_divideBySize) := goodIn_app (goodIn_of _ (by decide +kernel)) ggX5_convolve_X2_divideBySize
set_option maxRecDepth 20000 in
theorem ggX5_convolve_X3_take : GoodIn wsX5_convolve wsX3_take := goodIn_r _ [99, 100, 101, 68, 102, 32, 48, 110, 111] (by decide +kernel) (by decide +kernel)
set_option maxRecDepth 20000 in
theorem gX5_convolve_X3_take : GoodIn wsX5_convolve (wsV RX5 147 RX3 yX3_take wsX3_take) := goodIn_app (goodIn_of _ (by decide +kernel)) ggX5_convolve_X3_take
set_option maxRecDepth 20000 in
theorem ggX5_convolve_X3_count : GoodIn wsX5_convolve wsX3_count := goodIn_r _ [31, 32, 110, 111] (by decide +kernel) (by decide +kernel)
set_option maxRecDepth 20000 in
theorem gX5_convolve_X3_count : GoodIn wsX5_convolve (wsV RX5 63 RX3 yX3_count wsX3_count) := goodIn_app (goodIn_of _ (by decide +kernel)) ggX5_convolve_X3_count
theorem dX5_convolve_0 : decode cX5_convolve 0 = .ok (.aload_n 0, 1) := by decide +kernel
theorem dX5_convolve_1 : decode cX5_convolve 1 = .ok (.iload_n 1, 1) := by decide +kernel
theorem dX5_convolve_2 : decode cX5_convolve 2 = .ok (.invokevirtual 99, 3) := by decide +kernel
theorem dX5_convolve_5 : decode cX5_convolve 5 = .ok (.astore 5, 2) := by decide +kernel
theorem dX5_convolve_7 : decode cX5_convolve 7 = .ok (.aload_n 0, 1) := by decide +kernel
theorem dX5_convolve_8 : decode cX5_convolve 8 = .ok (.iload_n 2, 1) := by decide +kernel
theorem dX5_convolve_9 : decode cX5_convolve 9 = .ok (.invokevirtual 43, 3) := by decide +kernel
theorem dX5_convolve_12 : decode cX5_convolve 12 = .ok (.astore 6, 2) := by decide +kernel
theorem dX5_convolve_14 : decode cX5_convolve 14 = .ok (.aload_n 0, 1) := by decide +kernel
theorem dX5_convolve_15 : decode cX5_convolve 15 = .ok (.iload_n 3, 1) := by decide +kernel
theorem dX5_convolve_16 : decode cX5_convolve 16 = .ok (.invokevirtual 43, 3) := by decide +kernel
theorem dX5_convolve_19 : decode cX5_convolve 19 = .ok (.astore 7, 2) := by decide +kernel
theorem dX5_convolve_21 : decode cX5_convolve 21 = .ok (.aload_n 0, 1) := by decide +kernel
theorem dX5_convolve_22 : decode cX5_convolve 22 = .ok (.iload 4, 2) := by decide +kernel
theorem dX5_convolve_24 : decode cX5_convolve 24 = .ok (.invokevirtual 43, 3) := by decide +kernel
theorem dX5_convolve_27 : decode cX5_convolve 27 = .ok (.astore 8, 2) := by decide +kernel
theorem dX5_convolve_29 : decode cX5_convolve 29 = .ok (.aload_n 0, 1) := by decide +kernel
theorem dX5_convolve_30 : decode cX5_convolve 30 = .ok (.aload 5, 2) := by decide +kernel
theorem dX5_convolve_32 : decode cX5_convolve 32 = .ok (.aload 6, 2) := by decide +kernel
theorem dX5_convolve_34 : decode cX5_convolve 34 = .ok (.aload 7, 2) := by decide +kernel
theorem dX5_convolve_36 : decode cX5_convolve 36 = .ok (.invokevirtual 128, 3) := by decide +kernel
theorem dX5_convolve_39 : decode cX5_convolve 39 = .ok (.aload_n 0, 1) := by decide +kernel
theorem dX5_convolve_40 : decode cX5_convolve 40 = .ok (.getfield 24, 3) := by decide +kernel
theorem dX5_convolve_43 : decode cX5_convolve 43 = .ok (.aload 5, 2) := by decide +kernel
theorem dX5_convolve_45 : decode cX5_convolve 45 = .ok (.aload_n 0, 1) := by decide +kernel
theorem dX5_convolve_46 : decode cX5_convolve 46 = .ok (.getfield 35, 3) := by decide +kernel
theorem dX5_convolve_49 : decode cX5_convolve 49 = .ok (.aload 5, 2) := by decide +kernel
theorem dX5_convolve_51 : decode cX5_convolve 51 = .ok (.invokevirtual 113, 3) := by decide +kernel
theorem dX5_convolve_54 : decode cX5_convolve 54 = .ok (.iconst 1, 1) := by decide +kernel
theorem dX5_convolve_55 : decode cX5_convolve 55 = .ok (.invokevirtual 132, 3) := by decide +kernel
theorem dX5_convolve_58 : decode cX5_convolve 58 = .ok (.aload_n 0, 1) := by decide +kernel
theorem dX5_convolve_59 : decode cX5_convolve 59 = .ok (.getfield 24, 3) := by decide +kernel
theorem dX5_convolve_62 : decode cX5_convolve 62 = .ok (.aload 5, 2) := by decide +kernel
theorem dX5_convolve_64 : decode cX5_convolve 64 = .ok (.aload_n 0, 1) := by decide +kernel
theorem dX5_convolve_65 : decode cX5_convolve 65 = .ok (.getfield 39, 3) := by decide +kernel
theorem dX5_convolve_68 : decode cX5_convolve 68 = .ok (.aload 5, 2) := by decide +kernel
theorem dX5_convolve_70 : decode cX5_convolve 70 = .ok (.invokevirtual 113, 3) := by decide +kernel
theorem dX5_convolve_73 : decode cX5_convolve 73 = .ok (.iconst 1, 1) := by decide +kernel
theorem dX5_convolve_74 : decode cX5_convolve 74 = .ok (.invokevirtual 132, 3) := by decide +kernel
theorem dX5_convolve_77 : decode cX5_convolve 77 = .ok (.iconst 0, 1) := by decide +kernel
theorem dX5_convolve_78 : decode cX5_convolve 78 = .ok (.istore 9, 2) := by decide +kernel
theorem dX5_convolve_80 : decode cX5_convolve 80 = .ok (.iload 9, 2) := by decide +kernel
theorem dX5_convolve_82 : decode cX5_convolve 82 = .ok (.aload 5, 2) := by decide +kernel
theorem dX5_convolve_84 : decode cX5_convolve 84 = .ok (.invokevirtual 113, 3) := by decide +kernel
theorem dX5_convolve_87 : decode cX5_convolve 87 = .ok (.if_icmp .ge 38, 3) := by decide +kernel
theorem dX5_convolve_90 : decode cX5_convolve 90 = .ok (.aload_n 0, 1) := by decide +kernel
theorem dX5_convolve_91 : decode cX5_convolve 91 = .ok (.getfield 35, 3) := by decide +kernel
theorem dX5_convolve_94 : decode cX5_convolve 94 = .ok (.iload 9, 2) := by decide +kernel
theorem dX5_convolve_96 : decode cX5_convolve 96 = .ok (.aload 5, 2) := by decide +kernel
theorem dX5_convolve_98 : decode cX5_convolve 98 = .ok (.aload_n 0, 1) := by decide +kernel
theorem dX5_convolve_99 : decode cX5_convolve 99 = .ok (.getfield 35, 3) := by decide +kernel
theorem dX5_convolve_102 : decode cX5_convolve 102 = .ok (.iload 9, 2) := by decide +kernel
theorem dX5_convolve_104 : decode cX5_convolve 104 = .ok (.iaload, 1) := by decide +kernel
theorem dX5_convolve_105 : decode cX5_convolve 105 = .ok (.i2l, 1) := by decide +kernel
theorem dX5_convolve_106 : decode cX5_convolve 106 = .ok (.aload_n 0, 1) := by decide +kernel
theorem dX5_convolve_107 : decode cX5_convolve 107 = .ok (.getfield 39, 3) := by decide +kernel
theorem dX5_convolve_110 : decode cX5_convolve 110 = .ok (.iload 9, 2) := by decide +kernel
theorem dX5_convolve_112 : decode cX5_convolve 112 = .ok (.iaload, 1) := by decide +kernel
theorem dX5_convolve_113 : decode cX5_convolve 113 = .ok (.i2l, 1) := by decide +kernel
theorem dX5_convolve_114 : decode cX5_convolve 114 = .ok (.lmul, 1) := by decide +kernel
theorem dX5_convolve_115 : decode cX5_convolve 115 = .ok (.invokevirtual 136, 3) := by decide +kernel
theorem dX5_convolve_118 : decode cX5_convolve 118 = .ok (.iastore, 1) := by decide +kernel
theorem dX5_convolve_119 : decode cX5_convolve 119 = .ok (.iinc 9 1, 3) := by decide +kernel
theorem dX5_convolve_122 : decode cX5_convolve 122 = .ok (.goto (-42), 3) := by decide +kernel
theorem dX5_convolve_125 : decode cX5_convolve 125 = .ok (.aload_n 0, 1) := by decide +kernel
theorem dX5_convolve_126 : decode cX5_convolve 126 = .ok (.getfield 24, 3) := by decide +kernel
theorem dX5_convolve_129 : decode cX5_convolve 129 = .ok (.aload 5, 2) := by decide +kernel
theorem dX5_convolve_131 : decode cX5_convolve 131 = .ok (.aload_n 0, 1) := by decide +kernel
theorem dX5_convolve_132 : decode cX5_convolve 132 = .ok (.getfield 35, 3) := by decide +kernel
theorem dX5_convolve_135 : decode cX5_convolve 135 = .ok (.aload 5, 2) := by decide +kernel
theorem dX5_convolve_137 : decode cX5_convolve 137 = .ok (.invokevirtual 113, 3) := by decide +kernel
theorem dX5_convolve_140 : decode cX5_convolve 140 = .ok (.aload 5, 2) := by decide +kernel
theorem dX5_convolve_142 : decode cX5_convolve 142 = .ok (.invokevirtual 140, 3) := by decide +kernel
theorem dX5_convolve_145 : decode cX5_convolve 145 = .ok (.invokevirtual 132, 3) := by decide +kernel
theorem dX5_convolve_148 : decode cX5_convolve 148 = .ok (.aload 5, 2) := by decide +kernel
theorem dX5_convolve_150 : decode cX5_convolve 150 = .ok (.aload_n 0, 1) := by decide +kernel
theorem dX5_convolve_151 : decode cX5_convolve 151 = .ok (.getfield 35, 3) := by decide +kernel
theorem dX5_convolve_154 : decode cX5_convolve 154 = .ok (.invokevirtual 143, 3) := by decide +kernel
theorem dX5_convolve_157 : decode cX5_convolve 157 = .ok (.aload 8, 2) := by decide +kernel
theorem dX5_convolve_159 : decode cX5_convolve 159 = .ok (.aload_n 0, 1) := by decide +kernel
theorem dX5_convolve_160 : decode cX5_convolve 160 = .ok (.getfield 35, 3) := by decide +kernel
theorem dX5_convolve_163 : decode cX5_convolve 163 = .ok (.aload 5, 2) := by decide +kernel
theorem dX5_convolve_165 : decode cX5_convolve 165 = .ok (.invokevirtual 113, 3) := by decide +kernel
theorem dX5_convolve_168 : decode cX5_convolve 168 = .ok (.invokevirtual 147, 3) := by decide +kernel
theorem dX5_convolve_171 : decode cX5_convolve 171 = .ok (.aload 8, 2) := by decide +kernel
theorem dX5_convolve_173 : decode cX5_convolve 173 = .ok (.invokevirtual 63, 3) := by decide +kernel
theorem dX5_convolve_176 : decode cX5_convolve 176 = .ok (.ireturn, 1) := by decide +kernel
set_option maxRecDepth 20000 in
theorem ggX5_convolved_X5_planOf : GoodIn wsX5_convolved wsX5_planOf := goodIn_ca (goodIn_r _ [7, 8, 9, 10, 11, 65, 66, 67, 68, 69, 70, 71] (by decide +kernel) (by decide +kernel)) (goodIn_sub (fun _ h => List.mem_cons_of_mem _ (List.mem_append_left _ (List.mem_append_right _ h))) (by decide +kernel))
set_option maxRecDepth 20000 in
theorem gX5_convolved_X5_planOf : GoodIn wsX5_convolved (wsV RX5 99 RX5 yX5_planOf wsX5_planOf) := goodIn_app (goodIn_of _ (by decide +kernel)) ggX5_convolved_X5_planOf
set_option maxRecDepth 20000 in
theorem ggX5_convolved_X5_rowOf : GoodIn wsX5_convolved wsX5_rowOf := goodIn_ca (goodIn_r _ [15, 8, 9, 16, 65, 66, 67, 68, 69, 70, 71] (by decide +kernel) (by decide +kernel)) (goodIn_sub (fun _ h => List.mem_cons_of_mem _ (List.mem_append_left _ (List.mem_append_right _ h))) (by decide +kernel))
set_option maxRecDepth 20000 in
theorem gX5_convolved_X5_rowOf : GoodIn wsX5_convolved (wsV RX5 43 RX5 yX5_rowOf wsX5_rowOf) := goodIn_app (goodIn_of _ (by decide +kernel)) ggX5_convolved_X5_rowOf
set_option maxRecDepth 20000 in
theorem ggX5_convolved_X2_size : GoodIn wsX5_convolved wsX2_size := goodIn_r _ [21, 22, 72, 73, 74, 75, 76, 77] (by decide +kernel) (by decide +kernel)
set_option maxRecDepth 20000 in
theorem gX5_convolved_X2_size : GoodIn wsX5_convolved (wsV RX5 113 RX2 yX2_size wsX2_size) := goodIn_app (goodIn_of _ (by decide +kernel)) ggX5_convolved_X2_size
set_option maxRecDepth 20000 in
theorem ggX5_convolved_X5_requireEntry : GoodIn wsX5_convolved wsX5_requireEntry := goodIn_ca (goodIn_r _ [25, 8, 9] (by decide +kernel) (by decide +kernel)) (goodIn_sub (fun _ h => List.mem_cons_of_mem _ (List.mem_append_left _ (List.mem_append_right _ h))) (by decide +kernel))
set_option maxRecDepth 20000 in
theorem gX5_convolved_X5_requireEntry : GoodIn wsX5_convolved (va_wsS RX5 74 yX5_requireEntry wsX5_requireEntry) := goodIn_app (goodIn_of _ (by decide +kernel)) ggX5_convolved_X5_requireEntry
set_option maxRecDepth 20000 in
theorem ggX5_convolved_X5_loadPair : GoodIn wsX5_convolved wsX5_loadPair := goodIn_ca (goodIn_r _ [29, 1, 2, 30, 31, 6, 32, 33, 34, 35, 36, 37, 38, 39, 40, 17, 18, 19, 20, 21, 22, 41, 42, 43, 44, 45, 46, 47, 48, 49, 50, 51, 52, 53, 54, 55, 56, 57, 58, 59, 65, 66, 67, 68, 69, 70, 71, 78, 79, 72, 73, 74, 75, 76, 77] (by decide +kernel) (by decide +kernel)) (goodIn_sub (fun _ h => List.mem_cons_of_mem _ (List.mem_append_right _ h)) (by decide +kernel))
set_option maxRecDepth 20000 in
theorem gX5_convolved_X5_loadPair : GoodIn wsX5_convolved (wsV RX5 128 RX5 yX5_loadPair wsX5_loadPair) := goodIn_app (goodIn_of _ (by decide +kernel)) ggX5_convolved_X5_loadPair
set_option maxRecDepth 20000 in
theorem ggX5_convolved_X0_cyclicEntry : GoodIn wsX5_convolved wsX0_cyclicEntry := goodIn_r _ [63] (by decide +kernel) (by decide +kernel)
set_option maxRecDepth 20000 in
theorem gX5_convolved_X0_cyclicEntry : GoodIn wsX5_convolved (va_wsS RX5 151 yX0_cyclicEntry wsX0_cyclicEntry) := goodIn_app (goodIn_of _ (by decide +kernel)) ggX5_convolved_X0_cyclicEntry
set_option maxRecDepth 20000 in
theorem ggX5_convolved_X2_remainder : GoodIn wsX5_convolved wsX2_remainder := goodIn_r _ [54, 55, 56, 57, 58, 59, 72, 73, 74, 75, 76, 77] (by decide +kernel) (by decide +kernel)
set_option maxRecDepth 20000 in
theorem gX5_convolved_X2_remainder : GoodIn wsX5_convolved (wsV RX5 136 RX2 yX2_remainder wsX2_remainder) := goodIn_app (goodIn_of _ (by decide +kernel)) ggX5_convolved_X2_remainder
theorem dX5_convolved_0 : decode cX5_convolved 0 = .ok (.aload_n 0, 1) := by decide +kernel
theorem dX5_convolved_1 : decode cX5_convolved 1 = .ok (.iload_n 1, 1) := by decide +kernel
theorem dX5_convolved_2 : decode cX5_convolved 2 = .ok (.invokevirtual 99, 3) := by decide +kernel
theorem dX5_convolved_5 : decode cX5_convolved 5 = .ok (.astore 5, 2) := by decide +kernel
theorem dX5_convolved_7 : decode cX5_convolved 7 = .ok (.aload_n 0, 1) := by decide +kernel
theorem dX5_convolved_8 : decode cX5_convolved 8 = .ok (.iload_n 2, 1) := by decide +kernel
theorem dX5_convolved_9 : decode cX5_convolved 9 = .ok (.invokevirtual 43, 3) := by decide +kernel
theorem dX5_convolved_12 : decode cX5_convolved 12 = .ok (.astore 6, 2) := by decide +kernel
theorem dX5_convolved_14 : decode cX5_convolved 14 = .ok (.aload_n 0, 1) := by decide +kernel
theorem dX5_convolved_15 : decode cX5_convolved 15 = .ok (.iload_n 3, 1) := by decide +kernel
theorem dX5_convolved_16 : decode cX5_convolved 16 = .ok (.invokevirtual 43, 3) := by decide +kernel
theorem dX5_convolved_19 : decode cX5_convolved 19 = .ok (.astore 7, 2) := by decide +kernel
theorem dX5_convolved_21 : decode cX5_convolved 21 = .ok (.iload 4, 2) := by decide +kernel
theorem dX5_convolved_23 : decode cX5_convolved 23 = .ok (.aload 5, 2) := by decide +kernel
theorem dX5_convolved_25 : decode cX5_convolved 25 = .ok (.invokevirtual 113, 3) := by decide +kernel
theorem dX5_convolved_28 : decode cX5_convolved 28 = .ok (.invokestatic 74, 3) := by decide +kernel
theorem dX5_convolved_31 : decode cX5_convolved 31 = .ok (.aload_n 0, 1) := by decide +kernel
theorem dX5_convolved_32 : decode cX5_convolved 32 = .ok (.aload 5, 2) := by decide +kernel
theorem dX5_convolved_34 : decode cX5_convolved 34 = .ok (.aload 6, 2) := by decide +kernel
theorem dX5_convolved_36 : decode cX5_convolved 36 = .ok (.aload 7, 2) := by decide +kernel
theorem dX5_convolved_38 : decode cX5_convolved 38 = .ok (.invokevirtual 128, 3) := by decide +kernel
theorem dX5_convolved_41 : decode cX5_convolved 41 = .ok (.aload 5, 2) := by decide +kernel
theorem dX5_convolved_43 : decode cX5_convolved 43 = .ok (.aload_n 0, 1) := by decide +kernel
theorem dX5_convolved_44 : decode cX5_convolved 44 = .ok (.getfield 35, 3) := by decide +kernel
theorem dX5_convolved_47 : decode cX5_convolved 47 = .ok (.aload_n 0, 1) := by decide +kernel
theorem dX5_convolved_48 : decode cX5_convolved 48 = .ok (.getfield 39, 3) := by decide +kernel
theorem dX5_convolved_51 : decode cX5_convolved 51 = .ok (.aload 5, 2) := by decide +kernel
theorem dX5_convolved_53 : decode cX5_convolved 53 = .ok (.invokevirtual 113, 3) := by decide +kernel
theorem dX5_convolved_56 : decode cX5_convolved 56 = .ok (.iload 4, 2) := by decide +kernel
theorem dX5_convolved_58 : decode cX5_convolved 58 = .ok (.invokestatic 151, 3) := by decide +kernel
theorem dX5_convolved_61 : decode cX5_convolved 61 = .ok (.invokevirtual 136, 3) := by decide +kernel
theorem dX5_convolved_64 : decode cX5_convolved 64 = .ok (.ireturn, 1) := by decide +kernel
set_option maxRecDepth 20000 in
theorem ggX5_filter_X5_rowOf : GoodIn wsX5_filter wsX5_rowOf := goodIn_ca (goodIn_r _ [8, 9, 10, 11, 75, 76, 77, 78, 79, 80, 81] (by decide +kernel) (by decide +kernel)) (goodIn_sub (fun _ h => List.mem_cons_of_mem _ (List.mem_append_left _ (List.mem_append_right _ h))) (by decide +kernel))
set_option maxRecDepth 20000 in
theorem gX5_filter_X5_rowOf : GoodIn wsX5_filter (wsV RX5 43 RX5 yX5_rowOf wsX5_rowOf) := goodIn_app (goodIn_of _ (by decide +kernel)) ggX5_filter_X5_rowOf
set_option maxRecDepth 20000 in
theorem ggX5_filter_X5_requireEntriesWithin : GoodIn wsX5_filter wsX5_requireEntriesWithin := goodIn_ca (goodIn_r _ [14, 1, 2, 15, 16, 17, 18, 19, 20, 21, 82, 83] (by decide +kernel) (by decide +kernel)) (goodIn_sub (fun _ h => List.mem_cons_of_mem _ (List.mem_append_left _ (List.mem_append_left _ (List.mem_append_right _ h)))) (by decide +kernel))
set_option maxRecDepth 20000 in
theorem gX5_filter_X5_requireEntriesWithin : GoodIn wsX5_filter (va_wsS RX5 157 yX5_requireEntriesWithin wsX5_requireEntriesWithin) := goodIn_app (goodIn_of _ (by decide +kernel)) ggX5_filter_X5_requireEntriesWithin
set_option maxRecDepth 20000 in
theorem ggX5_filter_X3_count : GoodIn wsX5_filter wsX3_count := goodIn_r _ [25, 20, 82, 83] (by decide +kernel) (by decide +kernel)
set_option maxRecDepth 20000 in
theorem gX5_filter_X3_count : GoodIn wsX5_filter (wsV RX5 63 RX3 yX3_count wsX3_count) := goodIn_app (goodIn_of _ (by decide +kernel)) ggX5_filter_X3_count
set_option maxRecDepth 20000 in
theorem ggX5_filter_X5_requireFilledWithin : GoodIn wsX5_filter wsX5_requireFilledWithin := goodIn_ca (goodIn_r _ [28, 29, 30, 22, 23, 24, 18, 25, 20, 82, 83] (by decide +kernel) (by decide +kernel)) (goodIn_sub (fun _ h => List.mem_cons_of_mem _ (List.mem_append_right _ h)) (by decide +kernel))
set_option maxRecDepth 20000 in
theorem gX5_filter_X5_requireFilledWithin : GoodIn wsX5_filter (va_wsS RX5 161 yX5_requireFilledWithin wsX5_requireFilledWithin) := goodIn_app (goodIn_of _ (by decide +kernel)) ggX5_filter_X5_requireFilledWithin
set_option maxRecDepth 20000 in
theorem ggX5_filter_X0_overlapSave : GoodIn wsX5_filter wsX0_overlapSave := goodIn_r _ [35, 36, 37, 38, 39, 40, 41, 42, 43, 23, 24, 18, 25, 20, 44, 45, 46, 34, 47, 48, 49, 50, 51, 52, 53, 21, 82, 83, 84, 85] (by decide +kernel) (by decide +kernel)
set_option maxRecDepth 20000 in
theorem gX5_filter_X0_overlapSave : GoodIn wsX5_filter (wsV RX5 165 RX0 yX0_overlapSave wsX0_overlapSave) := goodIn_app (goodIn_of _ (by decide +kernel)) ggX5_filter_X0_overlapSave
set_option maxRecDepth 20000 in
theorem ggX5_filter_X0_overlapAdd : GoodIn wsX5_filter wsX0_overlapAdd := goodIn_r _ [57, 49, 36, 37, 38, 39, 40, 41, 42, 58, 59, 60, 61, 43, 23, 24, 18, 25, 20, 62, 63, 64, 34, 65, 50, 51, 52, 53, 21, 84, 85, 82, 83] (by decide +kernel) (by decide +kernel)
set_option maxRecDepth 20000 in
theorem gX5_filter_X0_overlapAdd : GoodIn wsX5_filter (wsV RX5 168 RX0 yX0_overlapAdd wsX0_overlapAdd) := goodIn_app (goodIn_of _ (by decide +kernel)) ggX5_filter_X0_overlapAdd
set_option maxRecDepth 20000 in
theorem ggX5_filter_X0_results : GoodIn wsX5_filter wsX0_results := goodIn_r _ [69, 49, 84, 85] (by decide +kernel) (by decide +kernel)
set_option maxRecDepth 20000 in
theorem gX5_filter_X0_results : GoodIn wsX5_filter (wsV RX5 171 RX0 yX0_results wsX0_results) := goodIn_app (goodIn_of _ (by decide +kernel)) ggX5_filter_X0_results
set_option maxRecDepth 20000 in
theorem ggX5_filter_X3_take : GoodIn wsX5_filter wsX3_take := goodIn_r _ [73, 74, 41, 38, 42, 20, 21, 82, 83] (by decide +kernel) (by decide +kernel)
set_option maxRecDepth 20000 in
theorem gX5_filter_X3_take : GoodIn wsX5_filter (wsV RX5 147 RX3 yX3_take wsX3_take) := goodIn_app (goodIn_of _ (by decide +kernel)) ggX5_filter_X3_take
theorem dX5_filter_0 : decode cX5_filter 0 = .ok (.aload_n 0, 1) := by decide +kernel
theorem dX5_filter_1 : decode cX5_filter 1 = .ok (.iload_n 1, 1) := by decide +kernel
theorem dX5_filter_2 : decode cX5_filter 2 = .ok (.invokevirtual 43, 3) := by decide +kernel
theorem dX5_filter_5 : decode cX5_filter 5 = .ok (.astore 6, 2) := by decide +kernel
theorem dX5_filter_7 : decode cX5_filter 7 = .ok (.aload_n 0, 1) := by decide +kernel
theorem dX5_filter_8 : decode cX5_filter 8 = .ok (.iload_n 2, 1) := by decide +kernel
theorem dX5_filter_9 : decode cX5_filter 9 = .ok (.invokevirtual 43, 3) := by decide +kernel
theorem dX5_filter_12 : decode cX5_filter 12 = .ok (.astore 7, 2) := by decide +kernel
theorem dX5_filter_14 : decode cX5_filter 14 = .ok (.aload_n 0, 1) := by decide +kernel
theorem dX5_filter_15 : decode cX5_filter 15 = .ok (.iload_n 3, 1) := by decide +kernel
theorem dX5_filter_16 : decode cX5_filter 16 = .ok (.invokevirtual 43, 3) := by decide +kernel
theorem dX5_filter_19 : decode cX5_filter 19 = .ok (.astore 8, 2) := by decide +kernel
theorem dX5_filter_21 : decode cX5_filter 21 = .ok (.iload 4, 2) := by decide +kernel
theorem dX5_filter_23 : decode cX5_filter 23 = .ok (.iconst 1, 1) := by decide +kernel
theorem dX5_filter_24 : decode cX5_filter 24 = .ok (.if_icmp .lt 10, 3) := by decide +kernel
theorem dX5_filter_27 : decode cX5_filter 27 = .ok (.iload 4, 2) := by decide +kernel
theorem dX5_filter_29 : decode cX5_filter 29 = .ok (.bipush 32, 2) := by decide +kernel
theorem dX5_filter_31 : decode cX5_filter 31 = .ok (.if_icmp .le 13, 3) := by decide +kernel
theorem dX5_filter_34 : decode cX5_filter 34 = .ok (.new 47, 3) := by decide +kernel
theorem dX5_filter_37 : decode cX5_filter 37 = .ok (.dup, 1) := by decide +kernel
theorem dX5_filter_38 : decode cX5_filter 38 = .ok (.ldc 155, 2) := by decide +kernel
theorem dX5_filter_40 : decode cX5_filter 40 = .ok (.invokespecial 51, 3) := by decide +kernel
theorem dX5_filter_43 : decode cX5_filter 43 = .ok (.athrow, 1) := by decide +kernel
theorem dX5_filter_44 : decode cX5_filter 44 = .ok (.aload 6, 2) := by decide +kernel
theorem dX5_filter_46 : decode cX5_filter 46 = .ok (.aload 7, 2) := by decide +kernel
theorem dX5_filter_48 : decode cX5_filter 48 = .ok (.bipush (-99), 2) := by decide +kernel
theorem dX5_filter_50 : decode cX5_filter 50 = .ok (.bipush 99, 2) := by decide +kernel
theorem dX5_filter_52 : decode cX5_filter 52 = .ok (.invokestatic 157, 3) := by decide +kernel
theorem dX5_filter_55 : decode cX5_filter 55 = .ok (.aload 6, 2) := by decide +kernel
theorem dX5_filter_57 : decode cX5_filter 57 = .ok (.invokevirtual 63, 3) := by decide +kernel
theorem dX5_filter_60 : decode cX5_filter 60 = .ok (.aload 7, 2) := by decide +kernel
theorem dX5_filter_62 : decode cX5_filter 62 = .ok (.invokevirtual 63, 3) := by decide +kernel
theorem dX5_filter_65 : decode cX5_filter 65 = .ok (.iadd, 1) := by decide +kernel
theorem dX5_filter_66 : decode cX5_filter 66 = .ok (.iconst 1, 1) := by decide +kernel
theorem dX5_filter_67 : decode cX5_filter 67 = .ok (.isub, 1) := by decide +kernel
theorem dX5_filter_68 : decode cX5_filter 68 = .ok (.istore 9, 2) := by decide +kernel
theorem dX5_filter_70 : decode cX5_filter 70 = .ok (.aload 6, 2) := by decide +kernel
theorem dX5_filter_72 : decode cX5_filter 72 = .ok (.aload 7, 2) := by decide +kernel
theorem dX5_filter_74 : decode cX5_filter 74 = .ok (.iload 9, 2) := by decide +kernel
theorem dX5_filter_76 : decode cX5_filter 76 = .ok (.invokestatic 161, 3) := by decide +kernel
theorem dX5_filter_79 : decode cX5_filter 79 = .ok (.iload 5, 2) := by decide +kernel
theorem dX5_filter_81 : decode cX5_filter 81 = .ok (.ifCond .eq 19, 3) := by decide +kernel
theorem dX5_filter_84 : decode cX5_filter 84 = .ok (.aload_n 0, 1) := by decide +kernel
theorem dX5_filter_85 : decode cX5_filter 85 = .ok (.getfield 31, 3) := by decide +kernel
theorem dX5_filter_88 : decode cX5_filter 88 = .ok (.aload 6, 2) := by decide +kernel
theorem dX5_filter_90 : decode cX5_filter 90 = .ok (.aload 7, 2) := by decide +kernel
theorem dX5_filter_92 : decode cX5_filter 92 = .ok (.iload 4, 2) := by decide +kernel
theorem dX5_filter_94 : decode cX5_filter 94 = .ok (.invokevirtual 165, 3) := by decide +kernel
theorem dX5_filter_97 : decode cX5_filter 97 = .ok (.goto 16, 3) := by decide +kernel
theorem dX5_filter_100 : decode cX5_filter 100 = .ok (.aload_n 0, 1) := by decide +kernel
theorem dX5_filter_101 : decode cX5_filter 101 = .ok (.getfield 31, 3) := by decide +kernel
theorem dX5_filter_104 : decode cX5_filter 104 = .ok (.aload 6, 2) := by decide +kernel
theorem dX5_filter_106 : decode cX5_filter 106 = .ok (.aload 7, 2) := by decide +kernel
theorem dX5_filter_108 : decode cX5_filter 108 = .ok (.iload 4, 2) := by decide +kernel
theorem dX5_filter_110 : decode cX5_filter 110 = .ok (.invokevirtual 168, 3) := by decide +kernel
theorem dX5_filter_113 : decode cX5_filter 113 = .ok (.aload 8, 2) := by decide +kernel
theorem dX5_filter_115 : decode cX5_filter 115 = .ok (.aload_n 0, 1) := by decide +kernel
theorem dX5_filter_116 : decode cX5_filter 116 = .ok (.getfield 31, 3) := by decide +kernel
theorem dX5_filter_119 : decode cX5_filter 119 = .ok (.invokevirtual 171, 3) := by decide +kernel
theorem dX5_filter_122 : decode cX5_filter 122 = .ok (.iload 9, 2) := by decide +kernel
theorem dX5_filter_124 : decode cX5_filter 124 = .ok (.invokevirtual 147, 3) := by decide +kernel
theorem dX5_filter_127 : decode cX5_filter 127 = .ok (.aload 8, 2) := by decide +kernel
theorem dX5_filter_129 : decode cX5_filter 129 = .ok (.invokevirtual 63, 3) := by decide +kernel
theorem dX5_filter_132 : decode cX5_filter 132 = .ok (.ireturn, 1) := by decide +kernel
set_option maxRecDepth 20000 in
theorem ggX5_multiply_X5_rowOf : GoodIn wsX5_multiply wsX5_rowOf := goodIn_ca (goodIn_r _ [6, 7, 8, 9, 62, 63, 64, 65, 66, 67, 68] (by decide +kernel) (by decide +kernel)) (goodIn_sub (fun _ h => List.mem_cons_of_mem _ (List.mem_append_left _ (List.mem_append_left _ (List.mem_append_right _ h)))) (by decide +kernel))
set_option maxRecDepth 20000 in
theorem gX5_multiply_X5_rowOf : GoodIn wsX5_multiply (wsV RX5 43 RX5 yX5_rowOf wsX5_rowOf) := goodIn_app (goodIn_of _ (by decide +kernel)) ggX5_multiply_X5_rowOf
set_option maxRecDepth 20000 in
theorem ggX5_multiply_X5_requireEntriesWithin : GoodIn wsX5_multiply wsX5_requireEntriesWithin := goodIn_ca (goodIn_r _ [12, 13, 14, 15, 16, 17, 18, 19, 20, 21, 69, 70] (by decide +kernel) (by decide +kernel)) (goodIn_sub (fun _ h => List.mem_cons_of_mem _ (List.mem_append_left _ (List.mem_append_right _ h))) (by decide +kernel))
set_option maxRecDepth 20000 in
theorem gX5_multiply_X5_requireEntriesWithin : GoodIn wsX5_multiply (va_wsS RX5 157 yX5_requireEntriesWithin wsX5_requireEntriesWithin) := goodIn_app (goodIn_of _ (by decide +kernel)) ggX5_multiply_X5_requireEntriesWithin
set_option maxRecDepth 20000 in
theorem ggX5_multiply_X3_count : GoodIn wsX5_multiply wsX3_count := goodIn_r _ [25, 20, 69, 70] (by decide +kernel) (by decide +kernel)
set_option maxRecDepth 20000 in
theorem gX5_multiply_X3_count : GoodIn wsX5_multiply (wsV RX5 63 RX3 yX3_count wsX3_count) := goodIn_app (goodIn_of _ (by decide +kernel)) ggX5_multiply_X3_count
set_option maxRecDepth 20000 in
theorem ggX5_multiply_X5_requireFilledWithin : GoodIn wsX5_multiply wsX5_requireFilledWithin := goodIn_ca (goodIn_r _ [28, 29, 30, 22, 23, 24, 18, 25, 20, 69, 70] (by decide +kernel) (by decide +kernel)) (goodIn_sub (fun _ h => List.mem_cons_of_mem _ (List.mem_append_right _ h)) (by decide +kernel))
set_option maxRecDepth 20000 in
theorem gX5_multiply_X5_requireFilledWithin : GoodIn wsX5_multiply (va_wsS RX5 161 yX5_requireFilledWithin wsX5_requireFilledWithin) := goodIn_app (goodIn_of _ (by decide +kernel)) ggX5_multiply_X5_requireFilledWithin
set_option maxRecDepth 20000 in
theorem ggX5_multiply_X0_product : GoodIn wsX5_multiply wsX0_product := goodIn_r _ [35, 36, 37, 38, 39, 40, 41, 23, 24, 18, 25, 20, 42, 43, 44, 34, 45, 46, 47, 48, 49, 21, 71, 72, 69, 70] (by decide +kernel) (by decide +kernel)
set_option maxRecDepth 20000 in
theorem gX5_multiply_X0_product : GoodIn wsX5_multiply (wsV RX5 175 RX0 yX0_product wsX0_product) := goodIn_app (goodIn_of _ (by decide +kernel)) ggX5_multiply_X0_product
set_option maxRecDepth 20000 in
theorem ggX5_multiply_X0_results : GoodIn wsX5_multiply wsX0_results := goodIn_r _ [53, 36, 71, 72] (by decide +kernel) (by decide +kernel)
set_option maxRecDepth 20000 in
theorem gX5_multiply_X0_results : GoodIn wsX5_multiply (wsV RX5 171 RX0 yX0_results wsX0_results) := goodIn_app (goodIn_of _ (by decide +kernel)) ggX5_multiply_X0_results
set_option maxRecDepth 20000 in
theorem ggX5_multiply_X3_take : GoodIn wsX5_multiply wsX3_take := goodIn_r _ [57, 58, 59, 60, 61, 20, 21, 69, 70] (by decide +kernel) (by decide +kernel)
set_option maxRecDepth 20000 in
theorem gX5_multiply_X3_take : GoodIn wsX5_multiply (wsV RX5 147 RX3 yX3_take wsX3_take) := goodIn_app (goodIn_of _ (by decide +kernel)) ggX5_multiply_X3_take
theorem dX5_multiply_0 : decode cX5_multiply 0 = .ok (.aload_n 0, 1) := by decide +kernel
theorem dX5_multiply_1 : decode cX5_multiply 1 = .ok (.iload_n 1, 1) := by decide +kernel
theorem dX5_multiply_2 : decode cX5_multiply 2 = .ok (.invokevirtual 43, 3) := by decide +kernel
theorem dX5_multiply_5 : decode cX5_multiply 5 = .ok (.astore 4, 2) := by decide +kernel
theorem dX5_multiply_7 : decode cX5_multiply 7 = .ok (.aload_n 0, 1) := by decide +kernel
theorem dX5_multiply_8 : decode cX5_multiply 8 = .ok (.iload_n 2, 1) := by decide +kernel
theorem dX5_multiply_9 : decode cX5_multiply 9 = .ok (.invokevirtual 43, 3) := by decide +kernel
theorem dX5_multiply_12 : decode cX5_multiply 12 = .ok (.astore 5, 2) := by decide +kernel
theorem dX5_multiply_14 : decode cX5_multiply 14 = .ok (.aload_n 0, 1) := by decide +kernel
theorem dX5_multiply_15 : decode cX5_multiply 15 = .ok (.iload_n 3, 1) := by decide +kernel
theorem dX5_multiply_16 : decode cX5_multiply 16 = .ok (.invokevirtual 43, 3) := by decide +kernel
theorem dX5_multiply_19 : decode cX5_multiply 19 = .ok (.astore 6, 2) := by decide +kernel
theorem dX5_multiply_21 : decode cX5_multiply 21 = .ok (.aload 4, 2) := by decide +kernel
theorem dX5_multiply_23 : decode cX5_multiply 23 = .ok (.aload 5, 2) := by decide +kernel
theorem dX5_multiply_25 : decode cX5_multiply 25 = .ok (.iconst 0, 1) := by decide +kernel
theorem dX5_multiply_26 : decode cX5_multiply 26 = .ok (.bipush 9, 2) := by decide +kernel
theorem dX5_multiply_28 : decode cX5_multiply 28 = .ok (.invokestatic 157, 3) := by decide +kernel
theorem dX5_multiply_31 : decode cX5_multiply 31 = .ok (.aload 4, 2) := by decide +kernel
theorem dX5_multiply_33 : decode cX5_multiply 33 = .ok (.aload 5, 2) := by decide +kernel
theorem dX5_multiply_35 : decode cX5_multiply 35 = .ok (.aload 4, 2) := by decide +kernel
theorem dX5_multiply_37 : decode cX5_multiply 37 = .ok (.invokevirtual 63, 3) := by decide +kernel
theorem dX5_multiply_40 : decode cX5_multiply 40 = .ok (.aload 5, 2) := by decide +kernel
theorem dX5_multiply_42 : decode cX5_multiply 42 = .ok (.invokevirtual 63, 3) := by decide +kernel
theorem dX5_multiply_45 : decode cX5_multiply 45 = .ok (.iadd, 1) := by decide +kernel
theorem dX5_multiply_46 : decode cX5_multiply 46 = .ok (.invokestatic 161, 3) := by decide +kernel
theorem dX5_multiply_49 : decode cX5_multiply 49 = .ok (.aload_n 0, 1) := by decide +kernel
theorem dX5_multiply_50 : decode cX5_multiply 50 = .ok (.getfield 31, 3) := by decide +kernel
theorem dX5_multiply_53 : decode cX5_multiply 53 = .ok (.aload 4, 2) := by decide +kernel
theorem dX5_multiply_55 : decode cX5_multiply 55 = .ok (.aload 5, 2) := by decide +kernel
theorem dX5_multiply_57 : decode cX5_multiply 57 = .ok (.invokevirtual 175, 3) := by decide +kernel
theorem dX5_multiply_60 : decode cX5_multiply 60 = .ok (.istore 7, 2) := by decide +kernel
theorem dX5_multiply_62 : decode cX5_multiply 62 = .ok (.aload 6, 2) := by decide +kernel
theorem dX5_multiply_64 : decode cX5_multiply 64 = .ok (.aload_n 0, 1) := by decide +kernel
theorem dX5_multiply_65 : decode cX5_multiply 65 = .ok (.getfield 31, 3) := by decide +kernel
theorem dX5_multiply_68 : decode cX5_multiply 68 = .ok (.invokevirtual 171, 3) := by decide +kernel
theorem dX5_multiply_71 : decode cX5_multiply 71 = .ok (.iload 7, 2) := by decide +kernel
theorem dX5_multiply_73 : decode cX5_multiply 73 = .ok (.invokevirtual 147, 3) := by decide +kernel
theorem dX5_multiply_76 : decode cX5_multiply 76 = .ok (.aload 6, 2) := by decide +kernel
theorem dX5_multiply_78 : decode cX5_multiply 78 = .ok (.invokevirtual 63, 3) := by decide +kernel
theorem dX5_multiply_81 : decode cX5_multiply 81 = .ok (.ireturn, 1) := by decide +kernel
theorem dX5_rowOf_0 : decode cX5_rowOf 0 = .ok (.iload_n 1, 1) := by decide +kernel
theorem dX5_rowOf_1 : decode cX5_rowOf 1 = .ok (.ifCond .lt 8, 3) := by decide +kernel
theorem dX5_rowOf_4 : decode cX5_rowOf 4 = .ok (.iload_n 1, 1) := by decide +kernel
theorem dX5_rowOf_5 : decode cX5_rowOf 5 = .ok (.iconst 4, 1) := by decide +kernel
theorem dX5_rowOf_6 : decode cX5_rowOf 6 = .ok (.if_icmp .lt 13, 3) := by decide +kernel
theorem dX5_rowOf_9 : decode cX5_rowOf 9 = .ok (.new 179, 3) := by decide +kernel
theorem dX5_rowOf_12 : decode cX5_rowOf 12 = .ok (.dup, 1) := by decide +kernel
theorem dX5_rowOf_13 : decode cX5_rowOf 13 = .ok (.ldc 181, 2) := by decide +kernel
theorem dX5_rowOf_15 : decode cX5_rowOf 15 = .ok (.invokespecial 183, 3) := by decide +kernel
theorem dX5_rowOf_18 : decode cX5_rowOf 18 = .ok (.athrow, 1) := by decide +kernel
theorem dX5_rowOf_19 : decode cX5_rowOf 19 = .ok (.aload_n 0, 1) := by decide +kernel
theorem dX5_rowOf_20 : decode cX5_rowOf 20 = .ok (.getfield 11, 3) := by decide +kernel
theorem dX5_rowOf_23 : decode cX5_rowOf 23 = .ok (.iload_n 1, 1) := by decide +kernel
theorem dX5_rowOf_24 : decode cX5_rowOf 24 = .ok (.aaload, 1) := by decide +kernel
theorem dX5_rowOf_25 : decode cX5_rowOf 25 = .ok (.areturn, 1) := by decide +kernel
theorem dX5_planOf_0 : decode cX5_planOf 0 = .ok (.iload_n 1, 1) := by decide +kernel
theorem dX5_planOf_1 : decode cX5_planOf 1 = .ok (.ifCond .lt 11, 3) := by decide +kernel
theorem dX5_planOf_4 : decode cX5_planOf 4 = .ok (.iload_n 1, 1) := by decide +kernel
theorem dX5_planOf_5 : decode cX5_planOf 5 = .ok (.aload_n 0, 1) := by decide +kernel
theorem dX5_planOf_6 : decode cX5_planOf 6 = .ok (.getfield 91, 3) := by decide +kernel
theorem dX5_planOf_9 : decode cX5_planOf 9 = .ok (.if_icmp .lt 7, 3) := by decide +kernel
theorem dX5_planOf_12 : decode cX5_planOf 12 = .ok (.aconst_null, 1) := by decide +kernel
theorem dX5_planOf_13 : decode cX5_planOf 13 = .ok (.goto 9, 3) := by decide +kernel
theorem dX5_planOf_16 : decode cX5_planOf 16 = .ok (.aload_n 0, 1) := by decide +kernel
theorem dX5_planOf_17 : decode cX5_planOf 17 = .ok (.getfield 17, 3) := by decide +kernel
theorem dX5_planOf_20 : decode cX5_planOf 20 = .ok (.iload_n 1, 1) := by decide +kernel
theorem dX5_planOf_21 : decode cX5_planOf 21 = .ok (.aaload, 1) := by decide +kernel
theorem dX5_planOf_22 : decode cX5_planOf 22 = .ok (.astore_n 2, 1) := by decide +kernel
theorem dX5_planOf_23 : decode cX5_planOf 23 = .ok (.aload_n 2, 1) := by decide +kernel
theorem dX5_planOf_24 : decode cX5_planOf 24 = .ok (.ifnonnull 13, 3) := by decide +kernel
theorem dX5_planOf_27 : decode cX5_planOf 27 = .ok (.new 179, 3) := by decide +kernel
theorem dX5_planOf_30 : decode cX5_planOf 30 = .ok (.dup, 1) := by decide +kernel
theorem dX5_planOf_31 : decode cX5_planOf 31 = .ok (.ldc 184, 2) := by decide +kernel
theorem dX5_planOf_33 : decode cX5_planOf 33 = .ok (.invokespecial 183, 3) := by decide +kernel
theorem dX5_planOf_36 : decode cX5_planOf 36 = .ok (.athrow, 1) := by decide +kernel
theorem dX5_planOf_37 : decode cX5_planOf 37 = .ok (.aload_n 2, 1) := by decide +kernel
theorem dX5_planOf_38 : decode cX5_planOf 38 = .ok (.areturn, 1) := by decide +kernel
theorem dX5_requireEntry_0 : decode cX5_requireEntry 0 = .ok (.iload_n 0, 1) := by decide +kernel
theorem dX5_requireEntry_1 : decode cX5_requireEntry 1 = .ok (.ifCond .lt 8, 3) := by decide +kernel
theorem dX5_requireEntry_4 : decode cX5_requireEntry 4 = .ok (.iload_n 0, 1) := by decide +kernel
theorem dX5_requireEntry_5 : decode cX5_requireEntry 5 = .ok (.iload_n 1, 1) := by decide +kernel
theorem dX5_requireEntry_6 : decode cX5_requireEntry 6 = .ok (.if_icmp .lt 13, 3) := by decide +kernel
theorem dX5_requireEntry_9 : decode cX5_requireEntry 9 = .ok (.new 179, 3) := by decide +kernel
theorem dX5_requireEntry_12 : decode cX5_requireEntry 12 = .ok (.dup, 1) := by decide +kernel
theorem dX5_requireEntry_13 : decode cX5_requireEntry 13 = .ok (.ldc 186, 2) := by decide +kernel
theorem dX5_requireEntry_15 : decode cX5_requireEntry 15 = .ok (.invokespecial 183, 3) := by decide +kernel
theorem dX5_requireEntry_18 : decode cX5_requireEntry 18 = .ok (.athrow, 1) := by decide +kernel
theorem dX5_requireEntry_19 : decode cX5_requireEntry 19 = .ok (.return_, 1) := by decide +kernel
set_option maxRecDepth 20000 in
theorem ggX5_requireFit_X3_count : GoodIn wsX5_requireFit wsX3_count := goodIn_r _ [7, 8, 15, 16] (by decide +kernel) (by decide +kernel)
set_option maxRecDepth 20000 in
theorem gX5_requireFit_X3_count : GoodIn wsX5_requireFit (wsV RX5 63 RX3 yX3_count wsX3_count) := goodIn_app (goodIn_of _ (by decide +kernel)) ggX5_requireFit_X3_count
set_option maxRecDepth 20000 in
theorem ggX5_requireFit_X2_size : GoodIn wsX5_requireFit wsX2_size := goodIn_r _ [13, 14, 17, 18, 19, 20, 21, 22] (by decide +kernel) (by decide +kernel)
set_option maxRecDepth 20000 in
theorem gX5_requireFit_X2_size : GoodIn wsX5_requireFit (wsV RX5 113 RX2 yX2_size wsX2_size) := goodIn_app (goodIn_of _ (by decide +kernel)) ggX5_requireFit_X2_size
theorem dX5_requireFit_0 : decode cX5_requireFit 0 = .ok (.aload_n 1, 1) := by decide +kernel
theorem dX5_requireFit_1 : decode cX5_requireFit 1 = .ok (.invokevirtual 63, 3) := by decide +kernel
theorem dX5_requireFit_4 : decode cX5_requireFit 4 = .ok (.aload_n 0, 1) := by decide +kernel
theorem dX5_requireFit_5 : decode cX5_requireFit 5 = .ok (.invokevirtual 113, 3) := by decide +kernel
theorem dX5_requireFit_8 : decode cX5_requireFit 8 = .ok (.if_icmp .le 13, 3) := by decide +kernel
theorem dX5_requireFit_11 : decode cX5_requireFit 11 = .ok (.new 58, 3) := by decide +kernel
theorem dX5_requireFit_14 : decode cX5_requireFit 14 = .ok (.dup, 1) := by decide +kernel
theorem dX5_requireFit_15 : decode cX5_requireFit 15 = .ok (.ldc 188, 2) := by decide +kernel
theorem dX5_requireFit_17 : decode cX5_requireFit 17 = .ok (.invokespecial 62, 3) := by decide +kernel
theorem dX5_requireFit_20 : decode cX5_requireFit 20 = .ok (.athrow, 1) := by decide +kernel
theorem dX5_requireFit_21 : decode cX5_requireFit 21 = .ok (.return_, 1) := by decide +kernel
set_option maxRecDepth 20000 in
theorem ggX5_requireEntriesWithin_X3_isWithin : GoodIn wsX5_requireEntriesWithin wsX3_isWithin := goodIn_r _ [7, 8, 9, 10, 11] (by decide +kernel) (by decide +kernel)
set_option maxRecDepth 20000 in
theorem gX5_requireEntriesWithin_X3_isWithin : GoodIn wsX5_requireEntriesWithin (wsV RX5 190 RX3 yX3_isWithin wsX3_isWithin) := goodIn_app (goodIn_of _ (by decide +kernel)) ggX5_requireEntriesWithin_X3_isWithin
theorem dX5_requireEntriesWithin_0 : decode cX5_requireEntriesWithin 0 = .ok (.aload_n 0, 1) := by decide +kernel
theorem dX5_requireEntriesWithin_1 : decode cX5_requireEntriesWithin 1 = .ok (.iload_n 2, 1) := by decide +kernel
theorem dX5_requireEntriesWithin_2 : decode cX5_requireEntriesWithin 2 = .ok (.iload_n 3, 1) := by decide +kernel
theorem dX5_requireEntriesWithin_3 : decode cX5_requireEntriesWithin 3 = .ok (.invokevirtual 190, 3) := by decide +kernel
theorem dX5_requireEntriesWithin_6 : decode cX5_requireEntriesWithin 6 = .ok (.ifCond .eq 12, 3) := by decide +kernel
theorem dX5_requireEntriesWithin_9 : decode cX5_requireEntriesWithin 9 = .ok (.aload_n 1, 1) := by decide +kernel
theorem dX5_requireEntriesWithin_10 : decode cX5_requireEntriesWithin 10 = .ok (.iload_n 2, 1) := by decide +kernel
theorem dX5_requireEntriesWithin_11 : decode cX5_requireEntriesWithin 11 = .ok (.iload_n 3, 1) := by decide +kernel
theorem dX5_requireEntriesWithin_12 : decode cX5_requireEntriesWithin 12 = .ok (.invokevirtual 190, 3) := by decide +kernel
theorem dX5_requireEntriesWithin_15 : decode cX5_requireEntriesWithin 15 = .ok (.ifCond .ne 13, 3) := by decide +kernel
theorem dX5_requireEntriesWithin_18 : decode cX5_requireEntriesWithin 18 = .ok (.new 47, 3) := by decide +kernel
theorem dX5_requireEntriesWithin_21 : decode cX5_requireEntriesWithin 21 = .ok (.dup, 1) := by decide +kernel
theorem dX5_requireEntriesWithin_22 : decode cX5_requireEntriesWithin 22 = .ok (.ldc 194, 2) := by decide +kernel
theorem dX5_requireEntriesWithin_24 : decode cX5_requireEntriesWithin 24 = .ok (.invokespecial 51, 3) := by decide +kernel
theorem dX5_requireEntriesWithin_27 : decode cX5_requireEntriesWithin 27 = .ok (.athrow, 1) := by decide +kernel
theorem dX5_requireEntriesWithin_28 : decode cX5_requireEntriesWithin 28 = .ok (.return_, 1) := by decide +kernel
set_option maxRecDepth 20000 in
theorem ggX5_requireFilledWithin_X3_count : GoodIn wsX5_requireFilledWithin wsX3_count := goodIn_r _ [7, 8, 9, 10] (by decide +kernel) (by decide +kernel)
set_option maxRecDepth 20000 in
theorem gX5_requireFilledWithin_X3_count : GoodIn wsX5_requireFilledWithin (wsV RX5 63 RX3 yX3_count wsX3_count) := goodIn_app (goodIn_of _ (by decide +kernel)) ggX5_requireFilledWithin_X3_count
theorem dX5_requireFilledWithin_0 : decode cX5_requireFilledWithin 0 = .ok (.aload_n 0, 1) := by decide +kernel
theorem dX5_requireFilledWithin_1 : decode cX5_requireFilledWithin 1 = .ok (.invokevirtual 63, 3) := by decide +kernel
theorem dX5_requireFilledWithin_4 : decode cX5_requireFilledWithin 4 = .ok (.ifCond .eq 10, 3) := by decide +kernel
theorem dX5_requireFilledWithin_7 : decode cX5_requireFilledWithin 7 = .ok (.aload_n 1, 1) := by decide +kernel
theorem dX5_requireFilledWithin_8 : decode cX5_requireFilledWithin 8 = .ok (.invokevirtual 63, 3) := by decide +kernel
theorem dX5_requireFilledWithin_11 : decode cX5_requireFilledWithin 11 = .ok (.ifCond .ne 13, 3) := by decide +kernel
theorem dX5_requireFilledWithin_14 : decode cX5_requireFilledWithin 14 = .ok (.new 58, 3) := by decide +kernel
theorem dX5_requireFilledWithin_17 : decode cX5_requireFilledWithin 17 = .ok (.dup, 1) := by decide +kernel
theorem dX5_requireFilledWithin_18 : decode cX5_requireFilledWithin 18 = .ok (.ldc 196, 2) := by decide +kernel
theorem dX5_requireFilledWithin_20 : decode cX5_requireFilledWithin 20 = .ok (.invokespecial 62, 3) := by decide +kernel
theorem dX5_requireFilledWithin_23 : decode cX5_requireFilledWithin 23 = .ok (.athrow, 1) := by decide +kernel
theorem dX5_requireFilledWithin_24 : decode cX5_requireFilledWithin 24 = .ok (.iload_n 2, 1) := by decide +kernel
theorem dX5_requireFilledWithin_25 : decode cX5_requireFilledWithin 25 = .ok (.bipush 64, 2) := by decide +kernel
theorem dX5_requireFilledWithin_27 : decode cX5_requireFilledWithin 27 = .ok (.if_icmp .le 13, 3) := by decide +kernel
theorem dX5_requireFilledWithin_30 : decode cX5_requireFilledWithin 30 = .ok (.new 58, 3) := by decide +kernel
theorem dX5_requireFilledWithin_33 : decode cX5_requireFilledWithin 33 = .ok (.dup, 1) := by decide +kernel
theorem dX5_requireFilledWithin_34 : decode cX5_requireFilledWithin 34 = .ok (.ldc 198, 2) := by decide +kernel
theorem dX5_requireFilledWithin_36 : decode cX5_requireFilledWithin 36 = .ok (.invokespecial 62, 3) := by decide +kernel
theorem dX5_requireFilledWithin_39 : decode cX5_requireFilledWithin 39 = .ok (.athrow, 1) := by decide +kernel
theorem dX5_requireFilledWithin_40 : decode cX5_requireFilledWithin 40 = .ok (.return_, 1) := by decide +kernel
set_option maxRecDepth 20000 in
theorem ggX5_loadPair_X5_requireFit : GoodIn wsX5_loadPair wsX5_requireFit := goodIn_ca (goodIn_r _ [6, 7, 8, 9, 10, 11, 12, 13, 14, 15, 16, 17, 18, 19, 20, 47, 48, 49, 50, 51, 52, 53, 54] (by decide +kernel) (by decide +kernel)) (goodIn_sub (fun _ h => List.mem_cons_of_mem _ (List.mem_append_right _ h)) (by decide +kernel))
set_option maxRecDepth 20000 in
theorem gX5_loadPair_X5_requireFit : GoodIn wsX5_loadPair (va_wsS RX5 116 yX5_requireFit wsX5_requireFit) := goodIn_app (goodIn_of _ (by decide +kernel)) ggX5_loadPair_X5_requireFit
set_option maxRecDepth 20000 in
theorem ggX5_loadPair_X3_loadRemainders : GoodIn wsX5_loadPair wsX3_loadRemainders := goodIn_r _ [24, 25, 16, 17, 18, 19, 20, 26, 27, 28, 12, 29, 14, 30, 31, 32, 33, 34, 35, 36, 37, 38, 39, 49, 50, 51, 52, 53, 54, 47, 48] (by decide +kernel) (by decide +kernel)
set_option maxRecDepth 20000 in
theorem gX5_loadPair_X3_loadRemainders : GoodIn wsX5_loadPair (wsV RX5 120 RX3 yX3_loadRemainders wsX3_loadRemainders) := goodIn_app (goodIn_of _ (by decide +kernel)) ggX5_loadPair_X3_loadRemainders
theorem dX5_loadPair_0 : decode cX5_loadPair 0 = .ok (.aload_n 1, 1) := by decide +kernel
theorem dX5_loadPair_1 : decode cX5_loadPair 1 = .ok (.aload_n 2, 1) := by decide +kernel
theorem dX5_loadPair_2 : decode cX5_loadPair 2 = .ok (.invokestatic 116, 3) := by decide +kernel
theorem dX5_loadPair_5 : decode cX5_loadPair 5 = .ok (.aload_n 1, 1) := by decide +kernel
theorem dX5_loadPair_6 : decode cX5_loadPair 6 = .ok (.aload_n 3, 1) := by decide +kernel
theorem dX5_loadPair_7 : decode cX5_loadPair 7 = .ok (.invokestatic 116, 3) := by decide +kernel
theorem dX5_loadPair_10 : decode cX5_loadPair 10 = .ok (.aload_n 2, 1) := by decide +kernel
theorem dX5_loadPair_11 : decode cX5_loadPair 11 = .ok (.aload_n 1, 1) := by decide +kernel
theorem dX5_loadPair_12 : decode cX5_loadPair 12 = .ok (.aload_n 0, 1) := by decide +kernel
theorem dX5_loadPair_13 : decode cX5_loadPair 13 = .ok (.getfield 35, 3) := by decide +kernel
theorem dX5_loadPair_16 : decode cX5_loadPair 16 = .ok (.invokevirtual 120, 3) := by decide +kernel
theorem dX5_loadPair_19 : decode cX5_loadPair 19 = .ok (.aload_n 3, 1) := by decide +kernel
theorem dX5_loadPair_20 : decode cX5_loadPair 20 = .ok (.aload_n 1, 1) := by decide +kernel
theorem dX5_loadPair_21 : decode cX5_loadPair 21 = .ok (.aload_n 0, 1) := by decide +kernel
theorem dX5_loadPair_22 : decode cX5_loadPair 22 = .ok (.getfield 39, 3) := by decide +kernel
theorem dX5_loadPair_25 : decode cX5_loadPair 25 = .ok (.invokevirtual 120, 3) := by decide +kernel
theorem dX5_loadPair_28 : decode cX5_loadPair 28 = .ok (.return_, 1) := by decide +kernel
set_option maxRecDepth 20000 in
theorem ggX5_transformRow_X2_hasWay : GoodIn wsX5_transformRow wsX2_hasWay := goodIn_r _ [9, 10, 148, 149, 150, 151, 152, 153] (by decide +kernel) (by decide +kernel)
set_option maxRecDepth 20000 in
theorem gX5_transformRow_X2_hasWay : GoodIn wsX5_transformRow (wsV RX5 200 RX2 yX2_hasWay wsX2_hasWay) := goodIn_app (goodIn_of _ (by decide +kernel)) ggX5_transformRow_X2_hasWay
set_option maxRecDepth 20000 in
theorem ggX5_transformRow_X5_requireFit : GoodIn wsX5_transformRow wsX5_requireFit := goodIn_ca (goodIn_r _ [14, 15, 16, 17, 18, 19, 20, 21, 22, 23, 24, 25, 8, 26, 27, 154, 155, 148, 149, 150, 151, 152, 153] (by decide +kernel) (by decide +kernel)) (goodIn_sub (fun _ h => List.mem_cons_of_mem _ (List.mem_append_right _ h)) (by decide +kernel))
set_option maxRecDepth 20000 in
theorem gX5_transformRow_X5_requireFit : GoodIn wsX5_transformRow (va_wsS RX5 116 yX5_requireFit wsX5_requireFit) := goodIn_app (goodIn_of _ (by decide +kernel)) ggX5_transformRow_X5_requireFit
set_option maxRecDepth 20000 in
theorem ggX5_transformRow_X3_loadRemainders : GoodIn wsX5_transformRow wsX3_loadRemainders := goodIn_r _ [31, 32, 24, 25, 8, 26, 27, 33, 34, 35, 20, 36, 22, 37, 38, 39, 40, 41, 42, 43, 44, 45, 46, 148, 149, 150, 151, 152, 153, 154, 155] (by decide +kernel) (by decide +kernel)
set_option maxRecDepth 20000 in
theorem gX5_transformRow_X3_loadRemainders : GoodIn wsX5_transformRow (wsV RX5 120 RX3 yX3_loadRemainders wsX3_loadRemainders) := goodIn_app (goodIn_of _ (by decide +kernel)) ggX5_transformRow_X3_loadRemainders
set_option maxRecDepth 20000 in
theorem ggX5_transformRow_X2_backTurn : GoodIn wsX5_transformRow wsX2_backTurn := goodIn_r _ [50, 27, 148, 149, 150, 151, 152, 153] (by decide +kernel) (by decide +kernel)
set_option maxRecDepth 20000 in
theorem gX5_transformRow_X2_backTurn : GoodIn wsX5_transformRow (wsV RX5 140 RX2 yX2_backTurn wsX2_backTurn) := goodIn_app (goodIn_of _ (by decide +kernel)) ggX5_transformRow_X2_backTurn
set_option maxRecDepth 20000 in
theorem ggX5_transformRow_X4_bySums : GoodIn wsX5_transformRow wsX4_bySums := goodIn_r _ [55, 56, 57, 24, 25, 8, 26, 27, 58, 59, 54, 60, 61, 62, 63, 64, 65, 43, 44, 45, 46, 66, 39, 40, 41, 42, 67, 68, 69, 70, 156, 157, 158, 159, 160, 148, 149, 150, 151, 152, 153] (by decide +kernel) (by decide +kernel)
set_option maxRecDepth 20000 in
theorem gX5_transformRow_X4_bySums : GoodIn wsX5_transformRow (wsV RX5 205 RX4 yX4_bySums wsX4_bySums) := goodIn_app (goodIn_of _ (by decide +kernel)) ggX5_transformRow_X4_bySums
set_option maxRecDepth 20000 in
theorem ggX5_transformRow_X2_size : GoodIn wsX5_transformRow wsX2_size := goodIn_r _ [26, 27, 148, 149, 150, 151, 152, 153] (by decide +kernel) (by decide +kernel)
set_option maxRecDepth 20000 in
theorem gX5_transformRow_X2_size : GoodIn wsX5_transformRow (wsV RX5 113 RX2 yX2_size wsX2_size) := goodIn_app (goodIn_of _ (by decide +kernel)) ggX5_transformRow_X2_size
set_option maxRecDepth 20000 in
theorem ggX5_transformRow_X4_byMixedRadices : GoodIn wsX5_transformRow wsX4_byMixedRadices := goodIn_r _ [74, 75, 76, 45, 77, 78, 79, 80, 81, 82, 83, 84, 54, 85, 56, 61, 62, 63, 8, 64, 65, 27, 43, 44, 46, 66, 39, 40, 41, 42, 67, 68, 69, 70, 156, 157, 158, 159, 160, 148, 149, 150, 151, 152, 153] (by decide +kernel) (by decide +kernel)
set_option maxRecDepth 20000 in
theorem gX5_transformRow_X4_byMixedRadices : GoodIn wsX5_transformRow (wsV RX5 132 RX4 yX4_byMixedRadices wsX4_byMixedRadices) := goodIn_app (goodIn_of _ (by decide +kernel)) ggX5_transformRow_X4_byMixedRadices
set_option maxRecDepth 20000 in
theorem ggX5_transformRow_X4_byGoodAndThomas : GoodIn wsX5_transformRow wsX4_byGoodAndThomas := goodIn_r _ [89, 90, 91, 57, 24, 25, 8, 26, 27, 92, 93, 45, 94, 95, 76, 77, 78, 79, 80, 81, 96, 44, 46, 97, 72, 73, 54, 74, 75, 82, 83, 84, 85, 56, 61, 62, 63, 64, 65, 43, 66, 39, 40, 41, 42, 67, 68, 69, 70, 156, 157, 158, 159, 160, 148, 149, 150, 151, 152, 153] (by decide +kernel) (by decide +kernel)
set_option maxRecDepth 20000 in
theorem gX5_transformRow_X4_byGoodAndThomas : GoodIn wsX5_transformRow (wsV RX5 209 RX4 yX4_byGoodAndThomas wsX4_byGoodAndThomas) := goodIn_app (goodIn_of _ (by decide +kernel)) ggX5_transformRow_X4_byGoodAndThomas
set_option maxRecDepth 20000 in
theorem ggX5_transformRow_X4_byRader : GoodIn wsX5_transformRow wsX4_byRader := goodIn_r _ [101, 90, 102, 103, 56, 57, 24, 25, 8, 26, 27, 104, 105, 106, 54, 107, 108, 109, 110, 111, 112, 96, 44, 45, 46, 113, 114, 115, 61, 62, 63, 64, 65, 43, 66, 39, 40, 41, 42, 116, 117, 118, 119, 67, 68, 69, 70, 156, 157, 158, 159, 160, 148, 149, 150, 151, 152, 153] (by decide +kernel) (by decide +kernel)
set_option maxRecDepth 20000 in
theorem gX5_transformRow_X4_byRader : GoodIn wsX5_transformRow (wsV RX5 212 RX4 yX4_byRader wsX4_byRader) := goodIn_app (goodIn_of _ (by decide +kernel)) ggX5_transformRow_X4_byRader
set_option maxRecDepth 20000 in
theorem ggX5_transformRow_X4_byBluestein : GoodIn wsX5_transformRow wsX4_byBluestein := goodIn_r _ [123, 103, 90, 56, 57, 24, 25, 8, 26, 27, 124, 125, 54, 126, 61, 62, 63, 64, 65, 43, 44, 45, 46, 66, 39, 40, 41, 42, 67, 68, 69, 70, 156, 157, 158, 159, 160, 148, 149, 150, 151, 152, 153] (by decide +kernel) (by decide +kernel)
set_option maxRecDepth 20000 in
theorem gX5_transformRow_X4_byBluestein : GoodIn wsX5_transformRow (wsV RX5 215 RX4 yX4_byBluestein wsX4_byBluestein) := goodIn_app (goodIn_of _ (by decide +kernel)) ggX5_transformRow_X4_byBluestein
set_option maxRecDepth 20000 in
theorem ggX5_transformRow_X2_divideBySize : GoodIn wsX5_transformRow wsX2_divideBySize := goodIn_r _ [130, 27, 131, 132, 39, 40, 8, 41, 42, 43, 44, 45, 46, 148, 149, 150, 151, 152, 153] (by decide +kernel) (by decide +kernel)
set_option maxRecDepth 20000 in
theorem gX5_transformRow_X2_divideBySize : GoodIn wsX5_transformRow (wsV RX5 143 RX2 yX2_divideBySize wsX2_divideBySize) := goodIn_app (goodIn_of _ (by decide +kernel)) ggX5_transformRow_X2_divideBySize
set_option maxRecDepth 20000 in
theorem ggX5_transformRow_X3_take : GoodIn wsX5_transformRow wsX3_take := goodIn_r _ [136, 137, 138, 80, 139, 22, 37, 154, 155] (by decide +kernel) (by decide +kernel)
set_option maxRecDepth 20000 in
theorem gX5_transformRow_X3_take : GoodIn wsX5_transformRow (wsV RX5 147 RX3 yX3_take wsX3_take) := goodIn_app (goodIn_of _ (by decide +kernel)) ggX5_transformRow_X3_take
set_option maxRecDepth 20000 in
theorem ggX5_transformRow_X3_entry : GoodIn wsX5_transformRow wsX3_entry := goodIn_r _ [36, 22, 37, 154, 155] (by decide +kernel) (by decide +kernel)
set_option maxRecDepth 20000 in
theorem gX5_transformRow_X3_entry : GoodIn wsX5_transformRow (wsV RX5 78 RX3 yX3_entry wsX3_entry) := goodIn_app (goodIn_of _ (by decide +kernel)) ggX5_transformRow_X3_entry
theorem dX5_transformRow_0 : decode cX5_transformRow 0 = .ok (.aload_n 1, 1) := by decide +kernel
theorem dX5_transformRow_1 : decode cX5_transformRow 1 = .ok (.iload_n 3, 1) := by decide +kernel
theorem dX5_transformRow_2 : decode cX5_transformRow 2 = .ok (.invokevirtual 200, 3) := by decide +kernel
theorem dX5_transformRow_5 : decode cX5_transformRow 5 = .ok (.ifCond .ne 13, 3) := by decide +kernel
theorem dX5_transformRow_8 : decode cX5_transformRow 8 = .ok (.new 47, 3) := by decide +kernel
theorem dX5_transformRow_11 : decode cX5_transformRow 11 = .ok (.dup, 1) := by decide +kernel
theorem dX5_transformRow_12 : decode cX5_transformRow 12 = .ok (.ldc 203, 2) := by decide +kernel
theorem dX5_transformRow_14 : decode cX5_transformRow 14 = .ok (.invokespecial 51, 3) := by decide +kernel
theorem dX5_transformRow_17 : decode cX5_transformRow 17 = .ok (.athrow, 1) := by decide +kernel
theorem dX5_transformRow_18 : decode cX5_transformRow 18 = .ok (.aload_n 1, 1) := by decide +kernel
theorem dX5_transformRow_19 : decode cX5_transformRow 19 = .ok (.aload_n 2, 1) := by decide +kernel
theorem dX5_transformRow_20 : decode cX5_transformRow 20 = .ok (.invokestatic 116, 3) := by decide +kernel
theorem dX5_transformRow_23 : decode cX5_transformRow 23 = .ok (.aload_n 2, 1) := by decide +kernel
theorem dX5_transformRow_24 : decode cX5_transformRow 24 = .ok (.aload_n 1, 1) := by decide +kernel
theorem dX5_transformRow_25 : decode cX5_transformRow 25 = .ok (.aload_n 0, 1) := by decide +kernel
theorem dX5_transformRow_26 : decode cX5_transformRow 26 = .ok (.getfield 35, 3) := by decide +kernel
theorem dX5_transformRow_29 : decode cX5_transformRow 29 = .ok (.invokevirtual 120, 3) := by decide +kernel
theorem dX5_transformRow_32 : decode cX5_transformRow 32 = .ok (.iload 4, 2) := by decide +kernel
theorem dX5_transformRow_34 : decode cX5_transformRow 34 = .ok (.ifCond .eq 10, 3) := by decide +kernel
theorem dX5_transformRow_37 : decode cX5_transformRow 37 = .ok (.aload_n 1, 1) := by decide +kernel
theorem dX5_transformRow_38 : decode cX5_transformRow 38 = .ok (.invokevirtual 140, 3) := by decide +kernel
theorem dX5_transformRow_41 : decode cX5_transformRow 41 = .ok (.goto 4, 3) := by decide +kernel
theorem dX5_transformRow_44 : decode cX5_transformRow 44 = .ok (.iconst 1, 1) := by decide +kernel
theorem dX5_transformRow_45 : decode cX5_transformRow 45 = .ok (.istore 5, 2) := by decide +kernel
theorem dX5_transformRow_47 : decode cX5_transformRow 47 = .ok (.iload_n 3, 1) := by decide +kernel
theorem dX5_transformRow_48 : decode cX5_transformRow 48 = .ok (.tableswitch 104 0 3 #[32, 49, 70, 87], 32) := by decide +kernel
theorem dX5_transformRow_80 : decode cX5_transformRow 80 = .ok (.aload_n 0, 1) := by decide +kernel
theorem dX5_transformRow_81 : decode cX5_transformRow 81 = .ok (.getfield 24, 3) := by decide +kernel
theorem dX5_transformRow_84 : decode cX5_transformRow 84 = .ok (.aload_n 1, 1) := by decide +kernel
theorem dX5_transformRow_85 : decode cX5_transformRow 85 = .ok (.aload_n 0, 1) := by decide +kernel
theorem dX5_transformRow_86 : decode cX5_transformRow 86 = .ok (.getfield 35, 3) := by decide +kernel
theorem dX5_transformRow_89 : decode cX5_transformRow 89 = .ok (.iload 5, 2) := by decide +kernel
theorem dX5_transformRow_91 : decode cX5_transformRow 91 = .ok (.invokevirtual 205, 3) := by decide +kernel
theorem dX5_transformRow_94 : decode cX5_transformRow 94 = .ok (.goto 72, 3) := by decide +kernel
theorem dX5_transformRow_97 : decode cX5_transformRow 97 = .ok (.aload_n 0, 1) := by decide +kernel
theorem dX5_transformRow_98 : decode cX5_transformRow 98 = .ok (.getfield 24, 3) := by decide +kernel
theorem dX5_transformRow_101 : decode cX5_transformRow 101 = .ok (.aload_n 1, 1) := by decide +kernel
theorem dX5_transformRow_102 : decode cX5_transformRow 102 = .ok (.aload_n 0, 1) := by decide +kernel
theorem dX5_transformRow_103 : decode cX5_transformRow 103 = .ok (.getfield 35, 3) := by decide +kernel
theorem dX5_transformRow_106 : decode cX5_transformRow 106 = .ok (.aload_n 1, 1) := by decide +kernel
theorem dX5_transformRow_107 : decode cX5_transformRow 107 = .ok (.invokevirtual 113, 3) := by decide +kernel
theorem dX5_transformRow_110 : decode cX5_transformRow 110 = .ok (.iload 5, 2) := by decide +kernel
theorem dX5_transformRow_112 : decode cX5_transformRow 112 = .ok (.invokevirtual 132, 3) := by decide +kernel
theorem dX5_transformRow_115 : decode cX5_transformRow 115 = .ok (.goto 51, 3) := by decide +kernel
theorem dX5_transformRow_118 : decode cX5_transformRow 118 = .ok (.aload_n 0, 1) := by decide +kernel
theorem dX5_transformRow_119 : decode cX5_transformRow 119 = .ok (.getfield 24, 3) := by decide +kernel
theorem dX5_transformRow_122 : decode cX5_transformRow 122 = .ok (.aload_n 1, 1) := by decide +kernel
theorem dX5_transformRow_123 : decode cX5_transformRow 123 = .ok (.aload_n 0, 1) := by decide +kernel
theorem dX5_transformRow_124 : decode cX5_transformRow 124 = .ok (.getfield 35, 3) := by decide +kernel
theorem dX5_transformRow_127 : decode cX5_transformRow 127 = .ok (.iload 5, 2) := by decide +kernel
theorem dX5_transformRow_129 : decode cX5_transformRow 129 = .ok (.invokevirtual 209, 3) := by decide +kernel
theorem dX5_transformRow_132 : decode cX5_transformRow 132 = .ok (.goto 34, 3) := by decide +kernel
theorem dX5_transformRow_135 : decode cX5_transformRow 135 = .ok (.aload_n 0, 1) := by decide +kernel
theorem dX5_transformRow_136 : decode cX5_transformRow 136 = .ok (.getfield 24, 3) := by decide +kernel
theorem dX5_transformRow_139 : decode cX5_transformRow 139 = .ok (.aload_n 1, 1) := by decide +kernel
theorem dX5_transformRow_140 : decode cX5_transformRow 140 = .ok (.aload_n 0, 1) := by decide +kernel
theorem dX5_transformRow_141 : decode cX5_transformRow 141 = .ok (.getfield 35, 3) := by decide +kernel
theorem dX5_transformRow_144 : decode cX5_transformRow 144 = .ok (.iload 5, 2) := by decide +kernel
theorem dX5_transformRow_146 : decode cX5_transformRow 146 = .ok (.invokevirtual 212, 3) := by decide +kernel
theorem dX5_transformRow_149 : decode cX5_transformRow 149 = .ok (.goto 17, 3) := by decide +kernel
theorem dX5_transformRow_152 : decode cX5_transformRow 152 = .ok (.aload_n 0, 1) := by decide +kernel
theorem dX5_transformRow_153 : decode cX5_transformRow 153 = .ok (.getfield 24, 3) := by decide +kernel
theorem dX5_transformRow_156 : decode cX5_transformRow 156 = .ok (.aload_n 1, 1) := by decide +kernel
theorem dX5_transformRow_157 : decode cX5_transformRow 157 = .ok (.aload_n 0, 1) := by decide +kernel
theorem dX5_transformRow_158 : decode cX5_transformRow 158 = .ok (.getfield 35, 3) := by decide +kernel
theorem dX5_transformRow_161 : decode cX5_transformRow 161 = .ok (.iload 5, 2) := by decide +kernel
theorem dX5_transformRow_163 : decode cX5_transformRow 163 = .ok (.invokevirtual 215, 3) := by decide +kernel
theorem dX5_transformRow_166 : decode cX5_transformRow 166 = .ok (.iload 4, 2) := by decide +kernel
theorem dX5_transformRow_168 : decode cX5_transformRow 168 = .ok (.ifCond .eq 11, 3) := by decide +kernel
theorem dX5_transformRow_171 : decode cX5_transformRow 171 = .ok (.aload_n 1, 1) := by decide +kernel
theorem dX5_transformRow_172 : decode cX5_transformRow 172 = .ok (.aload_n 0, 1) := by decide +kernel
theorem dX5_transformRow_173 : decode cX5_transformRow 173 = .ok (.getfield 35, 3) := by decide +kernel
theorem dX5_transformRow_176 : decode cX5_transformRow 176 = .ok (.invokevirtual 143, 3) := by decide +kernel
theorem dX5_transformRow_179 : decode cX5_transformRow 179 = .ok (.aload_n 2, 1) := by decide +kernel
theorem dX5_transformRow_180 : decode cX5_transformRow 180 = .ok (.aload_n 0, 1) := by decide +kernel
theorem dX5_transformRow_181 : decode cX5_transformRow 181 = .ok (.getfield 35, 3) := by decide +kernel
theorem dX5_transformRow_184 : decode cX5_transformRow 184 = .ok (.aload_n 1, 1) := by decide +kernel
theorem dX5_transformRow_185 : decode cX5_transformRow 185 = .ok (.invokevirtual 113, 3) := by decide +kernel
theorem dX5_transformRow_188 : decode cX5_transformRow 188 = .ok (.invokevirtual 147, 3) := by decide +kernel
theorem dX5_transformRow_191 : decode cX5_transformRow 191 = .ok (.aload_n 2, 1) := by decide +kernel
theorem dX5_transformRow_192 : decode cX5_transformRow 192 = .ok (.iconst 0, 1) := by decide +kernel
theorem dX5_transformRow_193 : decode cX5_transformRow 193 = .ok (.invokevirtual 78, 3) := by decide +kernel
theorem dX5_transformRow_196 : decode cX5_transformRow 196 = .ok (.ireturn, 1) := by decide +kernel

set_option maxRecDepth 20000 in
theorem ggX5_init_X4_init : GoodIn wsX5_init wsX4_init := goodIn_r _ [22, 23, 2, 3, 16, 24, 25, 26, 27, 28, 45, 46, 47, 48, 49] (by decide +kernel) (by decide +kernel)
set_option maxRecDepth 20000 in
theorem gX5_init_X4_init_n23 : GoodIn wsX5_init (wsX4_init) := ggX5_init_X4_init
set_option maxRecDepth 20000 in
theorem ggX5_init_X0_init : GoodIn wsX5_init wsX0_init := goodIn_r _ [30, 31, 2, 3, 16, 32, 33, 50, 51] (by decide +kernel) (by decide +kernel)
set_option maxRecDepth 20000 in
theorem gX5_init_X0_init_n30 : GoodIn wsX5_init (wsX0_init) := ggX5_init_X0_init
set_option maxRecDepth 20000 in
theorem ggX5_init_X3_init : GoodIn wsX5_init wsX3_init := goodIn_r _ [35, 36, 2, 3, 16, 37, 52, 53] (by decide +kernel) (by decide +kernel)
set_option maxRecDepth 20000 in
theorem gX5_init_X3_init_n42 : GoodIn wsX5_init (wsX3_init) := ggX5_init_X3_init
theorem dX5_init_0 : decode cX5_init 0 = .ok (.aload_n 0, 1) := by decide +kernel
theorem dX5_init_1 : decode cX5_init 1 = .ok (.invokespecial 1, 3) := by decide +kernel
theorem dX5_init_4 : decode cX5_init 4 = .ok (.aload_n 0, 1) := by decide +kernel
theorem dX5_init_5 : decode cX5_init 5 = .ok (.iconst 4, 1) := by decide +kernel
theorem dX5_init_6 : decode cX5_init 6 = .ok (.anewarray 9, 3) := by decide +kernel
theorem dX5_init_9 : decode cX5_init 9 = .ok (.putfield 11, 3) := by decide +kernel
theorem dX5_init_12 : decode cX5_init 12 = .ok (.aload_n 0, 1) := by decide +kernel
theorem dX5_init_13 : decode cX5_init 13 = .ok (.bipush 8, 2) := by decide +kernel
theorem dX5_init_15 : decode cX5_init 15 = .ok (.anewarray 15, 3) := by decide +kernel
theorem dX5_init_18 : decode cX5_init 18 = .ok (.putfield 17, 3) := by decide +kernel
theorem dX5_init_21 : decode cX5_init 21 = .ok (.aload_n 0, 1) := by decide +kernel
theorem dX5_init_22 : decode cX5_init 22 = .ok (.new 21, 3) := by decide +kernel
theorem dX5_init_25 : decode cX5_init 25 = .ok (.dup, 1) := by decide +kernel
theorem dX5_init_26 : decode cX5_init 26 = .ok (.invokespecial 23, 3) := by decide +kernel
theorem dX5_init_29 : decode cX5_init 29 = .ok (.putfield 24, 3) := by decide +kernel
theorem dX5_init_32 : decode cX5_init 32 = .ok (.aload_n 0, 1) := by decide +kernel
theorem dX5_init_33 : decode cX5_init 33 = .ok (.new 28, 3) := by decide +kernel
theorem dX5_init_36 : decode cX5_init 36 = .ok (.dup, 1) := by decide +kernel
theorem dX5_init_37 : decode cX5_init 37 = .ok (.invokespecial 30, 3) := by decide +kernel
theorem dX5_init_40 : decode cX5_init 40 = .ok (.putfield 31, 3) := by decide +kernel
theorem dX5_init_43 : decode cX5_init 43 = .ok (.aload_n 0, 1) := by decide +kernel
theorem dX5_init_44 : decode cX5_init 44 = .ok (.bipush 64, 2) := by decide +kernel
theorem dX5_init_46 : decode cX5_init 46 = .ok (.newarray .int, 2) := by decide +kernel
theorem dX5_init_48 : decode cX5_init 48 = .ok (.putfield 35, 3) := by decide +kernel
theorem dX5_init_51 : decode cX5_init 51 = .ok (.aload_n 0, 1) := by decide +kernel
theorem dX5_init_52 : decode cX5_init 52 = .ok (.bipush 64, 2) := by decide +kernel
theorem dX5_init_54 : decode cX5_init 54 = .ok (.newarray .int, 2) := by decide +kernel
theorem dX5_init_56 : decode cX5_init 56 = .ok (.putfield 39, 3) := by decide +kernel
theorem dX5_init_59 : decode cX5_init 59 = .ok (.iconst 0, 1) := by decide +kernel
theorem dX5_init_60 : decode cX5_init 60 = .ok (.istore_n 1, 1) := by decide +kernel
theorem dX5_init_61 : decode cX5_init 61 = .ok (.iload_n 1, 1) := by decide +kernel
theorem dX5_init_62 : decode cX5_init 62 = .ok (.iconst 4, 1) := by decide +kernel
theorem dX5_init_63 : decode cX5_init 63 = .ok (.if_icmp .ge 22, 3) := by decide +kernel
theorem dX5_init_66 : decode cX5_init 66 = .ok (.aload_n 0, 1) := by decide +kernel
theorem dX5_init_67 : decode cX5_init 67 = .ok (.getfield 11, 3) := by decide +kernel
theorem dX5_init_70 : decode cX5_init 70 = .ok (.iload_n 1, 1) := by decide +kernel
theorem dX5_init_71 : decode cX5_init 71 = .ok (.new 9, 3) := by decide +kernel
theorem dX5_init_74 : decode cX5_init 74 = .ok (.dup, 1) := by decide +kernel
theorem dX5_init_75 : decode cX5_init 75 = .ok (.invokespecial 42, 3) := by decide +kernel
theorem dX5_init_78 : decode cX5_init 78 = .ok (.aastore, 1) := by decide +kernel
theorem dX5_init_79 : decode cX5_init 79 = .ok (.iinc 1 1, 3) := by decide +kernel
theorem dX5_init_82 : decode cX5_init 82 = .ok (.goto (-21), 3) := by decide +kernel
theorem dX5_init_85 : decode cX5_init 85 = .ok (.return_, 1) := by decide +kernel
set_option maxRecDepth 20000 in
theorem ggX5_append_X5_rowOf : GoodIn wsX5_append wsX5_rowOf := goodIn_ca (goodIn_r _ [9, 10, 11, 12, 24, 25, 26, 27, 28, 29, 30] (by decide +kernel) (by decide +kernel)) (goodIn_sub (fun _ h => List.mem_cons_of_mem _ (List.mem_append_right _ h)) (by decide +kernel))
set_option maxRecDepth 20000 in
theorem gX5_append_X5_rowOf : GoodIn wsX5_append (wsV RX5 43 RX5 yX5_rowOf wsX5_rowOf) := goodIn_app (goodIn_of _ (by decide +kernel)) ggX5_append_X5_rowOf
set_option maxRecDepth 20000 in
theorem ggX5_append_X3_add : GoodIn wsX5_append wsX3_add := goodIn_r _ [17, 18, 19, 31, 32] (by decide +kernel) (by decide +kernel)
set_option maxRecDepth 20000 in
theorem gX5_append_X3_add : GoodIn wsX5_append (wsV RX5 54 RX3 yX3_add wsX3_add) := goodIn_app (goodIn_of _ (by decide +kernel)) ggX5_append_X3_add
set_option maxRecDepth 20000 in
theorem ggX5_append_X3_count : GoodIn wsX5_append wsX3_count := goodIn_r _ [23, 18, 31, 32] (by decide +kernel) (by decide +kernel)
set_option maxRecDepth 20000 in
theorem gX5_append_X3_count : GoodIn wsX5_append (wsV RX5 63 RX3 yX3_count wsX3_count) := goodIn_app (goodIn_of _ (by decide +kernel)) ggX5_append_X3_count
theorem dX5_append_0 : decode cX5_append 0 = .ok (.aload_n 0, 1) := by decide +kernel
theorem dX5_append_1 : decode cX5_append 1 = .ok (.iload_n 1, 1) := by decide +kernel
theorem dX5_append_2 : decode cX5_append 2 = .ok (.invokevirtual 43, 3) := by decide +kernel
theorem dX5_append_5 : decode cX5_append 5 = .ok (.astore_n 3, 1) := by decide +kernel
theorem dX5_append_6 : decode cX5_append 6 = .ok (.iload_n 2, 1) := by decide +kernel
theorem dX5_append_7 : decode cX5_append 7 = .ok (.sipush (-9999), 3) := by decide +kernel
theorem dX5_append_10 : decode cX5_append 10 = .ok (.if_icmp .lt 10, 3) := by decide +kernel
theorem dX5_append_13 : decode cX5_append 13 = .ok (.iload_n 2, 1) := by decide +kernel
theorem dX5_append_14 : decode cX5_append 14 = .ok (.sipush 9999, 3) := by decide +kernel
theorem dX5_append_17 : decode cX5_append 17 = .ok (.if_icmp .le 13, 3) := by decide +kernel
theorem dX5_append_20 : decode cX5_append 20 = .ok (.new 47, 3) := by decide +kernel
theorem dX5_append_23 : decode cX5_append 23 = .ok (.dup, 1) := by decide +kernel
theorem dX5_append_24 : decode cX5_append 24 = .ok (.ldc 49, 2) := by decide +kernel
theorem dX5_append_26 : decode cX5_append 26 = .ok (.invokespecial 51, 3) := by decide +kernel
theorem dX5_append_29 : decode cX5_append 29 = .ok (.athrow, 1) := by decide +kernel
theorem dX5_append_30 : decode cX5_append 30 = .ok (.aload_n 3, 1) := by decide +kernel
theorem dX5_append_31 : decode cX5_append 31 = .ok (.iload_n 2, 1) := by decide +kernel
theorem dX5_append_32 : decode cX5_append 32 = .ok (.invokevirtual 54, 3) := by decide +kernel
theorem dX5_append_35 : decode cX5_append 35 = .ok (.ifCond .ne 13, 3) := by decide +kernel
theorem dX5_append_38 : decode cX5_append 38 = .ok (.new 58, 3) := by decide +kernel
theorem dX5_append_41 : decode cX5_append 41 = .ok (.dup, 1) := by decide +kernel
theorem dX5_append_42 : decode cX5_append 42 = .ok (.ldc 60, 2) := by decide +kernel
theorem dX5_append_44 : decode cX5_append 44 = .ok (.invokespecial 62, 3) := by decide +kernel
theorem dX5_append_47 : decode cX5_append 47 = .ok (.athrow, 1) := by decide +kernel
theorem dX5_append_48 : decode cX5_append 48 = .ok (.aload_n 3, 1) := by decide +kernel
theorem dX5_append_49 : decode cX5_append 49 = .ok (.invokevirtual 63, 3) := by decide +kernel
theorem dX5_append_52 : decode cX5_append 52 = .ok (.ireturn, 1) := by decide +kernel
set_option maxRecDepth 20000 in
theorem ggX5_clear_X5_rowOf : GoodIn wsX5_clear wsX5_rowOf := goodIn_ca (goodIn_r _ [5, 6, 7, 8, 19, 20, 21, 22, 23, 24, 25] (by decide +kernel) (by decide +kernel)) (goodIn_sub (fun _ h => List.mem_cons_of_mem _ (List.mem_append_right _ h)) (by decide +kernel))
set_option maxRecDepth 20000 in
theorem gX5_clear_X5_rowOf : GoodIn wsX5_clear (wsV RX5 43 RX5 yX5_rowOf wsX5_rowOf) := goodIn_app (goodIn_of _ (by decide +kernel)) ggX5_clear_X5_rowOf
set_option maxRecDepth 20000 in
theorem ggX5_clear_X3_count : GoodIn wsX5_clear wsX3_count := goodIn_r _ [13, 14, 26, 27] (by decide +kernel) (by decide +kernel)
set_option maxRecDepth 20000 in
theorem gX5_clear_X3_count : GoodIn wsX5_clear (wsV RX5 63 RX3 yX3_count wsX3_count) := goodIn_app (goodIn_of _ (by decide +kernel)) ggX5_clear_X3_count
set_option maxRecDepth 20000 in
theorem ggX5_clear_X3_empty : GoodIn wsX5_clear wsX3_empty := goodIn_r _ [18, 14, 26, 27] (by decide +kernel) (by decide +kernel)
set_option maxRecDepth 20000 in
theorem gX5_clear_X3_empty : GoodIn wsX5_clear (wsV RX5 67 RX3 yX3_empty wsX3_empty) := goodIn_app (goodIn_of _ (by decide +kernel)) ggX5_clear_X3_empty
theorem dX5_clear_0 : decode cX5_clear 0 = .ok (.aload_n 0, 1) := by decide +kernel
theorem dX5_clear_1 : decode cX5_clear 1 = .ok (.iload_n 1, 1) := by decide +kernel
theorem dX5_clear_2 : decode cX5_clear 2 = .ok (.invokevirtual 43, 3) := by decide +kernel
theorem dX5_clear_5 : decode cX5_clear 5 = .ok (.astore_n 2, 1) := by decide +kernel
theorem dX5_clear_6 : decode cX5_clear 6 = .ok (.aload_n 2, 1) := by decide +kernel
theorem dX5_clear_7 : decode cX5_clear 7 = .ok (.invokevirtual 63, 3) := by decide +kernel
theorem dX5_clear_10 : decode cX5_clear 10 = .ok (.istore_n 3, 1) := by decide +kernel
theorem dX5_clear_11 : decode cX5_clear 11 = .ok (.aload_n 2, 1) := by decide +kernel
theorem dX5_clear_12 : decode cX5_clear 12 = .ok (.invokevirtual 67, 3) := by decide +kernel
theorem dX5_clear_15 : decode cX5_clear 15 = .ok (.iload_n 3, 1) := by decide +kernel
theorem dX5_clear_16 : decode cX5_clear 16 = .ok (.ireturn, 1) := by decide +kernel
set_option maxRecDepth 20000 in
theorem ggX5_copy_X5_rowOf : GoodIn wsX5_copy wsX5_rowOf := goodIn_ca (goodIn_r _ [5, 6, 7, 8, 28, 29, 30, 31, 32, 33, 34] (by decide +kernel) (by decide +kernel)) (goodIn_sub (fun _ h => List.mem_cons_of_mem _ (List.mem_append_right _ h)) (by decide +kernel))
set_option maxRecDepth 20000 in
theorem gX5_copy_X5_rowOf : GoodIn wsX5_copy (wsV RX5 43 RX5 yX5_rowOf wsX5_rowOf) := goodIn_app (goodIn_of _ (by decide +kernel)) ggX5_copy_X5_rowOf
set_option maxRecDepth 20000 in
theorem ggX5_copy_X3_takeRow : GoodIn wsX5_copy wsX3_takeRow := goodIn_r _ [13, 14, 15, 16, 17, 18, 12, 19, 20, 21, 22, 23, 35, 36] (by decide +kernel) (by decide +kernel)
set_option maxRecDepth 20000 in
theorem gX5_copy_X3_takeRow : GoodIn wsX5_copy (wsV RX5 70 RX3 yX3_takeRow wsX3_takeRow) := goodIn_app (goodIn_of _ (by decide +kernel)) ggX5_copy_X3_takeRow
set_option maxRecDepth 20000 in
theorem ggX5_copy_X3_count : GoodIn wsX5_copy wsX3_count := goodIn_r _ [27, 15, 35, 36] (by decide +kernel) (by decide +kernel)
set_option maxRecDepth 20000 in
theorem gX5_copy_X3_count : GoodIn wsX5_copy (wsV RX5 63 RX3 yX3_count wsX3_count) := goodIn_app (goodIn_of _ (by decide +kernel)) ggX5_copy_X3_count
theorem dX5_copy_0 : decode cX5_copy 0 = .ok (.aload_n 0, 1) := by decide +kernel
theorem dX5_copy_1 : decode cX5_copy 1 = .ok (.iload_n 1, 1) := by decide +kernel
theorem dX5_copy_2 : decode cX5_copy 2 = .ok (.invokevirtual 43, 3) := by decide +kernel
theorem dX5_copy_5 : decode cX5_copy 5 = .ok (.astore_n 3, 1) := by decide +kernel
theorem dX5_copy_6 : decode cX5_copy 6 = .ok (.aload_n 0, 1) := by decide +kernel
theorem dX5_copy_7 : decode cX5_copy 7 = .ok (.iload_n 2, 1) := by decide +kernel
theorem dX5_copy_8 : decode cX5_copy 8 = .ok (.invokevirtual 43, 3) := by decide +kernel
theorem dX5_copy_11 : decode cX5_copy 11 = .ok (.astore 4, 2) := by decide +kernel
theorem dX5_copy_13 : decode cX5_copy 13 = .ok (.aload 4, 2) := by decide +kernel
theorem dX5_copy_15 : decode cX5_copy 15 = .ok (.aload_n 3, 1) := by decide +kernel
theorem dX5_copy_16 : decode cX5_copy 16 = .ok (.invokevirtual 70, 3) := by decide +kernel
theorem dX5_copy_19 : decode cX5_copy 19 = .ok (.aload 4, 2) := by decide +kernel
theorem dX5_copy_21 : decode cX5_copy 21 = .ok (.invokevirtual 63, 3) := by decide +kernel
theorem dX5_copy_24 : decode cX5_copy 24 = .ok (.ireturn, 1) := by decide +kernel
set_option maxRecDepth 20000 in
theorem ggX5_length_X5_rowOf : GoodIn wsX5_length wsX5_rowOf := goodIn_ca (goodIn_r _ [5, 6, 7, 8, 15, 16, 17, 18, 19, 20, 21] (by decide +kernel) (by decide +kernel)) (goodIn_sub (fun _ h => List.mem_cons_of_mem _ (List.mem_append_right _ h)) (by decide +kernel))
set_option maxRecDepth 20000 in
theorem gX5_length_X5_rowOf : GoodIn wsX5_length (wsV RX5 43 RX5 yX5_rowOf wsX5_rowOf) := goodIn_app (goodIn_of _ (by decide +kernel)) ggX5_length_X5_rowOf
set_option maxRecDepth 20000 in
theorem ggX5_length_X3_count : GoodIn wsX5_length wsX3_count := goodIn_r _ [13, 14, 22, 23] (by decide +kernel) (by decide +kernel)
set_option maxRecDepth 20000 in
theorem gX5_length_X3_count : GoodIn wsX5_length (wsV RX5 63 RX3 yX3_count wsX3_count) := goodIn_app (goodIn_of _ (by decide +kernel)) ggX5_length_X3_count
theorem dX5_length_0 : decode cX5_length 0 = .ok (.aload_n 0, 1) := by decide +kernel
theorem dX5_length_1 : decode cX5_length 1 = .ok (.iload_n 1, 1) := by decide +kernel
theorem dX5_length_2 : decode cX5_length 2 = .ok (.invokevirtual 43, 3) := by decide +kernel
theorem dX5_length_5 : decode cX5_length 5 = .ok (.invokevirtual 63, 3) := by decide +kernel
theorem dX5_length_8 : decode cX5_length 8 = .ok (.ireturn, 1) := by decide +kernel
set_option maxRecDepth 20000 in
theorem ggX5_at_X5_rowOf : GoodIn wsX5_at wsX5_rowOf := goodIn_ca (goodIn_r _ [5, 6, 7, 8, 23, 24, 25, 26, 27, 28, 29] (by decide +kernel) (by decide +kernel)) (goodIn_sub (fun _ h => List.mem_cons_of_mem _ (List.mem_append_right _ h)) (by decide +kernel))
set_option maxRecDepth 20000 in
theorem gX5_at_X5_rowOf : GoodIn wsX5_at (wsV RX5 43 RX5 yX5_rowOf wsX5_rowOf) := goodIn_app (goodIn_of _ (by decide +kernel)) ggX5_at_X5_rowOf
set_option maxRecDepth 20000 in
theorem ggX5_at_X3_count : GoodIn wsX5_at wsX3_count := goodIn_r _ [13, 14, 30, 31] (by decide +kernel) (by decide +kernel)
set_option maxRecDepth 20000 in
theorem gX5_at_X3_count : GoodIn wsX5_at (wsV RX5 63 RX3 yX3_count wsX3_count) := goodIn_app (goodIn_of _ (by decide +kernel)) ggX5_at_X3_count
set_option maxRecDepth 20000 in
theorem ggX5_at_X5_requireEntry : GoodIn wsX5_at wsX5_requireEntry := goodIn_ca (goodIn_r _ [17, 6, 7] (by decide +kernel) (by decide +kernel)) (goodIn_sub (fun _ h => List.mem_cons_of_mem _ (List.mem_append_right _ h)) (by decide +kernel))
set_option maxRecDepth 20000 in
theorem gX5_at_X5_requireEntry : GoodIn wsX5_at (va_wsS RX5 74 yX5_requireEntry wsX5_requireEntry) := goodIn_app (goodIn_of _ (by decide +kernel)) ggX5_at_X5_requireEntry
set_option maxRecDepth 20000 in
theorem ggX5_at_X3_entry : GoodIn wsX5_at wsX3_entry := goodIn_r _ [21, 14, 22, 30, 31] (by decide +kernel) (by decide +kernel)
set_option maxRecDepth 20000 in
theorem gX5_at_X3_entry : GoodIn wsX5_at (wsV RX5 78 RX3 yX3_entry wsX3_entry) := goodIn_app (goodIn_of _ (by decide +kernel)) ggX5_at_X3_entry
theorem dX5_at_0 : decode cX5_at 0 = .ok (.aload_n 0, 1) := by decide +kernel
theorem dX5_at_1 : decode cX5_at 1 = .ok (.iload_n 1, 1) := by decide +kernel
theorem dX5_at_2 : decode cX5_at 2 = .ok (.invokevirtual 43, 3) := by decide +kernel
theorem dX5_at_5 : decode cX5_at 5 = .ok (.astore_n 3, 1) := by decide +kernel
theorem dX5_at_6 : decode cX5_at 6 = .ok (.iload_n 2, 1) := by decide +kernel
theorem dX5_at_7 : decode cX5_at 7 = .ok (.aload_n 3, 1) := by decide +kernel
theorem dX5_at_8 : decode cX5_at 8 = .ok (.invokevirtual 63, 3) := by decide +kernel
theorem dX5_at_11 : decode cX5_at 11 = .ok (.invokestatic 74, 3) := by decide +kernel
theorem dX5_at_14 : decode cX5_at 14 = .ok (.aload_n 3, 1) := by decide +kernel
theorem dX5_at_15 : decode cX5_at 15 = .ok (.iload_n 2, 1) := by decide +kernel
theorem dX5_at_16 : decode cX5_at 16 = .ok (.invokevirtual 78, 3) := by decide +kernel
theorem dX5_at_19 : decode cX5_at 19 = .ok (.ireturn, 1) := by decide +kernel
set_option maxRecDepth 20000 in
theorem ggX5_plan_X1_isPrime : GoodIn wsX5_plan wsX1_isPrime := goodIn_r _ [13, 14, 15, 12, 16, 17, 18, 19, 20] (by decide +kernel) (by decide +kernel)
set_option maxRecDepth 20000 in
theorem gX5_plan_X1_isPrime : GoodIn wsX5_plan (va_wsS RX5 82 yX1_isPrime wsX1_isPrime) := goodIn_app (goodIn_of _ (by decide +kernel)) ggX5_plan_X1_isPrime
set_option maxRecDepth 20000 in
theorem ggX5_plan_X2_init : GoodIn wsX5_plan wsX2_init := goodIn_r _ [23, 24, 25, 26, 27, 28, 29, 30, 31, 32, 33, 34, 35, 12, 36, 37, 38, 39, 14, 15, 16, 17, 18, 19, 20, 40, 41, 42, 43, 44, 45, 46, 47, 48, 49, 9, 50, 51, 52, 53, 54, 11, 13, 55, 56, 57, 58, 66, 67, 68, 69, 70, 71] (by decide +kernel) (by decide +kernel)
set_option maxRecDepth 20000 in
theorem gX5_plan_X2_init : GoodIn wsX5_plan (wsX2_init) := ggX5_plan_X2_init
theorem dX5_plan_0 : decode cX5_plan 0 = .ok (.iload_n 1, 1) := by decide +kernel
theorem dX5_plan_1 : decode cX5_plan 1 = .ok (.iconst 3, 1) := by decide +kernel
theorem dX5_plan_2 : decode cX5_plan 2 = .ok (.if_icmp .lt 17, 3) := by decide +kernel
theorem dX5_plan_5 : decode cX5_plan 5 = .ok (.iload_n 1, 1) := by decide +kernel
theorem dX5_plan_6 : decode cX5_plan 6 = .ok (.sipush 9973, 3) := by decide +kernel
theorem dX5_plan_9 : decode cX5_plan 9 = .ok (.if_icmp .gt 10, 3) := by decide +kernel
theorem dX5_plan_12 : decode cX5_plan 12 = .ok (.iload_n 1, 1) := by decide +kernel
theorem dX5_plan_13 : decode cX5_plan 13 = .ok (.invokestatic 82, 3) := by decide +kernel
theorem dX5_plan_16 : decode cX5_plan 16 = .ok (.ifCond .ne 13, 3) := by decide +kernel
theorem dX5_plan_19 : decode cX5_plan 19 = .ok (.new 47, 3) := by decide +kernel
theorem dX5_plan_22 : decode cX5_plan 22 = .ok (.dup, 1) := by decide +kernel
theorem dX5_plan_23 : decode cX5_plan 23 = .ok (.ldc 87, 2) := by decide +kernel
theorem dX5_plan_25 : decode cX5_plan 25 = .ok (.invokespecial 51, 3) := by decide +kernel
theorem dX5_plan_28 : decode cX5_plan 28 = .ok (.athrow, 1) := by decide +kernel
theorem dX5_plan_29 : decode cX5_plan 29 = .ok (.iload_n 2, 1) := by decide +kernel
theorem dX5_plan_30 : decode cX5_plan 30 = .ok (.iconst 1, 1) := by decide +kernel
theorem dX5_plan_31 : decode cX5_plan 31 = .ok (.if_icmp .lt 17, 3) := by decide +kernel
theorem dX5_plan_34 : decode cX5_plan 34 = .ok (.iload_n 2, 1) := by decide +kernel
theorem dX5_plan_35 : decode cX5_plan 35 = .ok (.bipush 64, 2) := by decide +kernel
theorem dX5_plan_37 : decode cX5_plan 37 = .ok (.if_icmp .gt 11, 3) := by decide +kernel
theorem dX5_plan_40 : decode cX5_plan 40 = .ok (.iload_n 1, 1) := by decide +kernel
theorem dX5_plan_41 : decode cX5_plan 41 = .ok (.iconst 1, 1) := by decide +kernel
theorem dX5_plan_42 : decode cX5_plan 42 = .ok (.isub, 1) := by decide +kernel
theorem dX5_plan_43 : decode cX5_plan 43 = .ok (.iload_n 2, 1) := by decide +kernel
theorem dX5_plan_44 : decode cX5_plan 44 = .ok (.irem, 1) := by decide +kernel
theorem dX5_plan_45 : decode cX5_plan 45 = .ok (.ifCond .eq 13, 3) := by decide +kernel
theorem dX5_plan_48 : decode cX5_plan 48 = .ok (.new 47, 3) := by decide +kernel
theorem dX5_plan_51 : decode cX5_plan 51 = .ok (.dup, 1) := by decide +kernel
theorem dX5_plan_52 : decode cX5_plan 52 = .ok (.ldc 89, 2) := by decide +kernel
theorem dX5_plan_54 : decode cX5_plan 54 = .ok (.invokespecial 51, 3) := by decide +kernel
theorem dX5_plan_57 : decode cX5_plan 57 = .ok (.athrow, 1) := by decide +kernel
theorem dX5_plan_58 : decode cX5_plan 58 = .ok (.aload_n 0, 1) := by decide +kernel
theorem dX5_plan_59 : decode cX5_plan 59 = .ok (.getfield 91, 3) := by decide +kernel
theorem dX5_plan_62 : decode cX5_plan 62 = .ok (.bipush 8, 2) := by decide +kernel
theorem dX5_plan_64 : decode cX5_plan 64 = .ok (.if_icmp .lt 13, 3) := by decide +kernel
theorem dX5_plan_67 : decode cX5_plan 67 = .ok (.new 58, 3) := by decide +kernel
theorem dX5_plan_70 : decode cX5_plan 70 = .ok (.dup, 1) := by decide +kernel
theorem dX5_plan_71 : decode cX5_plan 71 = .ok (.ldc 95, 2) := by decide +kernel
theorem dX5_plan_73 : decode cX5_plan 73 = .ok (.invokespecial 62, 3) := by decide +kernel
theorem dX5_plan_76 : decode cX5_plan 76 = .ok (.athrow, 1) := by decide +kernel
theorem dX5_plan_77 : decode cX5_plan 77 = .ok (.aload_n 0, 1) := by decide +kernel
theorem dX5_plan_78 : decode cX5_plan 78 = .ok (.getfield 91, 3) := by decide +kernel
theorem dX5_plan_81 : decode cX5_plan 81 = .ok (.istore_n 3, 1) := by decide +kernel
theorem dX5_plan_82 : decode cX5_plan 82 = .ok (.aload_n 0, 1) := by decide +kernel
theorem dX5_plan_83 : decode cX5_plan 83 = .ok (.getfield 17, 3) := by decide +kernel
theorem dX5_plan_86 : decode cX5_plan 86 = .ok (.iload_n 3, 1) := by decide +kernel
theorem dX5_plan_87 : decode cX5_plan 87 = .ok (.new 15, 3) := by decide +kernel
theorem dX5_plan_90 : decode cX5_plan 90 = .ok (.dup, 1) := by decide +kernel
theorem dX5_plan_91 : decode cX5_plan 91 = .ok (.iload_n 1, 1) := by decide +kernel
theorem dX5_plan_92 : decode cX5_plan 92 = .ok (.iload_n 2, 1) := by decide +kernel
theorem dX5_plan_93 : decode cX5_plan 93 = .ok (.invokespecial 97, 3) := by decide +kernel
theorem dX5_plan_96 : decode cX5_plan 96 = .ok (.aastore, 1) := by decide +kernel
theorem dX5_plan_97 : decode cX5_plan 97 = .ok (.aload_n 0, 1) := by decide +kernel
theorem dX5_plan_98 : decode cX5_plan 98 = .ok (.iload_n 3, 1) := by decide +kernel
theorem dX5_plan_99 : decode cX5_plan 99 = .ok (.iconst 1, 1) := by decide +kernel
theorem dX5_plan_100 : decode cX5_plan 100 = .ok (.iadd, 1) := by decide +kernel
theorem dX5_plan_101 : decode cX5_plan 101 = .ok (.putfield 91, 3) := by decide +kernel
theorem dX5_plan_104 : decode cX5_plan 104 = .ok (.iload_n 3, 1) := by decide +kernel
theorem dX5_plan_105 : decode cX5_plan 105 = .ok (.ireturn, 1) := by decide +kernel
theorem dX5_plans_0 : decode cX5_plans 0 = .ok (.aload_n 0, 1) := by decide +kernel
theorem dX5_plans_1 : decode cX5_plans 1 = .ok (.getfield 91, 3) := by decide +kernel
theorem dX5_plans_4 : decode cX5_plans 4 = .ok (.ireturn, 1) := by decide +kernel
set_option maxRecDepth 20000 in
theorem ggX5_ways_X5_planOf : GoodIn wsX5_ways wsX5_planOf := goodIn_ca (goodIn_r _ [5, 6, 7, 8, 9, 16, 17, 18, 19, 20, 21, 22] (by decide +kernel) (by decide +kernel)) (goodIn_sub (fun _ h => List.mem_cons_of_mem _ (List.mem_append_right _ h)) (by decide +kernel))
set_option maxRecDepth 20000 in
theorem gX5_ways_X5_planOf : GoodIn wsX5_ways (wsV RX5 99 RX5 yX5_planOf wsX5_planOf) := goodIn_app (goodIn_of _ (by decide +kernel)) ggX5_ways_X5_planOf
set_option maxRecDepth 20000 in
theorem ggX5_ways_X2_wayset : GoodIn wsX5_ways wsX2_wayset := goodIn_r _ [14, 15, 23, 24, 25, 26, 27, 28] (by decide +kernel) (by decide +kernel)
set_option maxRecDepth 20000 in
theorem gX5_ways_X2_wayset : GoodIn wsX5_ways (wsV RX5 106 RX2 yX2_wayset wsX2_wayset) := goodIn_app (goodIn_of _ (by decide +kernel)) ggX5_ways_X2_wayset
theorem dX5_ways_0 : decode cX5_ways 0 = .ok (.aload_n 0, 1) := by decide +kernel
theorem dX5_ways_1 : decode cX5_ways 1 = .ok (.iload_n 1, 1) := by decide +kernel
theorem dX5_ways_2 : decode cX5_ways 2 = .ok (.invokevirtual 99, 3) := by decide +kernel
theorem dX5_ways_5 : decode cX5_ways 5 = .ok (.invokevirtual 106, 3) := by decide +kernel
theorem dX5_ways_8 : decode cX5_ways 8 = .ok (.ireturn, 1) := by decide +kernel
set_option maxRecDepth 20000 in
theorem ggX5_forward_X5_planOf : GoodIn wsX5_forward wsX5_planOf := goodIn_ca (goodIn_r _ [5, 6, 7, 8, 9, 158, 159, 160, 161, 162, 163, 164] (by decide +kernel) (by decide +kernel)) (goodIn_sub (fun _ h => List.mem_cons_of_mem _ (List.mem_append_left _ (List.mem_append_left _ (List.mem_append_right _ h)))) (by decide +kernel))
set_option maxRecDepth 20000 in
theorem gX5_forward_X5_planOf : GoodIn wsX5_forward (wsV RX5 99 RX5 yX5_planOf wsX5_planOf) := goodIn_app (goodIn_of _ (by decide +kernel)) ggX5_forward_X5_planOf
set_option maxRecDepth 20000 in
theorem ggX5_forward_X5_rowOf : GoodIn wsX5_forward wsX5_rowOf := goodIn_ca (goodIn_r _ [13, 6, 7, 14, 158, 159, 160, 161, 162, 163, 164] (by decide +kernel) (by decide +kernel)) (goodIn_sub (fun _ h => List.mem_cons_of_mem _ (List.mem_append_left _ (List.mem_append_left _ (List.mem_append_right _ h)))) (by decide +kernel))
set_option maxRecDepth 20000 in
theorem gX5_forward_X5_rowOf : GoodIn wsX5_forward (wsV RX5 43 RX5 yX5_rowOf wsX5_rowOf) := goodIn_app (goodIn_of _ (by decide +kernel)) ggX5_forward_X5_rowOf
set_option maxRecDepth 20000 in
theorem ggX5_forward_X5_transformRow : GoodIn wsX5_forward wsX5_transformRow := goodIn_ca (goodIn_ca (goodIn_r _ [18, 19, 20, 21, 22, 23, 24, 25, 26, 27, 28, 29, 30, 4, 31, 32, 33, 34, 35, 36, 37, 38, 39, 40, 41, 42, 43, 44, 45, 46, 47, 48, 49, 50, 51, 52, 53, 54, 55, 56, 57, 58, 59, 60, 61, 62, 63, 64, 65, 66, 67, 68, 69, 70, 71, 72, 73, 74, 75, 76, 77, 78, 79, 80, 81, 82, 83, 84, 85, 86, 87, 88, 89, 90, 91, 92, 93, 94, 95, 96, 97, 98, 99, 100, 101, 102, 103, 104, 105, 106, 107, 108, 109, 110, 111, 112, 113, 114, 115, 116, 117, 118, 119, 120, 121, 122, 123, 124, 125, 126, 127, 128, 129, 130, 131, 132, 133, 134, 135, 136, 137, 138, 139, 140, 141, 142, 143, 144, 145, 146, 147, 148, 149, 150, 151, 152, 153, 154, 155, 156, 157, 158, 159, 160, 161, 162, 163, 164, 165, 166, 167, 168, 169, 170, 171, 172, 173, 174, 175, 176, 177] (by decide +kernel) (by decide +kernel)) (goodIn_sub (fun _ h => List.mem_cons_of_mem _ (List.mem_append_left _ (List.mem_append_right _ h))) (by decide +kernel))) (goodIn_sub (fun _ h => List.mem_cons_of_mem _ (List.mem_append_right _ h)) (by decide +kernel))
set_option maxRecDepth 20000 in
theorem gX5_forward_X5_transformRow : GoodIn wsX5_forward (wsV RX5 109 RX5 yX5_transformRow wsX5_transformRow) := goodIn_app (goodIn_of _ (by decide +kernel)) ggX5_forward_X5_transformRow
theorem dX5_forward_0 : decode cX5_forward 0 = .ok (.aload_n 0, 1) := by decide +kernel
theorem dX5_forward_1 : decode cX5_forward 1 = .ok (.aload_n 0, 1) := by decide +kernel
theorem dX5_forward_2 : decode cX5_forward 2 = .ok (.iload_n 1, 1) := by decide +kernel
theorem dX5_forward_3 : decode cX5_forward 3 = .ok (.invokevirtual 99, 3) := by decide +kernel
theorem dX5_forward_6 : decode cX5_forward 6 = .ok (.aload_n 0, 1) := by decide +kernel
theorem dX5_forward_7 : decode cX5_forward 7 = .ok (.iload_n 2, 1) := by decide +kernel
theorem dX5_forward_8 : decode cX5_forward 8 = .ok (.invokevirtual 43, 3) := by decide +kernel
theorem dX5_forward_11 : decode cX5_forward 11 = .ok (.iload_n 3, 1) := by decide +kernel
theorem dX5_forward_12 : decode cX5_forward 12 = .ok (.iconst 0, 1) := by decide +kernel
theorem dX5_forward_13 : decode cX5_forward 13 = .ok (.invokevirtual 109, 3) := by decide +kernel
theorem dX5_forward_16 : decode cX5_forward 16 = .ok (.ireturn, 1) := by decide +kernel
set_option maxRecDepth 20000 in
theorem ggX5_backward_X5_planOf : GoodIn wsX5_backward wsX5_planOf := goodIn_ca (goodIn_r _ [5, 6, 7, 8, 9, 158, 159, 160, 161, 162, 163, 164] (by decide +kernel) (by decide +kernel)) (goodIn_sub (fun _ h => List.mem_cons_of_mem _ (List.mem_append_left _ (List.mem_append_left _ (List.mem_append_right _ h)))) (by decide +kernel))
set_option maxRecDepth 20000 in
theorem gX5_backward_X5_planOf : GoodIn wsX5_backward (wsV RX5 99 RX5 yX5_planOf wsX5_planOf) := goodIn_app (goodIn_of _ (by decide +kernel)) ggX5_backward_X5_planOf
set_option maxRecDepth 20000 in
theorem ggX5_backward_X5_rowOf : GoodIn wsX5_backward wsX5_rowOf := goodIn_ca (goodIn_r _ [13, 6, 7, 14, 158, 159, 160, 161, 162, 163, 164] (by decide +kernel) (by decide +kernel)) (goodIn_sub (fun _ h => List.mem_cons_of_mem _ (List.mem_append_left _ (List.mem_append_left _ (List.mem_append_right _ h)))) (by decide +kernel))
set_option maxRecDepth 20000 in
theorem gX5_backward_X5_rowOf : GoodIn wsX5_backward (wsV RX5 43 RX5 yX5_rowOf wsX5_rowOf) := goodIn_app (goodIn_of _ (by decide +kernel)) ggX5_backward_X5_rowOf
set_option maxRecDepth 20000 in
theorem ggX5_backward_X5_transformRow : GoodIn wsX5_backward wsX5_transformRow := goodIn_ca (goodIn_ca (goodIn_r _ [18, 19, 20, 21, 22, 23, 24, 25, 26, 27, 28, 29, 30, 4, 31, 32, 33, 34, 35, 36, 37, 38, 39, 40, 41, 42, 43, 44, 45, 46, 47, 48, 49, 50, 51, 52, 53, 54, 55, 56, 57, 58, 59, 60, 61, 62, 63, 64, 65, 66, 67, 68, 69, 70, 71, 72, 73, 74, 75, 76, 77, 78, 79, 80, 81, 82, 83, 84, 85, 86, 87, 88, 89, 90, 91, 92, 93, 94, 95, 96, 97, 98, 99, 100, 101, 102, 103, 104, 105, 106, 107, 108, 109, 110, 111, 112, 113, 114, 115, 116, 117, 118, 119, 120, 121, 122, 123, 124, 125, 126, 127, 128, 129, 130, 131, 132, 133, 134, 135, 136, 137, 138, 139, 140, 141, 142, 143, 144, 145, 146, 147, 148, 149, 150, 151, 152, 153, 154, 155, 156, 157, 158, 159, 160, 161, 162, 163, 164, 165, 166, 167, 168, 169, 170, 171, 172, 173, 174, 175, 176, 177] (by decide +kernel) (by decide +kernel)) (goodIn_sub (fun _ h => List.mem_cons_of_mem _ (List.mem_append_left _ (List.mem_append_right _ h))) (by decide +kernel))) (goodIn_sub (fun _ h => List.mem_cons_of_mem _ (List.mem_append_right _ h)) (by decide +kernel))
set_option maxRecDepth 20000 in
theorem gX5_backward_X5_transformRow : GoodIn wsX5_backward (wsV RX5 109 RX5 yX5_transformRow wsX5_transformRow) := goodIn_app (goodIn_of _ (by decide +kernel)) ggX5_backward_X5_transformRow
theorem dX5_backward_0 : decode cX5_backward 0 = .ok (.aload_n 0, 1) := by decide +kernel
theorem dX5_backward_1 : decode cX5_backward 1 = .ok (.aload_n 0, 1) := by decide +kernel
theorem dX5_backward_2 : decode cX5_backward 2 = .ok (.iload_n 1, 1) := by decide +kernel
theorem dX5_backward_3 : decode cX5_backward 3 = .ok (.invokevirtual 99, 3) := by decide +kernel
theorem dX5_backward_6 : decode cX5_backward 6 = .ok (.aload_n 0, 1) := by decide +kernel
theorem dX5_backward_7 : decode cX5_backward 7 = .ok (.iload_n 2, 1) := by decide +kernel
theorem dX5_backward_8 : decode cX5_backward 8 = .ok (.invokevirtual 43, 3) := by decide +kernel
theorem dX5_backward_11 : decode cX5_backward 11 = .ok (.iload_n 3, 1) := by decide +kernel
theorem dX5_backward_12 : decode cX5_backward 12 = .ok (.iconst 1, 1) := by decide +kernel
theorem dX5_backward_13 : decode cX5_backward 13 = .ok (.invokevirtual 109, 3) := by decide +kernel
theorem dX5_backward_16 : decode cX5_backward 16 = .ok (.ireturn, 1) := by decide +kernel
set_option maxRecDepth 20000 in
theorem ggX5_convolve_X5_planOf : GoodIn wsX5_convolve wsX5_planOf := goodIn_ca (goodIn_r _ [8, 9, 10, 11, 12, 103, 104, 105, 106, 107, 108, 109] (by decide +kernel) (by decide +kernel)) (goodIn_sub (fun _ h => List.mem_cons_of_mem _ (List.mem_append_left _ (List.mem_append_right _ h))) (by decide +kernel))
set_option maxRecDepth 20000 in
theorem gX5_convolve_X5_planOf : GoodIn wsX5_convolve (wsV RX5 99 RX5 yX5_planOf wsX5_planOf) := goodIn_app (goodIn_of _ (by decide +kernel)) ggX5_convolve_X5_planOf
set_option maxRecDepth 20000 in
theorem ggX5_convolve_X5_rowOf : GoodIn wsX5_convolve wsX5_rowOf := goodIn_ca (goodIn_r _ [16, 9, 10, 17, 103, 104, 105, 106, 107, 108, 109] (by decide +kernel) (by decide +kernel)) (goodIn_sub (fun _ h => List.mem_cons_of_mem _ (List.mem_append_left _ (List.mem_append_right _ h))) (by decide +kernel))
set_option maxRecDepth 20000 in
theorem gX5_convolve_X5_rowOf : GoodIn wsX5_convolve (wsV RX5 43 RX5 yX5_rowOf wsX5_rowOf) := goodIn_app (goodIn_of _ (by decide +kernel)) ggX5_convolve_X5_rowOf
set_option maxRecDepth 20000 in
theorem ggX5_convolve_X5_loadPair : GoodIn wsX5_convolve wsX5_loadPair := goodIn_ca (goodIn_r _ [21, 2, 3, 22, 23, 7, 24, 25, 26, 27, 28, 29, 30, 31, 32, 33, 34, 35, 36, 37, 38, 39, 40, 41, 42, 43, 44, 45, 46, 47, 48, 49, 50, 51, 52, 53, 54, 55, 56, 57, 103, 104, 105, 106, 107, 108, 109, 110, 111, 112, 113, 114, 115, 116, 117] (by decide +kernel) (by decide +kernel)) (goodIn_sub (fun _ h => List.mem_cons_of_mem _ (List.mem_append_right _ h)) (by decide +kernel))
set_option maxRecDepth 20000 in
theorem gX5_convolve_X5_loadPair : GoodIn wsX5_convolve (wsV RX5 128 RX5 yX5_loadPair wsX5_loadPair) := goodIn_app (goodIn_of _ (by decide +kernel)) ggX5_convolve_X5_loadPair
set_option maxRecDepth 20000 in
theorem ggX5_convolve_X2_size : GoodIn wsX5_convolve wsX2_size := goodIn_r _ [37, 38, 112, 113, 114, 115, 116, 117] (by decide +kernel) (by decide +kernel)
set_option maxRecDepth 20000 in
theorem gX5_convolve_X2_size : GoodIn wsX5_convolve (wsV RX5 113 RX2 yX2_size wsX2_size) := goodIn_app (goodIn_of _ (by decide +kernel)) ggX5_convolve_X2_size
set_option maxRecDepth 20000 in
theorem ggX5_convolve_X4_byMixedRadices : GoodIn wsX5_convolve wsX4_byMixedRadices := goodIn_r _ [62, 63, 64, 56, 65, 66, 67, 68, 69, 70, 71, 72, 61, 73, 74, 75, 76, 77, 36, 78, 79, 38, 54, 55, 57, 80, 50, 51, 52, 53, 81, 82, 83, 84, 118, 119, 120, 121, 122, 112, 113, 114, 115, 116, 117] (by decide +kernel) (by decide +kernel)
set_option maxRecDepth 20000 in
theorem gX5_convolve_X4_byMixedRadices : GoodIn wsX5_convolve (wsV RX5 132 RX4 yX4_byMixedRadices wsX4_byMixedRadices) := goodIn_app (goodIn_of _ (by decide +kernel)) ggX5_convolve_X4_byMixedRadices
set_option maxRecDepth 20000 in
theorem ggX5_convolve_X2_remainder : GoodIn wsX5_convolve wsX2_remainder := goodIn_r _ [52, 53, 54, 55, 56, 57, 112, 113, 114, 115, 116, 117] (by decide +kernel) (by decide +kernel)
set_option maxRecDepth 20000 in
theorem gX5_convolve_X2_remainder : GoodIn wsX5_convolve (wsV RX5 136 RX2 yX2_remainder wsX2_remainder) := goodIn_app (goodIn_of _ (by decide +kernel)) ggX5_convolve_X2_remainder
set_option maxRecDepth 20000 in
theorem ggX5_convolve_X2_backTurn : GoodIn wsX5_convolve wsX2_backTurn := goodIn_r _ [89, 38, 112, 113, 114, 115, 116, 117] (by decide +kernel) (by decide +kernel)
set_option maxRecDepth 20000 in
theorem gX5_convolve_X2_backTurn : GoodIn wsX5_convolve (wsV RX5 140 RX2 yX2_backTurn wsX2_backTurn) := goodIn_app (goodIn_of _ (by decide +kernel)) ggX5_convolve_X2_backTurn
set_option maxRecDepth 20000 in
theorem ggX5_convolve_X2_divideBySize : GoodIn wsX5_convolve wsX2_divideBySize := goodIn_r _ [93, 38, 94, 95, 50, 51, 36, 52, 53, 54, 55, 56, 57, 112, 113, 114, 115, 116, 117] (by decide +kernel) (by decide +kernel)
set_option maxRecDepth 20000 in
theorem gX5_convolve_X2_divideBySize : GoodIn wsX5_convolve (wsV RX5 143 RX2 yX2_divideBySize wsX2_divideBySize) := goodIn_app (goodIn_of _ (by decide +kernel)) ggX5_convolve_X2_divideBySize
set_option maxRecDepth 20000 in
theorem ggX5_convolve_X3_take : GoodIn wsX5_convolve wsX3_take := goodIn_r _ [99, 100, 101, 68, 102, 32, 48, 110, 111] (by decide +kernel) (by decide +kernel)
set_option maxRecDepth 20000 in
theorem gX5_convolve_X3_take : GoodIn wsX5_convolve (wsV RX5 147 RX3 yX3_take wsX3_take) := goodIn_app (goodIn_of _ (by decide +kernel)) ggX5_convolve_X3_take
set_option maxRecDepth 20000 in
theorem ggX5_convolve_X3_count : GoodIn wsX5_convolve wsX3_count := goodIn_r _ [31, 32, 110, 111] (by decide +kernel) (by decide +kernel)
set_option maxRecDepth 20000 in
theorem gX5_convolve_X3_count : GoodIn wsX5_convolve (wsV RX5 63 RX3 yX3_count wsX3_count) := goodIn_app (goodIn_of _ (by decide +kernel)) ggX5_convolve_X3_count
theorem dX5_convolve_0 : decode cX5_convolve 0 = .ok (.aload_n 0, 1) := by decide +kernel
theorem dX5_convolve_1 : decode cX5_convolve 1 = .ok (.iload_n 1, 1) := by decide +kernel
theorem dX5_convolve_2 : decode cX5_convolve 2 = .ok (.invokevirtual 99, 3) := by decide +kernel
theorem dX5_convolve_5 : decode cX5_convolve 5 = .ok (.astore 5, 2) := by decide +kernel
theorem dX5_convolve_7 : decode cX5_convolve 7 = .ok (.aload_n 0, 1) := by decide +kernel
theorem dX5_convolve_8 : decode cX5_convolve 8 = .ok (.iload_n 2, 1) := by decide +kernel
theorem dX5_convolve_9 : decode cX5_convolve 9 = .ok (.invokevirtual 43, 3) := by decide +kernel
theorem dX5_convolve_12 : decode cX5_convolve 12 = .ok (.astore 6, 2) := by decide +kernel
theorem dX5_convolve_14 : decode cX5_convolve 14 = .ok (.aload_n 0, 1) := by decide +kernel
theorem dX5_convolve_15 : decode cX5_convolve 15 = .ok (.iload_n 3, 1) := by decide +kernel
theorem dX5_convolve_16 : decode cX5_convolve 16 = .ok (.invokevirtual 43, 3) := by decide +kernel
theorem dX5_convolve_19 : decode cX5_convolve 19 = .ok (.astore 7, 2) := by decide +kernel
theorem dX5_convolve_21 : decode cX5_convolve 21 = .ok (.aload_n 0, 1) := by decide +kernel
theorem dX5_convolve_22 : decode cX5_convolve 22 = .ok (.iload 4, 2) := by decide +kernel
theorem dX5_convolve_24 : decode cX5_convolve 24 = .ok (.invokevirtual 43, 3) := by decide +kernel
theorem dX5_convolve_27 : decode cX5_convolve 27 = .ok (.astore 8, 2) := by decide +kernel
theorem dX5_convolve_29 : decode cX5_convolve 29 = .ok (.aload_n 0, 1) := by decide +kernel
theorem dX5_convolve_30 : decode cX5_convolve 30 = .ok (.aload 5, 2) := by decide +kernel
theorem dX5_convolve_32 : decode cX5_convolve 32 = .ok (.aload 6, 2) := by decide +kernel
theorem dX5_convolve_34 : decode cX5_convolve 34 = .ok (.aload 7, 2) := by decide +kernel
theorem dX5_convolve_36 : decode cX5_convolve 36 = .ok (.invokevirtual 128, 3) := by decide +kernel
theorem dX5_convolve_39 : decode cX5_convolve 39 = .ok (.aload_n 0, 1) := by decide +kernel
theorem dX5_convolve_40 : decode cX5_convolve 40 = .ok (.getfield 24, 3) := by decide +kernel
theorem dX5_convolve_43 : decode cX5_convolve 43 = .ok (.aload 5, 2) := by decide +kernel
theorem dX5_convolve_45 : decode cX5_convolve 45 = .ok (.aload_n 0, 1) := by decide +kernel
theorem dX5_convolve_46 : decode cX5_convolve 46 = .ok (.getfield 35, 3) := by decide +kernel
theorem dX5_convolve_49 : decode cX5_convolve 49 = .ok (.aload 5, 2) := by decide +kernel
theorem dX5_convolve_51 : decode cX5_convolve 51 = .ok (.invokevirtual 113, 3) := by decide +kernel
theorem dX5_convolve_54 : decode cX5_convolve 54 = .ok (.iconst 1, 1) := by decide +kernel
theorem dX5_convolve_55 : decode cX5_convolve 55 = .ok (.invokevirtual 132, 3) := by decide +kernel
theorem dX5_convolve_58 : decode cX5_convolve 58 = .ok (.aload_n 0, 1) := by decide +kernel
theorem dX5_convolve_59 : decode cX5_convolve 59 = .ok (.getfield 24, 3) := by decide +kernel
theorem dX5_convolve_62 : decode cX5_convolve 62 = .ok (.aload 5, 2) := by decide +kernel
theorem dX5_convolve_64 : decode cX5_convolve 64 = .ok (.aload_n 0, 1) := by decide +kernel
theorem dX5_convolve_65 : decode cX5_convolve 65 = .ok (.getfield 39, 3) := by decide +kernel
theorem dX5_convolve_68 : decode cX5_convolve 68 = .ok (.aload 5, 2) := by decide +kernel
theorem dX5_convolve_70 : decode cX5_convolve 70 = .ok (.invokevirtual 113, 3) := by decide +kernel
theorem dX5_convolve_73 : decode cX5_convolve 73 = .ok (.iconst 1, 1) := by decide +kernel
theorem dX5_convolve_74 : decode cX5_convolve 74 = .ok (.invokevirtual 132, 3) := by decide +kernel
theorem dX5_convolve_77 : decode cX5_convolve 77 = .ok (.iconst 0, 1) := by decide +kernel
theorem dX5_convolve_78 : decode cX5_convolve 78 = .ok (.istore 9, 2) := by decide +kernel
theorem dX5_convolve_80 : decode cX5_convolve 80 = .ok (.iload 9, 2) := by decide +kernel
theorem dX5_convolve_82 : decode cX5_convolve 82 = .ok (.aload 5, 2) := by decide +kernel
theorem dX5_convolve_84 : decode cX5_convolve 84 = .ok (.invokevirtual 113, 3) := by decide +kernel
theorem dX5_convolve_87 : decode cX5_convolve 87 = .ok (.if_icmp .ge 38, 3) := by decide +kernel
theorem dX5_convolve_90 : decode cX5_convolve 90 = .ok (.aload_n 0, 1) := by decide +kernel
theorem dX5_convolve_91 : decode cX5_convolve 91 = .ok (.getfield 35, 3) := by decide +kernel
theorem dX5_convolve_94 : decode cX5_convolve 94 = .ok (.iload 9, 2) := by decide +kernel
theorem dX5_convolve_96 : decode cX5_convolve 96 = .ok (.aload 5, 2) := by decide +kernel
theorem dX5_convolve_98 : decode cX5_convolve 98 = .ok (.aload_n 0, 1) := by decide +kernel
theorem dX5_convolve_99 : decode cX5_convolve 99 = .ok (.getfield 35, 3) := by decide +kernel
theorem dX5_convolve_102 : decode cX5_convolve 102 = .ok (.iload 9, 2) := by decide +kernel
theorem dX5_convolve_104 : decode cX5_convolve 104 = .ok (.iaload, 1) := by decide +kernel
theorem dX5_convolve_105 : decode cX5_convolve 105 = .ok (.i2l, 1) := by decide +kernel
theorem dX5_convolve_106 : decode cX5_convolve 106 = .ok (.aload_n 0, 1) := by decide +kernel
theorem dX5_convolve_107 : decode cX5_convolve 107 = .ok (.getfield 39, 3) := by decide +kernel
theorem dX5_convolve_110 : decode cX5_convolve 110 = .ok (.iload 9, 2) := by decide +kernel
theorem dX5_convolve_112 : decode cX5_convolve 112 = .ok (.iaload, 1) := by decide +kernel
theorem dX5_convolve_113 : decode cX5_convolve 113 = .ok (.i2l, 1) := by decide +kernel
theorem dX5_convolve_114 : decode cX5_convolve 114 = .ok (.lmul, 1) := by decide +kernel
theorem dX5_convolve_115 : decode cX5_convolve 115 = .ok (.invokevirtual 136, 3) := by decide +kernel
theorem dX5_convolve_118 : decode cX5_convolve 118 = .ok (.iastore, 1) := by decide +kernel
theorem dX5_convolve_119 : decode cX5_convolve 119 = .ok (.iinc 9 1, 3) := by decide +kernel
theorem dX5_convolve_122 : decode cX5_convolve 122 = .ok (.goto (-42), 3) := by decide +kernel
theorem dX5_convolve_125 : decode cX5_convolve 125 = .ok (.aload_n 0, 1) := by decide +kernel
theorem dX5_convolve_126 : decode cX5_convolve 126 = .ok (.getfield 24, 3) := by decide +kernel
theorem dX5_convolve_129 : decode cX5_convolve 129 = .ok (.aload 5, 2) := by decide +kernel
theorem dX5_convolve_131 : decode cX5_convolve 131 = .ok (.aload_n 0, 1) := by decide +kernel
theorem dX5_convolve_132 : decode cX5_convolve 132 = .ok (.getfield 35, 3) := by decide +kernel
theorem dX5_convolve_135 : decode cX5_convolve 135 = .ok (.aload 5, 2) := by decide +kernel
theorem dX5_convolve_137 : decode cX5_convolve 137 = .ok (.invokevirtual 113, 3) := by decide +kernel
theorem dX5_convolve_140 : decode cX5_convolve 140 = .ok (.aload 5, 2) := by decide +kernel
theorem dX5_convolve_142 : decode cX5_convolve 142 = .ok (.invokevirtual 140, 3) := by decide +kernel
theorem dX5_convolve_145 : decode cX5_convolve 145 = .ok (.invokevirtual 132, 3) := by decide +kernel
theorem dX5_convolve_148 : decode cX5_convolve 148 = .ok (.aload 5, 2) := by decide +kernel
theorem dX5_convolve_150 : decode cX5_convolve 150 = .ok (.aload_n 0, 1) := by decide +kernel
theorem dX5_convolve_151 : decode cX5_convolve 151 = .ok (.getfield 35, 3) := by decide +kernel
theorem dX5_convolve_154 : decode cX5_convolve 154 = .ok (.invokevirtual 143, 3) := by decide +kernel
theorem dX5_convolve_157 : decode cX5_convolve 157 = .ok (.aload 8, 2) := by decide +kernel
theorem dX5_convolve_159 : decode cX5_convolve 159 = .ok (.aload_n 0, 1) := by decide +kernel
theorem dX5_convolve_160 : decode cX5_convolve 160 = .ok (.getfield 35, 3) := by decide +kernel
theorem dX5_convolve_163 : decode cX5_convolve 163 = .ok (.aload 5, 2) := by decide +kernel
theorem dX5_convolve_165 : decode cX5_convolve 165 = .ok (.invokevirtual 113, 3) := by decide +kernel
theorem dX5_convolve_168 : decode cX5_convolve 168 = .ok (.invokevirtual 147, 3) := by decide +kernel
theorem dX5_convolve_171 : decode cX5_convolve 171 = .ok (.aload 8, 2) := by decide +kernel
theorem dX5_convolve_173 : decode cX5_convolve 173 = .ok (.invokevirtual 63, 3) := by decide +kernel
theorem dX5_convolve_176 : decode cX5_convolve 176 = .ok (.ireturn, 1) := by decide +kernel

set_option maxRecDepth 20000 in
theorem ggX5_filter_X5_rowOf : GoodIn wsX5_filter wsX5_rowOf := goodIn_ca (goodIn_r _ [8, 9, 10, 11, 75, 76, 77, 78, 79, 80, 81] (by decide +kernel) (by decide +kernel)) (goodIn_sub (fun _ h => List.mem_cons_of_mem _ (List.mem_append_left _ (List.mem_append_right _ h))) (by decide +kernel))
set_option maxRecDepth 20000 in
theorem gX5_filter_X5_rowOf : GoodIn wsX5_filter (wsV RX5 43 RX5 yX5_rowOf wsX5_rowOf) := goodIn_app (goodIn_of _ (by decide +kernel)) ggX5_filter_X5_rowOf
set_option maxRecDepth 20000 in
theorem ggX5_filter_X5_requireEntriesWithin : GoodIn wsX5_filter wsX5_requireEntriesWithin := goodIn_ca (goodIn_r _ [14, 1, 2, 15, 16, 17, 18, 19, 20, 21, 82, 83] (by decide +kernel) (by decide +kernel)) (goodIn_sub (fun _ h => List.mem_cons_of_mem _ (List.mem_append_left _ (List.mem_append_left _ (List.mem_append_right _ h)))) (by decide +kernel))
set_option maxRecDepth 20000 in
theorem gX5_filter_X5_requireEntriesWithin : GoodIn wsX5_filter (va_wsS RX5 157 yX5_requireEntriesWithin wsX5_requireEntriesWithin) := goodIn_app (goodIn_of _ (by decide +kernel)) ggX5_filter_X5_requireEntriesWithin
set_option maxRecDepth 20000 in
theorem ggX5_filter_X3_count : GoodIn wsX5_filter wsX3_count := goodIn_r _ [25, 20, 82, 83] (by decide +kernel) (by decide +kernel)
set_option maxRecDepth 20000 in
theorem gX5_filter_X3_count : GoodIn wsX5_filter (wsV RX5 63 RX3 yX3_count wsX3_count) := goodIn_app (goodIn_of _ (by decide +kernel)) ggX5_filter_X3_count
set_option maxRecDepth 20000 in
theorem ggX5_filter_X5_requireFilledWithin : GoodIn wsX5_filter wsX5_requireFilledWithin := goodIn_ca (goodIn_r _ [28, 29, 30, 22, 23, 24, 18, 25, 20, 82, 83] (by decide +kernel) (by decide +kernel)) (goodIn_sub (fun _ h => List.mem_cons_of_mem _ (List.mem_append_right _ h)) (by decide +kernel))
set_option maxRecDepth 20000 in
theorem gX5_filter_X5_requireFilledWithin : GoodIn wsX5_filter (va_wsS RX5 161 yX5_requireFilledWithin wsX5_requireFilledWithin) := goodIn_app (goodIn_of _ (by decide +kernel)) ggX5_filter_X5_requireFilledWithin
set_option maxRecDepth 20000 in
theorem ggX5_filter_X0_overlapSave : GoodIn wsX5_filter wsX0_overlapSave := goodIn_r _ [35, 36, 37, 38, 39, 40, 41, 42, 43, 23, 24, 18, 25, 20, 44, 45, 46, 34, 47, 48, 49, 50, 51, 52, 53, 21, 82, 83, 84, 85] (by decide +kernel) (by decide +kernel)
set_option maxRecDepth 20000 in
theorem gX5_filter_X0_overlapSave : GoodIn wsX5_filter (wsV RX5 165 RX0 yX0_overlapSave wsX0_overlapSave) := goodIn_app (goodIn_of _ (by decide +kernel)) ggX5_filter_X0_overlapSave
set_option maxRecDepth 20000 in
theorem ggX5_filter_X0_overlapAdd : GoodIn wsX5_filter wsX0_overlapAdd := goodIn_r _ [57, 49, 36, 37, 38, 39, 40, 41, 42, 58, 59, 60, 61, 43, 23, 24, 18, 25, 20, 62, 63, 64, 34, 65, 50, 51, 52, 53, 21, 84, 85, 82, 83] (by decide +kernel) (by decide +kernel)
set_option maxRecDepth 20000 in
theorem gX5_filter_X0_overlapAdd : GoodIn wsX5_filter (wsV RX5 168 RX0 yX0_overlapAdd wsX0_overlapAdd) := goodIn_app (goodIn_of _ (by decide +kernel)) ggX5_filter_X0_overlapAdd
set_option maxRecDepth 20000 in
theorem ggX5_filter_X0_results : GoodIn wsX5_filter wsX0_results := goodIn_r _ [69, 49, 84, 85] (by decide +kernel) (by decide +kernel)
set_option maxRecDepth 20000 in
theorem gX5_filter_X0_results : GoodIn wsX5_filter (wsV RX5 171 RX0 yX0_results wsX0_results) := goodIn_app (goodIn_of _ (by decide +kernel)) ggX5_filter_X0_results
set_option maxRecDepth 20000 in
theorem ggX5_filter_X3_take : GoodIn wsX5_filter wsX3_take := goodIn_r _ [73, 74, 41, 38, 42, 20, 21, 82, 83] (by decide +kernel) (by decide +kernel)
set_option maxRecDepth 20000 in
theorem gX5_filter_X3_take : GoodIn wsX5_filter (wsV RX5 147 RX3 yX3_take wsX3_take) := goodIn_app (goodIn_of _ (by decide +kernel)) ggX5_filter_X3_take
theorem dX5_filter_0 : decode cX5_filter 0 = .ok (.aload_n 0, 1) := by decide +kernel
theorem dX5_filter_1 : decode cX5_filter 1 = .ok (.iload_n 1, 1) := by decide +kernel
theorem dX5_filter_2 : decode cX5_filter 2 = .ok (.invokevirtual 43, 3) := by decide +kernel
theorem dX5_filter_5 : decode cX5_filter 5 = .ok (.astore 6, 2) := by decide +kernel
theorem dX5_filter_7 : decode cX5_filter 7 = .ok (.aload_n 0, 1) := by decide +kernel
theorem dX5_filter_8 : decode cX5_filter 8 = .ok (.iload_n 2, 1) := by decide +kernel
theorem dX5_filter_9 : decode cX5_filter 9 = .ok (.invokevirtual 43, 3) := by decide +kernel
theorem dX5_filter_12 : decode cX5_filter 12 = .ok (.astore 7, 2) := by decide +kernel
theorem dX5_filter_14 : decode cX5_filter 14 = .ok (.aload_n 0, 1) := by decide +kernel
theorem dX5_filter_15 : decode cX5_filter 15 = .ok (.iload_n 3, 1) := by decide +kernel
theorem dX5_filter_16 : decode cX5_filter 16 = .ok (.invokevirtual 43, 3) := by decide +kernel
theorem dX5_filter_19 : decode cX5_filter 19 = .ok (.astore 8, 2) := by decide +kernel
theorem dX5_filter_21 : decode cX5_filter 21 = .ok (.iload 4, 2) := by decide +kernel
theorem dX5_filter_23 : decode cX5_filter 23 = .ok (.iconst 1, 1) := by decide +kernel
theorem dX5_filter_24 : decode cX5_filter 24 = .ok (.if_icmp .lt 10, 3) := by decide +kernel
theorem dX5_filter_27 : decode cX5_filter 27 = .ok (.iload 4, 2) := by decide +kernel
theorem dX5_filter_29 : decode cX5_filter 29 = .ok (.bipush 32, 2) := by decide +kernel
theorem dX5_filter_31 : decode cX5_filter 31 = .ok (.if_icmp .le 13, 3) := by decide +kernel
theorem dX5_filter_34 : decode cX5_filter 34 = .ok (.new 47, 3) := by decide +kernel
theorem dX5_filter_37 : decode cX5_filter 37 = .ok (.dup, 1) := by decide +kernel
theorem dX5_filter_38 : decode cX5_filter 38 = .ok (.ldc 155, 2) := by decide +kernel
theorem dX5_filter_40 : decode cX5_filter 40 = .ok (.invokespecial 51, 3) := by decide +kernel
theorem dX5_filter_43 : decode cX5_filter 43 = .ok (.athrow, 1) := by decide +kernel
theorem dX5_filter_44 : decode cX5_filter 44 = .ok (.aload 6, 2) := by decide +kernel
theorem dX5_filter_46 : decode cX5_filter 46 = .ok (.aload 7, 2) := by decide +kernel
theorem dX5_filter_48 : decode cX5_filter 48 = .ok (.bipush (-99), 2) := by decide +kernel
theorem dX5_filter_50 : decode cX5_filter 50 = .ok (.bipush 99, 2) := by decide +kernel
theorem dX5_filter_52 : decode cX5_filter 52 = .ok (.invokestatic 157, 3) := by decide +kernel
theorem dX5_filter_55 : decode cX5_filter 55 = .ok (.aload 6, 2) := by decide +kernel
theorem dX5_filter_57 : decode cX5_filter 57 = .ok (.invokevirtual 63, 3) := by decide +kernel
theorem dX5_filter_60 : decode cX5_filter 60 = .ok (.aload 7, 2) := by decide +kernel
theorem dX5_filter_62 : decode cX5_filter 62 = .ok (.invokevirtual 63, 3) := by decide +kernel
theorem dX5_filter_65 : decode cX5_filter 65 = .ok (.iadd, 1) := by decide +kernel
theorem dX5_filter_66 : decode cX5_filter 66 = .ok (.iconst 1, 1) := by decide +kernel
theorem dX5_filter_67 : decode cX5_filter 67 = .ok (.isub, 1) := by decide +kernel
theorem dX5_filter_68 : decode cX5_filter 68 = .ok (.istore 9, 2) := by decide +kernel
theorem dX5_filter_70 : decode cX5_filter 70 = .ok (.aload 6, 2) := by decide +kernel
theorem dX5_filter_72 : decode cX5_filter 72 = .ok (.aload 7, 2) := by decide +kernel
theorem dX5_filter_74 : decode cX5_filter 74 = .ok (.iload 9, 2) := by decide +kernel
theorem dX5_filter_76 : decode cX5_filter 76 = .ok (.invokestatic 161, 3) := by decide +kernel
theorem dX5_filter_79 : decode cX5_filter 79 = .ok (.iload 5, 2) := by decide +kernel
theorem dX5_filter_81 : decode cX5_filter 81 = .ok (.ifCond .eq 19, 3) := by decide +kernel
theorem dX5_filter_84 : decode cX5_filter 84 = .ok (.aload_n 0, 1) := by decide +kernel
theorem dX5_filter_85 : decode cX5_filter 85 = .ok (.getfield 31, 3) := by decide +kernel
theorem dX5_filter_88 : decode cX5_filter 88 = .ok (.aload 6, 2) := by decide +kernel
theorem dX5_filter_90 : decode cX5_filter 90 = .ok (.aload 7, 2) := by decide +kernel
theorem dX5_filter_92 : decode cX5_filter 92 = .ok (.iload 4, 2) := by decide +kernel
theorem dX5_filter_94 : decode cX5_filter 94 = .ok (.invokevirtual 165, 3) := by decide +kernel
theorem dX5_filter_97 : decode cX5_filter 97 = .ok (.goto 16, 3) := by decide +kernel
theorem dX5_filter_100 : decode cX5_filter 100 = .ok (.aload_n 0, 1) := by decide +kernel
theorem dX5_filter_101 : decode cX5_filter 101 = .ok (.getfield 31, 3) := by decide +kernel
theorem dX5_filter_104 : decode cX5_filter 104 = .ok (.aload 6, 2) := by decide +kernel
theorem dX5_filter_106 : decode cX5_filter 106 = .ok (.aload 7, 2) := by decide +kernel
theorem dX5_filter_108 : decode cX5_filter 108 = .ok (.iload 4, 2) := by decide +kernel
theorem dX5_filter_110 : decode cX5_filter 110 = .ok (.invokevirtual 168, 3) := by decide +kernel
theorem dX5_filter_113 : decode cX5_filter 113 = .ok (.aload 8, 2) := by decide +kernel
theorem dX5_filter_115 : decode cX5_filter 115 = .ok (.aload_n 0, 1) := by decide +kernel
theorem dX5_filter_116 : decode cX5_filter 116 = .ok (.getfield 31, 3) := by decide +kernel
theorem dX5_filter_119 : decode cX5_filter 119 = .ok (.invokevirtual 171, 3) := by decide +kernel
theorem dX5_filter_122 : decode cX5_filter 122 = .ok (.iload 9, 2) := by decide +kernel
theorem dX5_filter_124 : decode cX5_filter 124 = .ok (.invokevirtual 147, 3) := by decide +kernel
theorem dX5_filter_127 : decode cX5_filter 127 = .ok (.aload 8, 2) := by decide +kernel
theorem dX5_filter_129 : decode cX5_filter 129 = .ok (.invokevirtual 63, 3) := by decide +kernel
theorem dX5_filter_132 : decode cX5_filter 132 = .ok (.ireturn, 1) := by decide +kernel
set_option maxRecDepth 20000 in
theorem ggX5_multiply_X5_rowOf : GoodIn wsX5_multiply wsX5_rowOf := goodIn_ca (goodIn_r _ [6, 7, 8, 9, 62, 63, 64, 65, 66, 67, 68] (by decide +kernel) (by decide +kernel)) (goodIn_sub (fun _ h => List.mem_cons_of_mem _ (List.mem_append_left _ (List.mem_append_left _ (List.mem_append_right _ h)))) (by decide +kernel))
set_option maxRecDepth 20000 in
theorem gX5_multiply_X5_rowOf : GoodIn wsX5_multiply (wsV RX5 43 RX5 yX5_rowOf wsX5_rowOf) := goodIn_app (goodIn_of _ (by decide +kernel)) ggX5_multiply_X5_rowOf
set_option maxRecDepth 20000 in
theorem ggX5_multiply_X5_requireEntriesWithin : GoodIn wsX5_multiply wsX5_requireEntriesWithin := goodIn_ca (goodIn_r _ [12, 13, 14, 15, 16, 17, 18, 19, 20, 21, 69, 70] (by decide +kernel) (by decide +kernel)) (goodIn_sub (fun _ h => List.mem_cons_of_mem _ (List.mem_append_left _ (List.mem_append_right _ h))) (by decide +kernel))
set_option maxRecDepth 20000 in
theorem gX5_multiply_X5_requireEntriesWithin : GoodIn wsX5_multiply (va_wsS RX5 157 yX5_requireEntriesWithin wsX5_requireEntriesWithin) := goodIn_app (goodIn_of _ (by decide +kernel)) ggX5_multiply_X5_requireEntriesWithin
set_option maxRecDepth 20000 in
theorem ggX5_multiply_X3_count : GoodIn wsX5_multiply wsX3_count := goodIn_r _ [25, 20, 69, 70] (by decide +kernel) (by decide +kernel)
set_option maxRecDepth 20000 in
theorem gX5_multiply_X3_count : GoodIn wsX5_multiply (wsV RX5 63 RX3 yX3_count wsX3_count) := goodIn_app (goodIn_of _ (by decide +kernel)) ggX5_multiply_X3_count
set_option maxRecDepth 20000 in
theorem ggX5_multiply_X5_requireFilledWithin : GoodIn wsX5_multiply wsX5_requireFilledWithin := goodIn_ca (goodIn_r _ [28, 29, 30, 22, 23, 24, 18, 25, 20, 69, 70] (by decide +kernel) (by decide +kernel)) (goodIn_sub (fun _ h => List.mem_cons_of_mem _ (List.mem_append_right _ h)) (by decide +kernel))
set_option maxRecDepth 20000 in
theorem gX5_multiply_X5_requireFilledWithin : GoodIn wsX5_multiply (va_wsS RX5 161 yX5_requireFilledWithin wsX5_requireFilledWithin) := goodIn_app (goodIn_of _ (by decide +kernel)) ggX5_multiply_X5_requireFilledWithin
set_option maxRecDepth 20000 in
theorem ggX5_multiply_X0_product : GoodIn wsX5_multiply wsX0_product := goodIn_r _ [35, 36, 37, 38, 39, 40, 41, 23, 24, 18, 25, 20, 42, 43, 44, 34, 45, 46, 47, 48, 49, 21, 71, 72, 69, 70] (by decide +kernel) (by decide +kernel)
set_option maxRecDepth 20000 in
theorem gX5_multiply_X0_product : GoodIn wsX5_multiply (wsV RX5 175 RX0 yX0_product wsX0_product) := goodIn_app (goodIn_of _ (by decide +kernel)) ggX5_multiply_X0_product
set_option maxRecDepth 20000 in
theorem ggX5_multiply_X0_results : GoodIn wsX5_multiply wsX0_results := goodIn_r _ [53, 36, 71, 72] (by decide +kernel) (by decide +kernel)
set_option maxRecDepth 20000 in
theorem gX5_multiply_X0_results : GoodIn wsX5_multiply (wsV RX5 171 RX0 yX0_results wsX0_results) := goodIn_app (goodIn_of _ (by decide +kernel)) ggX5_multiply_X0_results
set_option maxRecDepth 20000 in
theorem ggX5_multiply_X3_take : GoodIn wsX5_multiply wsX3_take := goodIn_r _ [57, 58, 59, 60, 61, 20, 21, 69, 70] (by decide +kernel) (by decide +kernel)
set_option maxRecDepth 20000 in
theorem gX5_multiply_X3_take : GoodIn wsX5_multiply (wsV RX5 147 RX3 yX3_take wsX3_take) := goodIn_app (goodIn_of _ (by decide +kernel)) ggX5_multiply_X3_take
theorem dX5_multiply_0 : decode cX5_multiply 0 = .ok (.aload_n 0, 1) := by decide +kernel
theorem dX5_multiply_1 : decode cX5_multiply 1 = .ok (.iload_n 1, 1) := by decide +kernel
theorem dX5_multiply_2 : decode cX5_multiply 2 = .ok (.invokevirtual 43, 3) := by decide +kernel
theorem dX5_multiply_5 : decode cX5_multiply 5 = .ok (.astore 4, 2) := by decide +kernel
theorem dX5_multiply_7 : decode cX5_multiply 7 = .ok (.aload_n 0, 1) := by decide +kernel
theorem dX5_multiply_8 : decode cX5_multiply 8 = .ok (.iload_n 2, 1) := by decide +kernel
theorem dX5_multiply_9 : decode cX5_multiply 9 = .ok (.invokevirtual 43, 3) := by decide +kernel
theorem dX5_multiply_12 : decode cX5_multiply 12 = .ok (.astore 5, 2) := by decide +kernel
theorem dX5_multiply_14 : decode cX5_multiply 14 = .ok (.aload_n 0, 1) := by decide +kernel
theorem dX5_multiply_15 : decode cX5_multiply 15 = .ok (.iload_n 3, 1) := by decide +kernel
theorem dX5_multiply_16 : decode cX5_multiply 16 = .ok (.invokevirtual 43, 3) := by decide +kernel
theorem dX5_multiply_19 : decode cX5_multiply 19 = .ok (.astore 6, 2) := by decide +kernel
theorem dX5_multiply_21 : decode cX5_multiply 21 = .ok (.aload 4, 2) := by decide +kernel
theorem dX5_multiply_23 : decode cX5_multiply 23 = .ok (.aload 5, 2) := by decide +kernel
theorem dX5_multiply_25 : decode cX5_multiply 25 = .ok (.iconst 0, 1) := by decide +kernel
theorem dX5_multiply_26 : decode cX5_multiply 26 = .ok (.bipush 9, 2) := by decide +kernel
theorem dX5_multiply_28 : decode cX5_multiply 28 = .ok (.invokestatic 157, 3) := by decide +kernel
theorem dX5_multiply_31 : decode cX5_multiply 31 = .ok (.aload 4, 2) := by decide +kernel
theorem dX5_multiply_33 : decode cX5_multiply 33 = .ok (.aload 5, 2) := by decide +kernel
theorem dX5_multiply_35 : decode cX5_multiply 35 = .ok (.aload 4, 2) := by decide +kernel
theorem dX5_multiply_37 : decode cX5_multiply 37 = .ok (.invokevirtual 63, 3) := by decide +kernel
theorem dX5_multiply_40 : decode cX5_multiply 40 = .ok (.aload 5, 2) := by decide +kernel
theorem dX5_multiply_42 : decode cX5_multiply 42 = .ok (.invokevirtual 63, 3) := by decide +kernel
theorem dX5_multiply_45 : decode cX5_multiply 45 = .ok (.iadd, 1) := by decide +kernel
theorem dX5_multiply_46 : decode cX5_multiply 46 = .ok (.invokestatic 161, 3) := by decide +kernel
theorem dX5_multiply_49 : decode cX5_multiply 49 = .ok (.aload_n 0, 1) := by decide +kernel
theorem dX5_multiply_50 : decode cX5_multiply 50 = .ok (.getfield 31, 3) := by decide +kernel
theorem dX5_multiply_53 : decode cX5_multiply 53 = .ok (.aload 4, 2) := by decide +kernel
theorem dX5_multiply_55 : decode cX5_multiply 55 = .ok (.aload 5, 2) := by decide +kernel
theorem dX5_multiply_57 : decode cX5_multiply 57 = .ok (.invokevirtual 175, 3) := by decide +kernel
theorem dX5_multiply_60 : decode cX5_multiply 60 = .ok (.istore 7, 2) := by decide +kernel
theorem dX5_multiply_62 : decode cX5_multiply 62 = .ok (.aload 6, 2) := by decide +kernel
theorem dX5_multiply_64 : decode cX5_multiply 64 = .ok (.aload_n 0, 1) := by decide +kernel
theorem dX5_multiply_65 : decode cX5_multiply 65 = .ok (.getfield 31, 3) := by decide +kernel
theorem dX5_multiply_68 : decode cX5_multiply 68 = .ok (.invokevirtual 171, 3) := by decide +kernel
theorem dX5_multiply_71 : decode cX5_multiply 71 = .ok (.iload 7, 2) := by decide +kernel
theorem dX5_multiply_73 : decode cX5_multiply 73 = .ok (.invokevirtual 147, 3) := by decide +kernel
theorem dX5_multiply_76 : decode cX5_multiply 76 = .ok (.aload 6, 2) := by decide +kernel
theorem dX5_multiply_78 : decode cX5_multiply 78 = .ok (.invokevirtual 63, 3) := by decide +kernel
theorem dX5_multiply_81 : decode cX5_multiply 81 = .ok (.ireturn, 1) := by decide +kernel
theorem dX5_rowOf_0 : decode cX5_rowOf 0 = .ok (.iload_n 1, 1) := by decide +kernel
theorem dX5_rowOf_1 : decode cX5_rowOf 1 = .ok (.ifCond .lt 8, 3) := by decide +kernel
theorem dX5_rowOf_4 : decode cX5_rowOf 4 = .ok (.iload_n 1, 1) := by decide +kernel
theorem dX5_rowOf_5 : decode cX5_rowOf 5 = .ok (.iconst 4, 1) := by decide +kernel
theorem dX5_rowOf_6 : decode cX5_rowOf 6 = .ok (.if_icmp .lt 13, 3) := by decide +kernel
theorem dX5_rowOf_9 : decode cX5_rowOf 9 = .ok (.new 179, 3) := by decide +kernel
theorem dX5_rowOf_12 : decode cX5_rowOf 12 = .ok (.dup, 1) := by decide +kernel
theorem dX5_rowOf_13 : decode cX5_rowOf 13 = .ok (.ldc 181, 2) := by decide +kernel
theorem dX5_rowOf_15 : decode cX5_rowOf 15 = .ok (.invokespecial 183, 3) := by decide +kernel
theorem dX5_rowOf_18 : decode cX5_rowOf 18 = .ok (.athrow, 1) := by decide +kernel
theorem dX5_rowOf_19 : decode cX5_rowOf 19 = .ok (.aload_n 0, 1) := by decide +kernel
theorem dX5_rowOf_20 : decode cX5_rowOf 20 = .ok (.getfield 11, 3) := by decide +kernel
theorem dX5_rowOf_23 : decode cX5_rowOf 23 = .ok (.iload_n 1, 1) := by decide +kernel
theorem dX5_rowOf_24 : decode cX5_rowOf 24 = .ok (.aaload, 1) := by decide +kernel
theorem dX5_rowOf_25 : decode cX5_rowOf 25 = .ok (.areturn, 1) := by decide +kernel
theorem dX5_planOf_0 : decode cX5_planOf 0 = .ok (.iload_n 1, 1) := by decide +kernel
theorem dX5_planOf_1 : decode cX5_planOf 1 = .ok (.ifCond .lt 11, 3) := by decide +kernel
theorem dX5_planOf_4 : decode cX5_planOf 4 = .ok (.iload_n 1, 1) := by decide +kernel
theorem dX5_planOf_5 : decode cX5_planOf 5 = .ok (.aload_n 0, 1) := by decide +kernel
theorem dX5_planOf_6 : decode cX5_planOf 6 = .ok (.getfield 91, 3) := by decide +kernel
theorem dX5_planOf_9 : decode cX5_planOf 9 = .ok (.if_icmp .lt 7, 3) := by decide +kernel
theorem dX5_planOf_12 : decode cX5_planOf 12 = .ok (.aconst_null, 1) := by decide +kernel
theorem dX5_planOf_13 : decode cX5_planOf 13 = .ok (.goto 9, 3) := by decide +kernel
theorem dX5_planOf_16 : decode cX5_planOf 16 = .ok (.aload_n 0, 1) := by decide +kernel
theorem dX5_planOf_17 : decode cX5_planOf 17 = .ok (.getfield 17, 3) := by decide +kernel
theorem dX5_planOf_20 : decode cX5_planOf 20 = .ok (.iload_n 1, 1) := by decide +kernel
theorem dX5_planOf_21 : decode cX5_planOf 21 = .ok (.aaload, 1) := by decide +kernel
theorem dX5_planOf_22 : decode cX5_planOf 22 = .ok (.astore_n 2, 1) := by decide +kernel
theorem dX5_planOf_23 : decode cX5_planOf 23 = .ok (.aload_n 2, 1) := by decide +kernel
theorem dX5_planOf_24 : decode cX5_planOf 24 = .ok (.ifnonnull 13, 3) := by decide +kernel
theorem dX5_planOf_27 : decode cX5_planOf 27 = .ok (.new 179, 3) := by decide +kernel
theorem dX5_planOf_30 : decode cX5_planOf 30 = .ok (.dup, 1) := by decide +kernel
theorem dX5_planOf_31 : decode cX5_planOf 31 = .ok (.ldc 184, 2) := by decide +kernel
theorem dX5_planOf_33 : decode cX5_planOf 33 = .ok (.invokespecial 183, 3) := by decide +kernel
theorem dX5_planOf_36 : decode cX5_planOf 36 = .ok (.athrow, 1) := by decide +kernel
theorem dX5_planOf_37 : decode cX5_planOf 37 = .ok (.aload_n 2, 1) := by decide +kernel
theorem dX5_planOf_38 : decode cX5_planOf 38 = .ok (.areturn, 1) := by decide +kernel
theorem dX5_requireEntry_0 : decode cX5_requireEntry 0 = .ok (.iload_n 0, 1) := by decide +kernel
theorem dX5_requireEntry_1 : decode cX5_requireEntry 1 = .ok (.ifCond .lt 8, 3) := by decide +kernel
theorem dX5_requireEntry_4 : decode cX5_requireEntry 4 = .ok (.iload_n 0, 1) := by decide +kernel
theorem dX5_requireEntry_5 : decode cX5_requireEntry 5 = .ok (.iload_n 1, 1) := by decide +kernel
theorem dX5_requireEntry_6 : decode cX5_requireEntry 6 = .ok (.if_icmp .lt 13, 3) := by decide +kernel
theorem dX5_requireEntry_9 : decode cX5_requireEntry 9 = .ok (.new 179, 3) := by decide +kernel
theorem dX5_requireEntry_12 : decode cX5_requireEntry 12 = .ok (.dup, 1) := by decide +kernel
theorem dX5_requireEntry_13 : decode cX5_requireEntry 13 = .ok (.ldc 186, 2) := by decide +kernel
theorem dX5_requireEntry_15 : decode cX5_requireEntry 15 = .ok (.invokespecial 183, 3) := by decide +kernel
theorem dX5_requireEntry_18 : decode cX5_requireEntry 18 = .ok (.athrow, 1) := by decide +kernel
theorem dX5_requireEntry_19 : decode cX5_requireEntry 19 = .ok (.return_, 1) := by decide +kernel
set_option maxRecDepth 20000 in
theorem ggX5_requireFit_X3_count : GoodIn wsX5_requireFit wsX3_count := goodIn_r _ [7, 8, 15, 16] (by decide +kernel) (by decide +kernel)
set_option maxRecDepth 20000 in
theorem gX5_requireFit_X3_count : GoodIn wsX5_requireFit (wsV RX5 63 RX3 yX3_count wsX3_count) := goodIn_app (goodIn_of _ (by decide +kernel)) ggX5_requireFit_X3_count
set_option maxRecDepth 20000 in
theorem ggX5_requireFit_X2_size : GoodIn wsX5_requireFit wsX2_size := goodIn_r _ [13, 14, 17, 18, 19, 20, 21, 22] (by decide +kernel) (by decide +kernel)
set_option maxRecDepth 20000 in
theorem gX5_requireFit_X2_size : GoodIn wsX5_requireFit (wsV RX5 113 RX2 yX2_size wsX2_size) := goodIn_app (goodIn_of _ (by decide +kernel)) ggX5_requireFit_X2_size
theorem dX5_requireFit_0 : decode cX5_requireFit 0 = .ok (.aload_n 1, 1) := by decide +kernel
theorem dX5_requireFit_1 : decode cX5_requireFit 1 = .ok (.invokevirtual 63, 3) := by decide +kernel
theorem dX5_requireFit_4 : decode cX5_requireFit 4 = .ok (.aload_n 0, 1) := by decide +kernel
theorem dX5_requireFit_5 : decode cX5_requireFit 5 = .ok (.invokevirtual 113, 3) := by decide +kernel
theorem dX5_requireFit_8 : decode cX5_requireFit 8 = .ok (.if_icmp .le 13, 3) := by decide +kernel
theorem dX5_requireFit_11 : decode cX5_requireFit 11 = .ok (.new 58, 3) := by decide +kernel
theorem dX5_requireFit_14 : decode cX5_requireFit 14 = .ok (.dup, 1) := by decide +kernel
theorem dX5_requireFit_15 : decode cX5_requireFit 15 = .ok (.ldc 188, 2) := by decide +kernel
theorem dX5_requireFit_17 : decode cX5_requireFit 17 = .ok (.invokespecial 62, 3) := by decide +kernel
theorem dX5_requireFit_20 : decode cX5_requireFit 20 = .ok (.athrow, 1) := by decide +kernel
theorem dX5_requireFit_21 : decode cX5_requireFit 21 = .ok (.return_, 1) := by decide +kernel
set_option maxRecDepth 20000 in
theorem ggX5_requireEntriesWithin_X3_isWithin : GoodIn wsX5_requireEntriesWithin wsX3_isWithin := goodIn_r _ [7, 8, 9, 10, 11] (by decide +kernel) (by decide +kernel)
set_option maxRecDepth 20000 in
theorem gX5_requireEntriesWithin_X3_isWithin : GoodIn wsX5_requireEntriesWithin (wsV RX5 190 RX3 yX3_isWithin wsX3_isWithin) := goodIn_app (goodIn_of _ (by decide +kernel)) ggX5_requireEntriesWithin_X3_isWithin
theorem dX5_requireEntriesWithin_0 : decode cX5_requireEntriesWithin 0 = .ok (.aload_n 0, 1) := by decide +kernel
theorem dX5_requireEntriesWithin_1 : decode cX5_requireEntriesWithin 1 = .ok (.iload_n 2, 1) := by decide +kernel
theorem dX5_requireEntriesWithin_2 : decode cX5_requireEntriesWithin 2 = .ok (.iload_n 3, 1) := by decide +kernel
theorem dX5_requireEntriesWithin_3 : decode cX5_requireEntriesWithin 3 = .ok (.invokevirtual 190, 3) := by decide +kernel
theorem dX5_requireEntriesWithin_6 : decode cX5_requireEntriesWithin 6 = .ok (.ifCond .eq 12, 3) := by decide +kernel
theorem dX5_requireEntriesWithin_9 : decode cX5_requireEntriesWithin 9 = .ok (.aload_n 1, 1) := by decide +kernel
theorem dX5_requireEntriesWithin_10 : decode cX5_requireEntriesWithin 10 = .ok (.iload_n 2, 1) := by decide +kernel
theorem dX5_requireEntriesWithin_11 : decode cX5_requireEntriesWithin 11 = .ok (.iload_n 3, 1) := by decide +kernel
theorem dX5_requireEntriesWithin_12 : decode cX5_requireEntriesWithin 12 = .ok (.invokevirtual 190, 3) := by decide +kernel
theorem dX5_requireEntriesWithin_15 : decode cX5_requireEntriesWithin 15 = .ok (.ifCond .ne 13, 3) := by decide +kernel
theorem dX5_requireEntriesWithin_18 : decode cX5_requireEntriesWithin 18 = .ok (.new 47, 3) := by decide +kernel
theorem dX5_requireEntriesWithin_21 : decode cX5_requireEntriesWithin 21 = .ok (.dup, 1) := by decide +kernel
theorem dX5_requireEntriesWithin_22 : decode cX5_requireEntriesWithin 22 = .ok (.ldc 194, 2) := by decide +kernel
theorem dX5_requireEntriesWithin_24 : decode cX5_requireEntriesWithin 24 = .ok (.invokespecial 51, 3) := by decide +kernel
theorem dX5_requireEntriesWithin_27 : decode cX5_requireEntriesWithin 27 = .ok (.athrow, 1) := by decide +kernel
theorem dX5_requireEntriesWithin_28 : decode cX5_requireEntriesWithin 28 = .ok (.return_, 1) := by decide +kernel
set_option maxRecDepth 20000 in
theorem ggX5_requireFilledWithin_X3_count : GoodIn wsX5_requireFilledWithin wsX3_count := goodIn_r _ [7, 8, 9, 10] (by decide +kernel) (by decide +kernel)
set_option maxRecDepth 20000 in
theorem gX5_requireFilledWithin_X3_count : GoodIn wsX5_requireFilledWithin (wsV RX5 63 RX3 yX3_count wsX3_count) := goodIn_app (goodIn_of _ (by decide +kernel)) ggX5_requireFilledWithin_X3_count
theorem dX5_requireFilledWithin_0 : decode cX5_requireFilledWithin 0 = .ok (.aload_n 0, 1) := by decide +kernel
theorem dX5_requireFilledWithin_1 : decode cX5_requireFilledWithin 1 = .ok (.invokevirtual 63, 3) := by decide +kernel
theorem dX5_requireFilledWithin_4 : decode cX5_requireFilledWithin 4 = .ok (.ifCond .eq 10, 3) := by decide +kernel
theorem dX5_requireFilledWithin_7 : decode cX5_requireFilledWithin 7 = .ok (.aload_n 1, 1) := by decide +kernel
theorem dX5_requireFilledWithin_8 : decode cX5_requireFilledWithin 8 = .ok (.invokevirtual 63, 3) := by decide +kernel
theorem dX5_requireFilledWithin_11 : decode cX5_requireFilledWithin 11 = .ok (.ifCond .ne 13, 3) := by decide +kernel
theorem dX5_requireFilledWithin_14 : decode cX5_requireFilledWithin 14 = .ok (.new 58, 3) := by decide +kernel
theorem dX5_requireFilledWithin_17 : decode cX5_requireFilledWithin 17 = .ok (.dup, 1) := by decide +kernel
theorem dX5_requireFilledWithin_18 : decode cX5_requireFilledWithin 18 = .ok (.ldc 196, 2) := by decide +kernel
theorem dX5_requireFilledWithin_20 : decode cX5_requireFilledWithin 20 = .ok (.invokespecial 62, 3) := by decide +kernel
theorem dX5_requireFilledWithin_23 : decode cX5_requireFilledWithin 23 = .ok (.athrow, 1) := by decide +kernel
theorem dX5_requireFilledWithin_24 : decode cX5_requireFilledWithin 24 = .ok (.iload_n 2, 1) := by decide +kernel
theorem dX5_requireFilledWithin_25 : decode cX5_requireFilledWithin 25 = .ok (.bipush 64, 2) := by decide +kernel
theorem dX5_requireFilledWithin_27 : decode cX5_requireFilledWithin 27 = .ok (.if_icmp .le 13, 3) := by decide +kernel
theorem dX5_requireFilledWithin_30 : decode cX5_requireFilledWithin 30 = .ok (.new 58, 3) := by decide +kernel
theorem dX5_requireFilledWithin_33 : decode cX5_requireFilledWithin 33 = .ok (.dup, 1) := by decide +kernel
theorem dX5_requireFilledWithin_34 : decode cX5_requireFilledWithin 34 = .ok (.ldc 198, 2) := by decide +kernel
theorem dX5_requireFilledWithin_36 : decode cX5_requireFilledWithin 36 = .ok (.invokespecial 62, 3) := by decide +kernel
theorem dX5_requireFilledWithin_39 : decode cX5_requireFilledWithin 39 = .ok (.athrow, 1) := by decide +kernel
theorem dX5_requireFilledWithin_40 : decode cX5_requireFilledWithin 40 = .ok (.return_, 1) := by decide +kernel
set_option maxRecDepth 20000 in
theorem ggX5_loadPair_X5_requireFit : GoodIn wsX5_loadPair wsX5_requireFit := goodIn_ca (goodIn_r _ [6, 7, 8, 9, 10, 11, 12, 13, 14, 15, 16, 17, 18, 19, 20, 47, 48, 49, 50, 51, 52, 53, 54] (by decide +kernel) (by decide +kernel)) (goodIn_sub (fun _ h => List.mem_cons_of_mem _ (List.mem_append_right _ h)) (by decide +kernel))
set_option maxRecDepth 20000 in
theorem gX5_loadPair_X5_requireFit : GoodIn wsX5_loadPair (va_wsS RX5 116 yX5_requireFit wsX5_requireFit) := goodIn_app (goodIn_of _ (by decide +kernel)) ggX5_loadPair_X5_requireFit
set_option maxRecDepth 20000 in
theorem ggX5_loadPair_X3_loadRemainders : GoodIn wsX5_loadPair wsX3_loadRemainders := goodIn_r _ [24, 25, 16, 17, 18, 19, 20, 26, 27, 28, 12, 29, 14, 30, 31, 32, 33, 34, 35, 36, 37, 38, 39, 49, 50, 51, 52, 53, 54, 47, 48] (by decide +kernel) (by decide +kernel)
set_option maxRecDepth 20000 in
theorem gX5_loadPair_X3_loadRemainders : GoodIn wsX5_loadPair (wsV RX5 120 RX3 yX3_loadRemainders wsX3_loadRemainders) := goodIn_app (goodIn_of _ (by decide +kernel)) ggX5_loadPair_X3_loadRemainders
theorem dX5_loadPair_0 : decode cX5_loadPair 0 = .ok (.aload_n 1, 1) := by decide +kernel
theorem dX5_loadPair_1 : decode cX5_loadPair 1 = .ok (.aload_n 2, 1) := by decide +kernel
theorem dX5_loadPair_2 : decode cX5_loadPair 2 = .ok (.invokestatic 116, 3) := by decide +kernel
theorem dX5_loadPair_5 : decode cX5_loadPair 5 = .ok (.aload_n 1, 1) := by decide +kernel
theorem dX5_loadPair_6 : decode cX5_loadPair 6 = .ok (.aload_n 3, 1) := by decide +kernel
theorem dX5_loadPair_7 : decode cX5_loadPair 7 = .ok (.invokestatic 116, 3) := by decide +kernel
theorem dX5_loadPair_10 : decode cX5_loadPair 10 = .ok (.aload_n 2, 1) := by decide +kernel
theorem dX5_loadPair_11 : decode cX5_loadPair 11 = .ok (.aload_n 1, 1) := by decide +kernel
theorem dX5_loadPair_12 : decode cX5_loadPair 12 = .ok (.aload_n 0, 1) := by decide +kernel
theorem dX5_loadPair_13 : decode cX5_loadPair 13 = .ok (.getfield 35, 3) := by decide +kernel
theorem dX5_loadPair_16 : decode cX5_loadPair 16 = .ok (.invokevirtual 120, 3) := by decide +kernel
theorem dX5_loadPair_19 : decode cX5_loadPair 19 = .ok (.aload_n 3, 1) := by decide +kernel
theorem dX5_loadPair_20 : decode cX5_loadPair 20 = .ok (.aload_n 1, 1) := by decide +kernel
theorem dX5_loadPair_21 : decode cX5_loadPair 21 = .ok (.aload_n 0, 1) := by decide +kernel
theorem dX5_loadPair_22 : decode cX5_loadPair 22 = .ok (.getfield 39, 3) := by decide +kernel
theorem dX5_loadPair_25 : decode cX5_loadPair 25 = .ok (.invokevirtual 120, 3) := by decide +kernel
theorem dX5_loadPair_28 : decode cX5_loadPair 28 = .ok (.return_, 1) := by decide +kernel
set_option maxRecDepth 20000 in
theorem ggX5_transformRow_X2_hasWay : GoodIn wsX5_transformRow wsX2_hasWay := goodIn_r _ [9, 10, 148, 149, 150, 151, 152, 153] (by decide +kernel) (by decide +kernel)
set_option maxRecDepth 20000 in
theorem gX5_transformRow_X2_hasWay : GoodIn wsX5_transformRow (wsV RX5 200 RX2 yX2_hasWay wsX2_hasWay) := goodIn_app (goodIn_of _ (by decide +kernel)) ggX5_transformRow_X2_hasWay
set_option maxRecDepth 20000 in
theorem ggX5_transformRow_X5_requireFit : GoodIn wsX5_transformRow wsX5_requireFit := goodIn_ca (goodIn_r _ [14, 15, 16, 17, 18, 19, 20, 21, 22, 23, 24, 25, 8, 26, 27, 154, 155, 148, 149, 150, 151, 152, 153] (by decide +kernel) (by decide +kernel)) (goodIn_sub (fun _ h => List.mem_cons_of_mem _ (List.mem_append_right _ h)) (by decide +kernel))
set_option maxRecDepth 20000 in
theorem gX5_transformRow_X5_requireFit : GoodIn wsX5_transformRow (va_wsS RX5 116 yX5_requireFit wsX5_requireFit) := goodIn_app (goodIn_of _ (by decide +kernel)) ggX5_transformRow_X5_requireFit
set_option maxRecDepth 20000 in
theorem ggX5_transformRow_X3_loadRemainders : GoodIn wsX5_transformRow wsX3_loadRemainders := goodIn_r _ [31, 32, 24, 25, 8, 26, 27, 33, 34, 35, 20, 36, 22, 37, 38, 39, 40, 41, 42, 43, 44, 45, 46, 148, 149, 150, 151, 152, 153, 154, 155] (by decide +kernel) (by decide +kernel)
set_option maxRecDepth 20000 in
theorem gX5_transformRow_X3_loadRemainders : GoodIn wsX5_transformRow (wsV RX5 120 RX3 yX3_loadRemainders wsX3_loadRemainders) := goodIn_app (goodIn_of _ (by decide +kernel)) ggX5_transformRow_X3_loadRemainders
set_option maxRecDepth 20000 in
theorem ggX5_transformRow_X2_backTurn : GoodIn wsX5_transformRow wsX2_backTurn := goodIn_r _ [50, 27, 148, 149, 150, 151, 152, 153] (by decide +kernel) (by decide +kernel)
set_option maxRecDepth 20000 in
theorem gX5_transformRow_X2_backTurn : GoodIn wsX5_transformRow (wsV RX5 140 RX2 yX2_backTurn wsX2_backTurn) := goodIn_app (goodIn_of _ (by decide +kernel)) ggX5_transformRow_X2_backTurn
set_option maxRecDepth 20000 in
theorem ggX5_transformRow_X4_bySums : GoodIn wsX5_transformRow wsX4_bySums := goodIn_r _ [55, 56, 57, 24, 25, 8, 26, 27, 58, 59, 54, 60, 61, 62, 63, 64, 65, 43, 44, 45, 46, 66, 39, 40, 41, 42, 67, 68, 69, 70, 156, 157, 158, 159, 160, 148, 149, 150, 151, 152, 153] (by decide +kernel) (by decide +kernel)
set_option maxRecDepth 20000 in
theorem gX5_transformRow_X4_bySums : GoodIn wsX5_transformRow (wsV RX5 205 RX4 yX4_bySums wsX4_bySums) := goodIn_app (goodIn_of _ (by decide +kernel)) ggX5_transformRow_X4_bySums
set_option maxRecDepth 20000 in
theorem ggX5_transformRow_X2_size : GoodIn wsX5_transformRow wsX2_size := goodIn_r _ [26, 27, 148, 149, 150, 151, 152, 153] (by decide +kernel) (by decide +kernel)
set_option maxRecDepth 20000 in
theorem gX5_transformRow_X2_size : GoodIn wsX5_transformRow (wsV RX5 113 RX2 yX2_size wsX2_size) := goodIn_app (goodIn_of _ (by decide +kernel)) ggX5_transformRow_X2_size
set_option maxRecDepth 20000 in
theorem ggX5_transformRow_X4_byMixedRadices : GoodIn wsX5_transformRow wsX4_byMixedRadices := goodIn_r _ [74, 75, 76, 45, 77, 78, 79, 80, 81, 82, 83, 84, 54, 85, 56, 61, 62, 63, 8, 64, 65, 27, 43, 44, 46, 66, 39, 40, 41, 42, 67, 68, 69, 70, 156, 157, 158, 159, 160, 148, 149, 150, 151, 152, 153] (by decide +kernel) (by decide +kernel)
set_option maxRecDepth 20000 in
theorem gX5_transformRow_X4_byMixedRadices : GoodIn wsX5_transformRow (wsV RX5 132 RX4 yX4_byMixedRadices wsX4_byMixedRadices) := goodIn_app (goodIn_of _ (by decide +kernel)) ggX5_transformRow_X4_byMixedRadices
set_option maxRecDepth 20000 in
theorem ggX5_transformRow_X4_byGoodAndThomas : GoodIn wsX5_transformRow wsX4_byGoodAndThomas := goodIn_r _ [89, 90, 91, 57, 24, 25, 8, 26, 27, 92, 93, 45, 94, 95, 76, 77, 78, 79, 80, 81, 96, 44, 46, 97, 72, 73, 54, 74, 75, 82, 83, 84, 85, 56, 61, 62, 63, 64, 65, 43, 66, 39, 40, 41, 42, 67, 68, 69, 70, 156, 157, 158, 159, 160, 148, 149, 150, 151, 152, 153] (by decide +kernel) (by decide +kernel)
set_option maxRecDepth 20000 in
theorem gX5_transformRow_X4_byGoodAndThomas : GoodIn wsX5_transformRow (wsV RX5 209 RX4 yX4_byGoodAndThomas wsX4_byGoodAndThomas) := goodIn_app (goodIn_of _ (by decide +kernel)) ggX5_transformRow_X4_byGoodAndThomas
set_option maxRecDepth 20000 in
theorem ggX5_transformRow_X4_byRader : GoodIn wsX5_transformRow wsX4_byRader := goodIn_r _ [101, 90, 102, 103, 56, 57, 24, 25, 8, 26, 27, 104, 105, 106, 54, 107, 108, 109, 110, 111, 112, 96, 44, 45, 46, 113, 114, 115, 61, 62, 63, 64, 65, 43, 66, 39, 40, 41, 42, 116, 117, 118, 119, 67, 68, 69, 70, 156, 157, 158, 159, 160, 148, 149, 150, 151, 152, 153] (by decide +kernel) (by decide +kernel)
set_option maxRecDepth 20000 in
theorem gX5_transformRow_X4_byRader : GoodIn wsX5_transformRow (wsV RX5 212 RX4 yX4_byRader wsX4_byRader) := goodIn_app (goodIn_of _ (by decide +kernel)) ggX5_transformRow_X4_byRader
set_option maxRecDepth 20000 in
theorem ggX5_transformRow_X4_byBluestein : GoodIn wsX5_transformRow wsX4_byBluestein := goodIn_r _ [123, 103, 90, 56, 57, 24, 25, 8, 26, 27, 124, 125, 54, 126, 61, 62, 63, 64, 65, 43, 44, 45, 46, 66, 39, 40, 41, 42, 67, 68, 69, 70, 156, 157, 158, 159, 160, 148, 149, 150, 151, 152, 153] (by decide +kernel) (by decide +kernel)
set_option maxRecDepth 20000 in
theorem gX5_transformRow_X4_byBluestein : GoodIn wsX5_transformRow (wsV RX5 215 RX4 yX4_byBluestein wsX4_byBluestein) := goodIn_app (goodIn_of _ (by decide +kernel)) ggX5_transformRow_X4_byBluestein
set_option maxRecDepth 20000 in
theorem ggX5_transformRow_X2_divideBySize : GoodIn wsX5_transformRow wsX2_divideBySize := goodIn_r _ [130, 27, 131, 132, 39, 40, 8, 41, 42, 43, 44, 45, 46, 148, 149, 150, 151, 152, 153] (by decide +kernel) (by decide +kernel)
set_option maxRecDepth 20000 in
theorem gX5_transformRow_X2_divideBySize : GoodIn wsX5_transformRow (wsV RX5 143 RX2 yX2_divideBySize wsX2_divideBySize) := goodIn_app (goodIn_of _ (by decide +kernel)) ggX5_transformRow_X2_divideBySize
set_option maxRecDepth 20000 in
theorem ggX5_transformRow_X3_take : GoodIn wsX5_transformRow wsX3_take := goodIn_r _ [136, 137, 138, 80, 139, 22, 37, 154, 155] (by decide +kernel) (by decide +kernel)
set_option maxRecDepth 20000 in
theorem gX5_transformRow_X3_take : GoodIn wsX5_transformRow (wsV RX5 147 RX3 yX3_take wsX3_take) := goodIn_app (goodIn_of _ (by decide +kernel)) ggX5_transformRow_X3_take
set_option maxRecDepth 20000 in
theorem ggX5_transformRow_X3_entry : GoodIn wsX5_transformRow wsX3_entry := goodIn_r _ [36, 22, 37, 154, 155] (by decide +kernel) (by decide +kernel)
set_option maxRecDepth 20000 in
theorem gX5_transformRow_X3_entry : GoodIn wsX5_transformRow (wsV RX5 78 RX3 yX3_entry wsX3_entry) := goodIn_app (goodIn_of _ (by decide +kernel)) ggX5_transformRow_X3_entry
theorem dX5_transformRow_0 : decode cX5_transformRow 0 = .ok (.aload_n 1, 1) := by decide +kernel
theorem dX5_transformRow_1 : decode cX5_transformRow 1 = .ok (.iload_n 3, 1) := by decide +kernel
theorem dX5_transformRow_2 : decode cX5_transformRow 2 = .ok (.invokevirtual 200, 3) := by decide +kernel
theorem dX5_transformRow_5 : decode cX5_transformRow 5 = .ok (.ifCond .ne 13, 3) := by decide +kernel
theorem dX5_transformRow_8 : decode cX5_transformRow 8 = .ok (.new 47, 3) := by decide +kernel
theorem dX5_transformRow_11 : decode cX5_transformRow 11 = .ok (.dup, 1) := by decide +kernel
theorem dX5_transformRow_12 : decode cX5_transformRow 12 = .ok (.ldc 203, 2) := by decide +kernel
theorem dX5_transformRow_14 : decode cX5_transformRow 14 = .ok (.invokespecial 51, 3) := by decide +kernel
theorem dX5_transformRow_17 : decode cX5_transformRow 17 = .ok (.athrow, 1) := by decide +kernel
theorem dX5_transformRow_18 : decode cX5_transformRow 18 = .ok (.aload_n 1, 1) := by decide +kernel
theorem dX5_transformRow_19 : decode cX5_transformRow 19 = .ok (.aload_n 2, 1) := by decide +kernel
theorem dX5_transformRow_20 : decode cX5_transformRow 20 = .ok (.invokestatic 116, 3) := by decide +kernel
theorem dX5_transformRow_23 : decode cX5_transformRow 23 = .ok (.aload_n 2, 1) := by decide +kernel
theorem dX5_transformRow_24 : decode cX5_transformRow 24 = .ok (.aload_n 1, 1) := by decide +kernel
theorem dX5_transformRow_25 : decode cX5_transformRow 25 = .ok (.aload_n 0, 1) := by decide +kernel
theorem dX5_transformRow_26 : decode cX5_transformRow 26 = .ok (.getfield 35, 3) := by decide +kernel
theorem dX5_transformRow_29 : decode cX5_transformRow 29 = .ok (.invokevirtual 120, 3) := by decide +kernel
theorem dX5_transformRow_32 : decode cX5_transformRow 32 = .ok (.iload 4, 2) := by decide +kernel
theorem dX5_transformRow_34 : decode cX5_transformRow 34 = .ok (.ifCond .eq 10, 3) := by decide +kernel
theorem dX5_transformRow_37 : decode cX5_transformRow 37 = .ok (.aload_n 1, 1) := by decide +kernel
theorem dX5_transformRow_38 : decode cX5_transformRow 38 = .ok (.invokevirtual 140, 3) := by decide +kernel
theorem dX5_transformRow_41 : decode cX5_transformRow 41 = .ok (.goto 4, 3) := by decide +kernel
theorem dX5_transformRow_44 : decode cX5_transformRow 44 = .ok (.iconst 1, 1) := by decide +kernel
theorem dX5_transformRow_45 : decode cX5_transformRow 45 = .ok (.istore 5, 2) := by decide +kernel
theorem dX5_transformRow_47 : decode cX5_transformRow 47 = .ok (.iload_n 3, 1) := by decide +kernel
theorem dX5_transformRow_48 : decode cX5_transformRow 48 = .ok (.tableswitch 104 0 3 #[32, 49, 70, 87], 32) := by decide +kernel
theorem dX5_transformRow_80 : decode cX5_transformRow 80 = .ok (.aload_n 0, 1) := by decide +kernel
theorem dX5_transformRow_81 : decode cX5_transformRow 81 = .ok (.getfield 24, 3) := by decide +kernel
theorem dX5_transformRow_84 : decode cX5_transformRow 84 = .ok (.aload_n 1, 1) := by decide +kernel
theorem dX5_transformRow_85 : decode cX5_transformRow 85 = .ok (.aload_n 0, 1) := by decide +kernel
theorem dX5_transformRow_86 : decode cX5_transformRow 86 = .ok (.getfield 35, 3) := by decide +kernel
theorem dX5_transformRow_89 : decode cX5_transformRow 89 = .ok (.iload 5, 2) := by decide +kernel
theorem dX5_transformRow_91 : decode cX5_transformRow 91 = .ok (.invokevirtual 205, 3) := by decide +kernel
theorem dX5_transformRow_94 : decode cX5_transformRow 94 = .ok (.goto 72, 3) := by decide +kernel
theorem dX5_transformRow_97 : decode cX5_transformRow 97 = .ok (.aload_n 0, 1) := by decide +kernel
theorem dX5_transformRow_98 : decode cX5_transformRow 98 = .ok (.getfield 24, 3) := by decide +kernel
theorem dX5_transformRow_101 : decode cX5_transformRow 101 = .ok (.aload_n 1, 1) := by decide +kernel
theorem dX5_transformRow_102 : decode cX5_transformRow 102 = .ok (.aload_n 0, 1) := by decide +kernel
theorem dX5_transformRow_103 : decode cX5_transformRow 103 = .ok (.getfield 35, 3) := by decide +kernel
theorem dX5_transformRow_106 : decode cX5_transformRow 106 = .ok (.aload_n 1, 1) := by decide +kernel
theorem dX5_transformRow_107 : decode cX5_transformRow 107 = .ok (.invokevirtual 113, 3) := by decide +kernel
theorem dX5_transformRow_110 : decode cX5_transformRow 110 = .ok (.iload 5, 2) := by decide +kernel
theorem dX5_transformRow_112 : decode cX5_transformRow 112 = .ok (.invokevirtual 132, 3) := by decide +kernel
theorem dX5_transformRow_115 : decode cX5_transformRow 115 = .ok (.goto 51, 3) := by decide +kernel
theorem dX5_transformRow_118 : decode cX5_transformRow 118 = .ok (.aload_n 0, 1) := by decide +kernel
theorem dX5_transformRow_119 : decode cX5_transformRow 119 = .ok (.getfield 24, 3) := by decide +kernel
theorem dX5_transformRow_122 : decode cX5_transformRow 122 = .ok (.aload_n 1, 1) := by decide +kernel
theorem dX5_transformRow_123 : decode cX5_transformRow 123 = .ok (.aload_n 0, 1) := by decide +kernel
theorem dX5_transformRow_124 : decode cX5_transformRow 124 = .ok (.getfield 35, 3) := by decide +kernel
theorem dX5_transformRow_127 : decode cX5_transformRow 127 = .ok (.iload 5, 2) := by decide +kernel
theorem dX5_transformRow_129 : decode cX5_transformRow 129 = .ok (.invokevirtual 209, 3) := by decide +kernel
theorem dX5_transformRow_132 : decode cX5_transformRow 132 = .ok (.goto 34, 3) := by decide +kernel
theorem dX5_transformRow_135 : decode cX5_transformRow 135 = .ok (.aload_n 0, 1) := by decide +kernel
theorem dX5_transformRow_136 : decode cX5_transformRow 136 = .ok (.getfield 24, 3) := by decide +kernel
theorem dX5_transformRow_139 : decode cX5_transformRow 139 = .ok (.aload_n 1, 1) := by decide +kernel
theorem dX5_transformRow_140 : decode cX5_transformRow 140 = .ok (.aload_n 0, 1) := by decide +kernel
theorem dX5_transformRow_141 : decode cX5_transformRow 141 = .ok (.getfield 35, 3) := by decide +kernel
theorem dX5_transformRow_144 : decode cX5_transformRow 144 = .ok (.iload 5, 2) := by decide +kernel
theorem dX5_transformRow_146 : decode cX5_transformRow 146 = .ok (.invokevirtual 212, 3) := by decide +kernel
theorem dX5_transformRow_149 : decode cX5_transformRow 149 = .ok (.goto 17, 3) := by decide +kernel
theorem dX5_transformRow_152 : decode cX5_transformRow 152 = .ok (.aload_n 0, 1) := by decide +kernel
theorem dX5_transformRow_153 : decode cX5_transformRow 153 = .ok (.getfield 24, 3) := by decide +kernel
theorem dX5_transformRow_156 : decode cX5_transformRow 156 = .ok (.aload_n 1, 1) := by decide +kernel
theorem dX5_transformRow_157 : decode cX5_transformRow 157 = .ok (.aload_n 0, 1) := by decide +kernel
theorem dX5_transformRow_158 : decode cX5_transformRow 158 = .ok (.getfield 35, 3) := by decide +kernel
theorem dX5_transformRow_161 : decode cX5_transformRow 161 = .ok (.iload 5, 2) := by decide +kernel
theorem dX5_transformRow_163 : decode cX5_transformRow 163 = .ok (.invokevirtual 215, 3) := by decide +kernel
theorem dX5_transformRow_166 : decode cX5_transformRow 166 = .ok (.iload 4, 2) := by decide +kernel
theorem dX5_transformRow_168 : decode cX5_transformRow 168 = .ok (.ifCond .eq 11, 3) := by decide +kernel
theorem dX5_transformRow_171 : decode cX5_transformRow 171 = .ok (.aload_n 1, 1) := by decide +kernel
theorem dX5_transformRow_172 : decode cX5_transformRow 172 = .ok (.aload_n 0, 1) := by decide +kernel
theorem dX5_transformRow_173 : decode cX5_transformRow 173 = .ok (.getfield 35, 3) := by decide +kernel
theorem dX5_transformRow_176 : decode cX5_transformRow 176 = .ok (.invokevirtual 143, 3) := by decide +kernel
theorem dX5_transformRow_179 : decode cX5_transformRow 179 = .ok (.aload_n 2, 1) := by decide +kernel
theorem dX5_transformRow_180 : decode cX5_transformRow 180 = .ok (.aload_n 0, 1) := by decide +kernel
theorem dX5_transformRow_181 : decode cX5_transformRow 181 = .ok (.getfield 35, 3) := by decide +kernel
theorem dX5_transformRow_184 : decode cX5_transformRow 184 = .ok (.aload_n 1, 1) := by decide +kernel
theorem dX5_transformRow_185 : decode cX5_transformRow 185 = .ok (.invokevirtual 113, 3) := by decide +kernel
theorem dX5_transformRow_188 : decode cX5_transformRow 188 = .ok (.invokevirtual 147, 3) := by decide +kernel
theorem dX5_transformRow_191 : decode cX5_transformRow 191 = .ok (.aload_n 2, 1) := by decide +kernel
theorem dX5_transformRow_192 : decode cX5_transformRow 192 = .ok (.iconst 0, 1) := by decide +kernel
theorem dX5_transformRow_193 : decode cX5_transformRow 193 = .ok (.invokevirtual 78, 3) := by decide +kernel
theorem dX5_transformRow_196 : decode cX5_transformRow 196 = .ok (.ireturn, 1) := by decide +kernel
theorem dJ9_max_7cf53_0 : decode cJ9_max_7cf53 0 = .ok (.iload_n 0, 1) := by decide +kernel
theorem dJ9_max_7cf53_1 : decode cJ9_max_7cf53 1 = .ok (.iload_n 1, 1) := by decide +kernel
theorem dJ9_max_7cf53_2 : decode cJ9_max_7cf53 2 = .ok (.if_icmp .lt 7, 3) := by decide +kernel
theorem dJ9_max_7cf53_5 : decode cJ9_max_7cf53 5 = .ok (.iload_n 0, 1) := by decide +kernel
theorem dJ9_max_7cf53_6 : decode cJ9_max_7cf53 6 = .ok (.goto 4, 3) := by decide +kernel
theorem dJ9_max_7cf53_9 : decode cJ9_max_7cf53 9 = .ok (.iload_n 1, 1) := by decide +kernel
theorem dJ9_max_7cf53_10 : decode cJ9_max_7cf53 10 = .ok (.ireturn, 1) := by decide +kernel
theorem dJ9_min_7cf53_0 : decode cJ9_min_7cf53 0 = .ok (.iload_n 0, 1) := by decide +kernel
theorem dJ9_min_7cf53_1 : decode cJ9_min_7cf53 1 = .ok (.iload_n 1, 1) := by decide +kernel
theorem dJ9_min_7cf53_2 : decode cJ9_min_7cf53 2 = .ok (.if_icmp .gt 7, 3) := by decide +kernel
theorem dJ9_min_7cf53_5 : decode cJ9_min_7cf53 5 = .ok (.iload_n 0, 1) := by decide +kernel
theorem dJ9_min_7cf53_6 : decode cJ9_min_7cf53 6 = .ok (.goto 4, 3) := by decide +kernel
theorem dJ9_min_7cf53_9 : decode cJ9_min_7cf53 9 = .ok (.iload_n 1, 1) := by decide +kernel
theorem dJ9_min_7cf53_10 : decode cJ9_min_7cf53 10 = .ok (.ireturn, 1) := by decide +kernel
theorem dJ7_fill_53178_0 : decode cJ7_fill_53178 0 = .ok (.iconst 0, 1) := by decide +kernel
theorem dJ7_fill_53178_1 : decode cJ7_fill_53178 1 = .ok (.istore_n 2, 1) := by decide +kernel
theorem dJ7_fill_53178_2 : decode cJ7_fill_53178 2 = .ok (.aload_n 0, 1) := by decide +kernel
theorem dJ7_fill_53178_3 : decode cJ7_fill_53178 3 = .ok (.arraylength, 1) := by decide +kernel
theorem dJ7_fill_53178_4 : decode cJ7_fill_53178 4 = .ok (.istore_n 3, 1) := by decide +kernel
theorem dJ7_fill_53178_5 : decode cJ7_fill_53178 5 = .ok (.iload_n 2, 1) := by decide +kernel
theorem dJ7_fill_53178_6 : decode cJ7_fill_53178 6 = .ok (.iload_n 3, 1) := by decide +kernel
theorem dJ7_fill_53178_7 : decode cJ7_fill_53178 7 = .ok (.if_icmp .ge 13, 3) := by decide +kernel
theorem dJ7_fill_53178_10 : decode cJ7_fill_53178 10 = .ok (.aload_n 0, 1) := by decide +kernel
theorem dJ7_fill_53178_11 : decode cJ7_fill_53178 11 = .ok (.iload_n 2, 1) := by decide +kernel
theorem dJ7_fill_53178_12 : decode cJ7_fill_53178 12 = .ok (.iload_n 1, 1) := by decide +kernel
theorem dJ7_fill_53178_13 : decode cJ7_fill_53178 13 = .ok (.iastore, 1) := by decide +kernel
theorem dJ7_fill_53178_14 : decode cJ7_fill_53178 14 = .ok (.iinc 2 1, 3) := by decide +kernel
theorem dJ7_fill_53178_17 : decode cJ7_fill_53178 17 = .ok (.goto (-12), 3) := by decide +kernel
theorem dJ7_fill_53178_20 : decode cJ7_fill_53178 20 = .ok (.return_, 1) := by decide +kernel

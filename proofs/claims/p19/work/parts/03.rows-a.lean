theorem dX0_init_0 : decode cX0_init 0 = .ok (.aload_n 0, 1) := by decide +kernel
theorem dX0_init_1 : decode cX0_init 1 = .ok (.invokespecial 3, 3) := by decide +kernel
theorem dX0_init_4 : decode cX0_init 4 = .ok (.aload_n 0, 1) := by decide +kernel
theorem dX0_init_5 : decode cX0_init 5 = .ok (.bipush 64, 2) := by decide +kernel
theorem dX0_init_7 : decode cX0_init 7 = .ok (.newarray .int, 2) := by decide +kernel
theorem dX0_init_9 : decode cX0_init 9 = .ok (.putfield 9, 3) := by decide +kernel
theorem dX0_init_12 : decode cX0_init 12 = .ok (.aload_n 0, 1) := by decide +kernel
theorem dX0_init_13 : decode cX0_init 13 = .ok (.bipush 96, 2) := by decide +kernel
theorem dX0_init_15 : decode cX0_init 15 = .ok (.newarray .int, 2) := by decide +kernel
theorem dX0_init_17 : decode cX0_init 17 = .ok (.putfield 15, 3) := by decide +kernel
theorem dX0_init_20 : decode cX0_init 20 = .ok (.return_, 1) := by decide +kernel
theorem dX0_results_0 : decode cX0_results 0 = .ok (.aload_n 0, 1) := by decide +kernel
theorem dX0_results_1 : decode cX0_results 1 = .ok (.getfield 9, 3) := by decide +kernel
theorem dX0_results_4 : decode cX0_results 4 = .ok (.areturn, 1) := by decide +kernel
theorem dX0_cyclicEntry_0 : decode cX0_cyclicEntry 0 = .ok (.lconst 0, 1) := by decide +kernel
theorem dX0_cyclicEntry_1 : decode cX0_cyclicEntry 1 = .ok (.lstore 4, 2) := by decide +kernel
theorem dX0_cyclicEntry_3 : decode cX0_cyclicEntry 3 = .ok (.iconst 0, 1) := by decide +kernel
theorem dX0_cyclicEntry_4 : decode cX0_cyclicEntry 4 = .ok (.istore 6, 2) := by decide +kernel
theorem dX0_cyclicEntry_6 : decode cX0_cyclicEntry 6 = .ok (.iload 6, 2) := by decide +kernel
theorem dX0_cyclicEntry_8 : decode cX0_cyclicEntry 8 = .ok (.iload_n 2, 1) := by decide +kernel
theorem dX0_cyclicEntry_9 : decode cX0_cyclicEntry 9 = .ok (.if_icmp .ge 46, 3) := by decide +kernel
theorem dX0_cyclicEntry_12 : decode cX0_cyclicEntry 12 = .ok (.iload 6, 2) := by decide +kernel
theorem dX0_cyclicEntry_14 : decode cX0_cyclicEntry 14 = .ok (.iload_n 3, 1) := by decide +kernel
theorem dX0_cyclicEntry_15 : decode cX0_cyclicEntry 15 = .ok (.if_icmp .gt 10, 3) := by decide +kernel
theorem dX0_cyclicEntry_18 : decode cX0_cyclicEntry 18 = .ok (.iload_n 3, 1) := by decide +kernel
theorem dX0_cyclicEntry_19 : decode cX0_cyclicEntry 19 = .ok (.iload 6, 2) := by decide +kernel
theorem dX0_cyclicEntry_21 : decode cX0_cyclicEntry 21 = .ok (.isub, 1) := by decide +kernel
theorem dX0_cyclicEntry_22 : decode cX0_cyclicEntry 22 = .ok (.goto 9, 3) := by decide +kernel
theorem dX0_cyclicEntry_25 : decode cX0_cyclicEntry 25 = .ok (.iload_n 3, 1) := by decide +kernel
theorem dX0_cyclicEntry_26 : decode cX0_cyclicEntry 26 = .ok (.iload 6, 2) := by decide +kernel
theorem dX0_cyclicEntry_28 : decode cX0_cyclicEntry 28 = .ok (.isub, 1) := by decide +kernel
theorem dX0_cyclicEntry_29 : decode cX0_cyclicEntry 29 = .ok (.iload_n 2, 1) := by decide +kernel
theorem dX0_cyclicEntry_30 : decode cX0_cyclicEntry 30 = .ok (.iadd, 1) := by decide +kernel
theorem dX0_cyclicEntry_31 : decode cX0_cyclicEntry 31 = .ok (.istore 7, 2) := by decide +kernel
theorem dX0_cyclicEntry_33 : decode cX0_cyclicEntry 33 = .ok (.lload 4, 2) := by decide +kernel
theorem dX0_cyclicEntry_35 : decode cX0_cyclicEntry 35 = .ok (.aload_n 0, 1) := by decide +kernel
theorem dX0_cyclicEntry_36 : decode cX0_cyclicEntry 36 = .ok (.iload 6, 2) := by decide +kernel
theorem dX0_cyclicEntry_38 : decode cX0_cyclicEntry 38 = .ok (.iaload, 1) := by decide +kernel
theorem dX0_cyclicEntry_39 : decode cX0_cyclicEntry 39 = .ok (.i2l, 1) := by decide +kernel
theorem dX0_cyclicEntry_40 : decode cX0_cyclicEntry 40 = .ok (.aload_n 1, 1) := by decide +kernel
theorem dX0_cyclicEntry_41 : decode cX0_cyclicEntry 41 = .ok (.iload 7, 2) := by decide +kernel
theorem dX0_cyclicEntry_43 : decode cX0_cyclicEntry 43 = .ok (.iaload, 1) := by decide +kernel
theorem dX0_cyclicEntry_44 : decode cX0_cyclicEntry 44 = .ok (.i2l, 1) := by decide +kernel
theorem dX0_cyclicEntry_45 : decode cX0_cyclicEntry 45 = .ok (.lmul, 1) := by decide +kernel
theorem dX0_cyclicEntry_46 : decode cX0_cyclicEntry 46 = .ok (.ladd, 1) := by decide +kernel
theorem dX0_cyclicEntry_47 : decode cX0_cyclicEntry 47 = .ok (.lstore 4, 2) := by decide +kernel
theorem dX0_cyclicEntry_49 : decode cX0_cyclicEntry 49 = .ok (.iinc 6 1, 3) := by decide +kernel
theorem dX0_cyclicEntry_52 : decode cX0_cyclicEntry 52 = .ok (.goto (-46), 3) := by decide +kernel
theorem dX0_cyclicEntry_55 : decode cX0_cyclicEntry 55 = .ok (.lload 4, 2) := by decide +kernel
theorem dX0_cyclicEntry_57 : decode cX0_cyclicEntry 57 = .ok (.lreturn, 1) := by decide +kernel
set_option maxRecDepth 20000 in
theorem ggX0_overlapAdd_J7_fill_53178 : GoodIn wsX0_overlapAdd wsJ7_fill_53178 := goodIn_r _ [12] (by decide +kernel) (by decide +kernel)
set_option maxRecDepth 20000 in
theorem gX0_overlapAdd_J7_fill_53178 : GoodIn wsX0_overlapAdd (va_wsS RX0 18 yJ7_fill_53178 wsJ7_fill_53178) := goodIn_app (goodIn_of _ (by decide +kernel)) ggX0_overlapAdd_J7_fill_53178
set_option maxRecDepth 20000 in
theorem ggX0_overlapAdd_X3_count : GoodIn wsX0_overlapAdd wsX3_count := goodIn_r _ [17, 18, 31, 32] (by decide +kernel) (by decide +kernel)
set_option maxRecDepth 20000 in
theorem gX0_overlapAdd_X3_count : GoodIn wsX0_overlapAdd (wsV RX0 30 RX3 yX3_count wsX3_count) := goodIn_app (goodIn_of _ (by decide +kernel)) ggX0_overlapAdd_X3_count
set_option maxRecDepth 20000 in
theorem ggX0_overlapAdd_X0_addProducts : GoodIn wsX0_overlapAdd wsX0_addProducts := goodIn_r _ [23, 1, 13, 14, 15, 16, 17, 18, 24, 25, 26, 27, 28, 29, 30, 31, 32] (by decide +kernel) (by decide +kernel)
set_option maxRecDepth 20000 in
theorem gX0_overlapAdd_X0_addProducts : GoodIn wsX0_overlapAdd (wsV RX0 39 RX0 yX0_addProducts wsX0_addProducts) := goodIn_app (goodIn_of _ (by decide +kernel)) ggX0_overlapAdd_X0_addProducts
theorem dX0_overlapAdd_0 : decode cX0_overlapAdd 0 = .ok (.aload_n 0, 1) := by decide +kernel
theorem dX0_overlapAdd_1 : decode cX0_overlapAdd 1 = .ok (.getfield 9, 3) := by decide +kernel
theorem dX0_overlapAdd_4 : decode cX0_overlapAdd 4 = .ok (.iconst 0, 1) := by decide +kernel
theorem dX0_overlapAdd_5 : decode cX0_overlapAdd 5 = .ok (.invokestatic 18, 3) := by decide +kernel
theorem dX0_overlapAdd_8 : decode cX0_overlapAdd 8 = .ok (.iload_n 3, 1) := by decide +kernel
theorem dX0_overlapAdd_9 : decode cX0_overlapAdd 9 = .ok (.iconst 1, 1) := by decide +kernel
theorem dX0_overlapAdd_10 : decode cX0_overlapAdd 10 = .ok (.invokestatic 24, 3) := by decide +kernel
theorem dX0_overlapAdd_13 : decode cX0_overlapAdd 13 = .ok (.istore 4, 2) := by decide +kernel
theorem dX0_overlapAdd_15 : decode cX0_overlapAdd 15 = .ok (.iconst 0, 1) := by decide +kernel
theorem dX0_overlapAdd_16 : decode cX0_overlapAdd 16 = .ok (.istore 5, 2) := by decide +kernel
theorem dX0_overlapAdd_18 : decode cX0_overlapAdd 18 = .ok (.iload 5, 2) := by decide +kernel
theorem dX0_overlapAdd_20 : decode cX0_overlapAdd 20 = .ok (.aload_n 1, 1) := by decide +kernel
theorem dX0_overlapAdd_21 : decode cX0_overlapAdd 21 = .ok (.invokevirtual 30, 3) := by decide +kernel
theorem dX0_overlapAdd_24 : decode cX0_overlapAdd 24 = .ok (.if_icmp .ge 33, 3) := by decide +kernel
theorem dX0_overlapAdd_27 : decode cX0_overlapAdd 27 = .ok (.aload_n 0, 1) := by decide +kernel
theorem dX0_overlapAdd_28 : decode cX0_overlapAdd 28 = .ok (.aload_n 1, 1) := by decide +kernel
theorem dX0_overlapAdd_29 : decode cX0_overlapAdd 29 = .ok (.iload 5, 2) := by decide +kernel
theorem dX0_overlapAdd_31 : decode cX0_overlapAdd 31 = .ok (.iload 5, 2) := by decide +kernel
theorem dX0_overlapAdd_33 : decode cX0_overlapAdd 33 = .ok (.iload 4, 2) := by decide +kernel
theorem dX0_overlapAdd_35 : decode cX0_overlapAdd 35 = .ok (.iadd, 1) := by decide +kernel
theorem dX0_overlapAdd_36 : decode cX0_overlapAdd 36 = .ok (.aload_n 1, 1) := by decide +kernel
theorem dX0_overlapAdd_37 : decode cX0_overlapAdd 37 = .ok (.invokevirtual 30, 3) := by decide +kernel
theorem dX0_overlapAdd_40 : decode cX0_overlapAdd 40 = .ok (.invokestatic 36, 3) := by decide +kernel
theorem dX0_overlapAdd_43 : decode cX0_overlapAdd 43 = .ok (.aload_n 2, 1) := by decide +kernel
theorem dX0_overlapAdd_44 : decode cX0_overlapAdd 44 = .ok (.invokevirtual 39, 3) := by decide +kernel
theorem dX0_overlapAdd_47 : decode cX0_overlapAdd 47 = .ok (.iload 5, 2) := by decide +kernel
theorem dX0_overlapAdd_49 : decode cX0_overlapAdd 49 = .ok (.iload 4, 2) := by decide +kernel
theorem dX0_overlapAdd_51 : decode cX0_overlapAdd 51 = .ok (.iadd, 1) := by decide +kernel
theorem dX0_overlapAdd_52 : decode cX0_overlapAdd 52 = .ok (.istore 5, 2) := by decide +kernel
theorem dX0_overlapAdd_54 : decode cX0_overlapAdd 54 = .ok (.goto (-36), 3) := by decide +kernel
theorem dX0_overlapAdd_57 : decode cX0_overlapAdd 57 = .ok (.return_, 1) := by decide +kernel
set_option maxRecDepth 20000 in
theorem ggX0_addProducts_X3_count : GoodIn wsX0_addProducts wsX3_count := goodIn_r _ [6, 7, 15, 16] (by decide +kernel) (by decide +kernel)
set_option maxRecDepth 20000 in
theorem gX0_addProducts_X3_count : GoodIn wsX0_addProducts (wsV RX0 30 RX3 yX3_count wsX3_count) := goodIn_app (goodIn_of _ (by decide +kernel)) ggX0_addProducts_X3_count
set_option maxRecDepth 20000 in
theorem ggX0_addProducts_X3_entry : GoodIn wsX0_addProducts wsX3_entry := goodIn_r _ [11, 7, 12, 15, 16] (by decide +kernel) (by decide +kernel)
set_option maxRecDepth 20000 in
theorem gX0_addProducts_X3_entry : GoodIn wsX0_addProducts (wsV RX0 43 RX3 yX3_entry wsX3_entry) := goodIn_app (goodIn_of _ (by decide +kernel)) ggX0_addProducts_X3_entry
theorem dX0_addProducts_0 : decode cX0_addProducts 0 = .ok (.iload_n 2, 1) := by decide +kernel
theorem dX0_addProducts_1 : decode cX0_addProducts 1 = .ok (.istore 5, 2) := by decide +kernel
theorem dX0_addProducts_3 : decode cX0_addProducts 3 = .ok (.iload 5, 2) := by decide +kernel
theorem dX0_addProducts_5 : decode cX0_addProducts 5 = .ok (.iload_n 3, 1) := by decide +kernel
theorem dX0_addProducts_6 : decode cX0_addProducts 6 = .ok (.if_icmp .ge 55, 3) := by decide +kernel
theorem dX0_addProducts_9 : decode cX0_addProducts 9 = .ok (.iconst 0, 1) := by decide +kernel
theorem dX0_addProducts_10 : decode cX0_addProducts 10 = .ok (.istore 6, 2) := by decide +kernel
theorem dX0_addProducts_12 : decode cX0_addProducts 12 = .ok (.iload 6, 2) := by decide +kernel
theorem dX0_addProducts_14 : decode cX0_addProducts 14 = .ok (.aload 4, 2) := by decide +kernel
theorem dX0_addProducts_16 : decode cX0_addProducts 16 = .ok (.invokevirtual 30, 3) := by decide +kernel
theorem dX0_addProducts_19 : decode cX0_addProducts 19 = .ok (.if_icmp .ge 36, 3) := by decide +kernel
theorem dX0_addProducts_22 : decode cX0_addProducts 22 = .ok (.aload_n 0, 1) := by decide +kernel
theorem dX0_addProducts_23 : decode cX0_addProducts 23 = .ok (.getfield 9, 3) := by decide +kernel
theorem dX0_addProducts_26 : decode cX0_addProducts 26 = .ok (.iload 5, 2) := by decide +kernel
theorem dX0_addProducts_28 : decode cX0_addProducts 28 = .ok (.iload 6, 2) := by decide +kernel
theorem dX0_addProducts_30 : decode cX0_addProducts 30 = .ok (.iadd, 1) := by decide +kernel
theorem dX0_addProducts_31 : decode cX0_addProducts 31 = .ok (.dup2, 1) := by decide +kernel
theorem dX0_addProducts_32 : decode cX0_addProducts 32 = .ok (.iaload, 1) := by decide +kernel
theorem dX0_addProducts_33 : decode cX0_addProducts 33 = .ok (.aload_n 1, 1) := by decide +kernel
theorem dX0_addProducts_34 : decode cX0_addProducts 34 = .ok (.iload 5, 2) := by decide +kernel
theorem dX0_addProducts_36 : decode cX0_addProducts 36 = .ok (.invokevirtual 43, 3) := by decide +kernel
theorem dX0_addProducts_39 : decode cX0_addProducts 39 = .ok (.aload 4, 2) := by decide +kernel
theorem dX0_addProducts_41 : decode cX0_addProducts 41 = .ok (.iload 6, 2) := by decide +kernel
theorem dX0_addProducts_43 : decode cX0_addProducts 43 = .ok (.invokevirtual 43, 3) := by decide +kernel
theorem dX0_addProducts_46 : decode cX0_addProducts 46 = .ok (.imul, 1) := by decide +kernel
theorem dX0_addProducts_47 : decode cX0_addProducts 47 = .ok (.iadd, 1) := by decide +kernel
theorem dX0_addProducts_48 : decode cX0_addProducts 48 = .ok (.iastore, 1) := by decide +kernel
theorem dX0_addProducts_49 : decode cX0_addProducts 49 = .ok (.iinc 6 1, 3) := by decide +kernel
theorem dX0_addProducts_52 : decode cX0_addProducts 52 = .ok (.goto (-40), 3) := by decide +kernel
theorem dX0_addProducts_55 : decode cX0_addProducts 55 = .ok (.iinc 5 1, 3) := by decide +kernel
theorem dX0_addProducts_58 : decode cX0_addProducts 58 = .ok (.goto (-55), 3) := by decide +kernel
theorem dX0_addProducts_61 : decode cX0_addProducts 61 = .ok (.return_, 1) := by decide +kernel
set_option maxRecDepth 20000 in
theorem ggX0_overlapSave_X3_count : GoodIn wsX0_overlapSave wsX3_count := goodIn_r _ [12, 13, 26, 27] (by decide +kernel) (by decide +kernel)
set_option maxRecDepth 20000 in
theorem gX0_overlapSave_X3_count : GoodIn wsX0_overlapSave (wsV RX0 30 RX3 yX3_count wsX3_count) := goodIn_app (goodIn_of _ (by decide +kernel)) ggX0_overlapSave_X3_count
set_option maxRecDepth 20000 in
theorem ggX0_overlapSave_X0_saveBlock : GoodIn wsX0_overlapSave wsX0_saveBlock := goodIn_r _ [18, 19, 20, 8, 9, 10, 11, 12, 13, 21, 22, 23, 24, 25, 28, 29, 26, 27] (by decide +kernel) (by decide +kernel)
set_option maxRecDepth 20000 in
theorem gX0_overlapSave_X0_saveBlock : GoodIn wsX0_overlapSave (wsV RX0 47 RX0 yX0_saveBlock wsX0_saveBlock) := goodIn_app (goodIn_of _ (by decide +kernel)) ggX0_overlapSave_X0_saveBlock
theorem dX0_overlapSave_0 : decode cX0_overlapSave 0 = .ok (.aload_n 1, 1) := by decide +kernel
theorem dX0_overlapSave_1 : decode cX0_overlapSave 1 = .ok (.invokevirtual 30, 3) := by decide +kernel
theorem dX0_overlapSave_4 : decode cX0_overlapSave 4 = .ok (.aload_n 2, 1) := by decide +kernel
theorem dX0_overlapSave_5 : decode cX0_overlapSave 5 = .ok (.invokevirtual 30, 3) := by decide +kernel
theorem dX0_overlapSave_8 : decode cX0_overlapSave 8 = .ok (.iadd, 1) := by decide +kernel
theorem dX0_overlapSave_9 : decode cX0_overlapSave 9 = .ok (.iconst 1, 1) := by decide +kernel
theorem dX0_overlapSave_10 : decode cX0_overlapSave 10 = .ok (.isub, 1) := by decide +kernel
theorem dX0_overlapSave_11 : decode cX0_overlapSave 11 = .ok (.istore 4, 2) := by decide +kernel
theorem dX0_overlapSave_13 : decode cX0_overlapSave 13 = .ok (.iload_n 3, 1) := by decide +kernel
theorem dX0_overlapSave_14 : decode cX0_overlapSave 14 = .ok (.iconst 1, 1) := by decide +kernel
theorem dX0_overlapSave_15 : decode cX0_overlapSave 15 = .ok (.invokestatic 24, 3) := by decide +kernel
theorem dX0_overlapSave_18 : decode cX0_overlapSave 18 = .ok (.istore 5, 2) := by decide +kernel
theorem dX0_overlapSave_20 : decode cX0_overlapSave 20 = .ok (.iconst 0, 1) := by decide +kernel
theorem dX0_overlapSave_21 : decode cX0_overlapSave 21 = .ok (.istore 6, 2) := by decide +kernel
theorem dX0_overlapSave_23 : decode cX0_overlapSave 23 = .ok (.iload 6, 2) := by decide +kernel
theorem dX0_overlapSave_25 : decode cX0_overlapSave 25 = .ok (.iload 4, 2) := by decide +kernel
theorem dX0_overlapSave_27 : decode cX0_overlapSave 27 = .ok (.if_icmp .ge 31, 3) := by decide +kernel
theorem dX0_overlapSave_30 : decode cX0_overlapSave 30 = .ok (.aload_n 0, 1) := by decide +kernel
theorem dX0_overlapSave_31 : decode cX0_overlapSave 31 = .ok (.aload_n 1, 1) := by decide +kernel
theorem dX0_overlapSave_32 : decode cX0_overlapSave 32 = .ok (.aload_n 2, 1) := by decide +kernel
theorem dX0_overlapSave_33 : decode cX0_overlapSave 33 = .ok (.iload 6, 2) := by decide +kernel
theorem dX0_overlapSave_35 : decode cX0_overlapSave 35 = .ok (.iload 6, 2) := by decide +kernel
theorem dX0_overlapSave_37 : decode cX0_overlapSave 37 = .ok (.iload 5, 2) := by decide +kernel
theorem dX0_overlapSave_39 : decode cX0_overlapSave 39 = .ok (.iadd, 1) := by decide +kernel
theorem dX0_overlapSave_40 : decode cX0_overlapSave 40 = .ok (.iload 4, 2) := by decide +kernel
theorem dX0_overlapSave_42 : decode cX0_overlapSave 42 = .ok (.invokestatic 36, 3) := by decide +kernel
theorem dX0_overlapSave_45 : decode cX0_overlapSave 45 = .ok (.invokevirtual 47, 3) := by decide +kernel
theorem dX0_overlapSave_48 : decode cX0_overlapSave 48 = .ok (.iload 6, 2) := by decide +kernel
theorem dX0_overlapSave_50 : decode cX0_overlapSave 50 = .ok (.iload 5, 2) := by decide +kernel
theorem dX0_overlapSave_52 : decode cX0_overlapSave 52 = .ok (.iadd, 1) := by decide +kernel
theorem dX0_overlapSave_53 : decode cX0_overlapSave 53 = .ok (.istore 6, 2) := by decide +kernel
theorem dX0_overlapSave_55 : decode cX0_overlapSave 55 = .ok (.goto (-32), 3) := by decide +kernel
theorem dX0_overlapSave_58 : decode cX0_overlapSave 58 = .ok (.return_, 1) := by decide +kernel
set_option maxRecDepth 20000 in
theorem ggX0_saveBlock_X3_count : GoodIn wsX0_saveBlock wsX3_count := goodIn_r _ [7, 8, 16, 17] (by decide +kernel) (by decide +kernel)
set_option maxRecDepth 20000 in
theorem gX0_saveBlock_X3_count : GoodIn wsX0_saveBlock (wsV RX0 30 RX3 yX3_count wsX3_count) := goodIn_app (goodIn_of _ (by decide +kernel)) ggX0_saveBlock_X3_count
set_option maxRecDepth 20000 in
theorem ggX0_saveBlock_X3_entry : GoodIn wsX0_saveBlock wsX3_entry := goodIn_r _ [12, 8, 13, 16, 17] (by decide +kernel) (by decide +kernel)
set_option maxRecDepth 20000 in
theorem gX0_saveBlock_X3_entry : GoodIn wsX0_saveBlock (wsV RX0 43 RX3 yX3_entry wsX3_entry) := goodIn_app (goodIn_of _ (by decide +kernel)) ggX0_saveBlock_X3_entry
theorem dX0_saveBlock_0 : decode cX0_saveBlock 0 = .ok (.aload_n 2, 1) := by decide +kernel
theorem dX0_saveBlock_1 : decode cX0_saveBlock 1 = .ok (.invokevirtual 30, 3) := by decide +kernel
theorem dX0_saveBlock_4 : decode cX0_saveBlock 4 = .ok (.iconst 1, 1) := by decide +kernel
theorem dX0_saveBlock_5 : decode cX0_saveBlock 5 = .ok (.isub, 1) := by decide +kernel
theorem dX0_saveBlock_6 : decode cX0_saveBlock 6 = .ok (.istore 5, 2) := by decide +kernel
theorem dX0_saveBlock_8 : decode cX0_saveBlock 8 = .ok (.iload_n 3, 1) := by decide +kernel
theorem dX0_saveBlock_9 : decode cX0_saveBlock 9 = .ok (.iload 5, 2) := by decide +kernel
theorem dX0_saveBlock_11 : decode cX0_saveBlock 11 = .ok (.isub, 1) := by decide +kernel
theorem dX0_saveBlock_12 : decode cX0_saveBlock 12 = .ok (.istore 6, 2) := by decide +kernel
theorem dX0_saveBlock_14 : decode cX0_saveBlock 14 = .ok (.iload 6, 2) := by decide +kernel
theorem dX0_saveBlock_16 : decode cX0_saveBlock 16 = .ok (.istore 7, 2) := by decide +kernel
theorem dX0_saveBlock_18 : decode cX0_saveBlock 18 = .ok (.iload 7, 2) := by decide +kernel
theorem dX0_saveBlock_20 : decode cX0_saveBlock 20 = .ok (.iload 4, 2) := by decide +kernel
theorem dX0_saveBlock_22 : decode cX0_saveBlock 22 = .ok (.if_icmp .ge 25, 3) := by decide +kernel
theorem dX0_saveBlock_25 : decode cX0_saveBlock 25 = .ok (.aload_n 0, 1) := by decide +kernel
theorem dX0_saveBlock_26 : decode cX0_saveBlock 26 = .ok (.getfield 15, 3) := by decide +kernel
theorem dX0_saveBlock_29 : decode cX0_saveBlock 29 = .ok (.iload 7, 2) := by decide +kernel
theorem dX0_saveBlock_31 : decode cX0_saveBlock 31 = .ok (.iload 6, 2) := by decide +kernel
theorem dX0_saveBlock_33 : decode cX0_saveBlock 33 = .ok (.isub, 1) := by decide +kernel
theorem dX0_saveBlock_34 : decode cX0_saveBlock 34 = .ok (.aload_n 1, 1) := by decide +kernel
theorem dX0_saveBlock_35 : decode cX0_saveBlock 35 = .ok (.iload 7, 2) := by decide +kernel
theorem dX0_saveBlock_37 : decode cX0_saveBlock 37 = .ok (.invokevirtual 43, 3) := by decide +kernel
theorem dX0_saveBlock_40 : decode cX0_saveBlock 40 = .ok (.iastore, 1) := by decide +kernel
theorem dX0_saveBlock_41 : decode cX0_saveBlock 41 = .ok (.iinc 7 1, 3) := by decide +kernel
theorem dX0_saveBlock_44 : decode cX0_saveBlock 44 = .ok (.goto (-26), 3) := by decide +kernel
theorem dX0_saveBlock_47 : decode cX0_saveBlock 47 = .ok (.iload_n 3, 1) := by decide +kernel
theorem dX0_saveBlock_48 : decode cX0_saveBlock 48 = .ok (.istore 7, 2) := by decide +kernel
theorem dX0_saveBlock_50 : decode cX0_saveBlock 50 = .ok (.iload 7, 2) := by decide +kernel
theorem dX0_saveBlock_52 : decode cX0_saveBlock 52 = .ok (.iload 4, 2) := by decide +kernel
theorem dX0_saveBlock_54 : decode cX0_saveBlock 54 = .ok (.if_icmp .ge 62, 3) := by decide +kernel
theorem dX0_saveBlock_57 : decode cX0_saveBlock 57 = .ok (.iconst 0, 1) := by decide +kernel
theorem dX0_saveBlock_58 : decode cX0_saveBlock 58 = .ok (.istore 8, 2) := by decide +kernel
theorem dX0_saveBlock_60 : decode cX0_saveBlock 60 = .ok (.iconst 0, 1) := by decide +kernel
theorem dX0_saveBlock_61 : decode cX0_saveBlock 61 = .ok (.istore 9, 2) := by decide +kernel
theorem dX0_saveBlock_63 : decode cX0_saveBlock 63 = .ok (.iload 9, 2) := by decide +kernel
theorem dX0_saveBlock_65 : decode cX0_saveBlock 65 = .ok (.iload 5, 2) := by decide +kernel
theorem dX0_saveBlock_67 : decode cX0_saveBlock 67 = .ok (.if_icmp .gt 34, 3) := by decide +kernel
theorem dX0_saveBlock_70 : decode cX0_saveBlock 70 = .ok (.iload 8, 2) := by decide +kernel
theorem dX0_saveBlock_72 : decode cX0_saveBlock 72 = .ok (.aload_n 2, 1) := by decide +kernel
theorem dX0_saveBlock_73 : decode cX0_saveBlock 73 = .ok (.iload 9, 2) := by decide +kernel
theorem dX0_saveBlock_75 : decode cX0_saveBlock 75 = .ok (.invokevirtual 43, 3) := by decide +kernel
theorem dX0_saveBlock_78 : decode cX0_saveBlock 78 = .ok (.aload_n 0, 1) := by decide +kernel
theorem dX0_saveBlock_79 : decode cX0_saveBlock 79 = .ok (.getfield 15, 3) := by decide +kernel
theorem dX0_saveBlock_82 : decode cX0_saveBlock 82 = .ok (.iload 7, 2) := by decide +kernel
theorem dX0_saveBlock_84 : decode cX0_saveBlock 84 = .ok (.iload 6, 2) := by decide +kernel
theorem dX0_saveBlock_86 : decode cX0_saveBlock 86 = .ok (.isub, 1) := by decide +kernel
theorem dX0_saveBlock_87 : decode cX0_saveBlock 87 = .ok (.iload 9, 2) := by decide +kernel
theorem dX0_saveBlock_89 : decode cX0_saveBlock 89 = .ok (.isub, 1) := by decide +kernel
theorem dX0_saveBlock_90 : decode cX0_saveBlock 90 = .ok (.iaload, 1) := by decide +kernel
theorem dX0_saveBlock_91 : decode cX0_saveBlock 91 = .ok (.imul, 1) := by decide +kernel
theorem dX0_saveBlock_92 : decode cX0_saveBlock 92 = .ok (.iadd, 1) := by decide +kernel
theorem dX0_saveBlock_93 : decode cX0_saveBlock 93 = .ok (.istore 8, 2) := by decide +kernel
theorem dX0_saveBlock_95 : decode cX0_saveBlock 95 = .ok (.iinc 9 1, 3) := by decide +kernel
theorem dX0_saveBlock_98 : decode cX0_saveBlock 98 = .ok (.goto (-35), 3) := by decide +kernel
theorem dX0_saveBlock_101 : decode cX0_saveBlock 101 = .ok (.aload_n 0, 1) := by decide +kernel
theorem dX0_saveBlock_102 : decode cX0_saveBlock 102 = .ok (.getfield 9, 3) := by decide +kernel
theorem dX0_saveBlock_105 : decode cX0_saveBlock 105 = .ok (.iload 7, 2) := by decide +kernel
theorem dX0_saveBlock_107 : decode cX0_saveBlock 107 = .ok (.iload 8, 2) := by decide +kernel
theorem dX0_saveBlock_109 : decode cX0_saveBlock 109 = .ok (.iastore, 1) := by decide +kernel
theorem dX0_saveBlock_110 : decode cX0_saveBlock 110 = .ok (.iinc 7 1, 3) := by decide +kernel
theorem dX0_saveBlock_113 : decode cX0_saveBlock 113 = .ok (.goto (-63), 3) := by decide +kernel
theorem dX0_saveBlock_116 : decode cX0_saveBlock 116 = .ok (.return_, 1) := by decide +kernel
set_option maxRecDepth 20000 in
theorem ggX0_product_J7_fill_53178 : GoodIn wsX0_product wsJ7_fill_53178 := goodIn_r _ [5] (by decide +kernel) (by decide +kernel)
set_option maxRecDepth 20000 in
theorem gX0_product_J7_fill_53178 : GoodIn wsX0_product (va_wsS RX0 18 yJ7_fill_53178 wsJ7_fill_53178) := goodIn_app (goodIn_of _ (by decide +kernel)) ggX0_product_J7_fill_53178
set_option maxRecDepth 20000 in
theorem ggX0_product_X3_count : GoodIn wsX0_product wsX3_count := goodIn_r _ [10, 11, 24, 25] (by decide +kernel) (by decide +kernel)
set_option maxRecDepth 20000 in
theorem gX0_product_X3_count : GoodIn wsX0_product (wsV RX0 30 RX3 yX3_count wsX3_count) := goodIn_app (goodIn_of _ (by decide +kernel)) ggX0_product_X3_count
set_option maxRecDepth 20000 in
theorem ggX0_product_X0_addProducts : GoodIn wsX0_product wsX0_addProducts := goodIn_r _ [16, 1, 6, 7, 8, 9, 10, 11, 17, 18, 19, 20, 21, 22, 23, 24, 25] (by decide +kernel) (by decide +kernel)
set_option maxRecDepth 20000 in
theorem gX0_product_X0_addProducts : GoodIn wsX0_product (wsV RX0 39 RX0 yX0_addProducts wsX0_addProducts) := goodIn_app (goodIn_of _ (by decide +kernel)) ggX0_product_X0_addProducts
theorem dX0_product_0 : decode cX0_product 0 = .ok (.aload_n 0, 1) := by decide +kernel
theorem dX0_product_1 : decode cX0_product 1 = .ok (.getfield 9, 3) := by decide +kernel
theorem dX0_product_4 : decode cX0_product 4 = .ok (.iconst 0, 1) := by decide +kernel
theorem dX0_product_5 : decode cX0_product 5 = .ok (.invokestatic 18, 3) := by decide +kernel
theorem dX0_product_8 : decode cX0_product 8 = .ok (.aload_n 0, 1) := by decide +kernel
theorem dX0_product_9 : decode cX0_product 9 = .ok (.aload_n 1, 1) := by decide +kernel
theorem dX0_product_10 : decode cX0_product 10 = .ok (.iconst 0, 1) := by decide +kernel
theorem dX0_product_11 : decode cX0_product 11 = .ok (.aload_n 1, 1) := by decide +kernel
theorem dX0_product_12 : decode cX0_product 12 = .ok (.invokevirtual 30, 3) := by decide +kernel
theorem dX0_product_15 : decode cX0_product 15 = .ok (.aload_n 2, 1) := by decide +kernel
theorem dX0_product_16 : decode cX0_product 16 = .ok (.invokevirtual 39, 3) := by decide +kernel
theorem dX0_product_19 : decode cX0_product 19 = .ok (.iconst 0, 1) := by decide +kernel
theorem dX0_product_20 : decode cX0_product 20 = .ok (.istore_n 3, 1) := by decide +kernel
theorem dX0_product_21 : decode cX0_product 21 = .ok (.iconst 1, 1) := by decide +kernel
theorem dX0_product_22 : decode cX0_product 22 = .ok (.istore 4, 2) := by decide +kernel
theorem dX0_product_24 : decode cX0_product 24 = .ok (.iconst 0, 1) := by decide +kernel
theorem dX0_product_25 : decode cX0_product 25 = .ok (.istore 5, 2) := by decide +kernel
theorem dX0_product_27 : decode cX0_product 27 = .ok (.iload 5, 2) := by decide +kernel
theorem dX0_product_29 : decode cX0_product 29 = .ok (.aload_n 1, 1) := by decide +kernel
theorem dX0_product_30 : decode cX0_product 30 = .ok (.invokevirtual 30, 3) := by decide +kernel
theorem dX0_product_33 : decode cX0_product 33 = .ok (.aload_n 2, 1) := by decide +kernel
theorem dX0_product_34 : decode cX0_product 34 = .ok (.invokevirtual 30, 3) := by decide +kernel
theorem dX0_product_37 : decode cX0_product 37 = .ok (.iadd, 1) := by decide +kernel
theorem dX0_product_38 : decode cX0_product 38 = .ok (.if_icmp .ge 51, 3) := by decide +kernel
theorem dX0_product_41 : decode cX0_product 41 = .ok (.iload_n 3, 1) := by decide +kernel
theorem dX0_product_42 : decode cX0_product 42 = .ok (.aload_n 0, 1) := by decide +kernel
theorem dX0_product_43 : decode cX0_product 43 = .ok (.getfield 9, 3) := by decide +kernel
theorem dX0_product_46 : decode cX0_product 46 = .ok (.iload 5, 2) := by decide +kernel
theorem dX0_product_48 : decode cX0_product 48 = .ok (.iaload, 1) := by decide +kernel
theorem dX0_product_49 : decode cX0_product 49 = .ok (.iadd, 1) := by decide +kernel
theorem dX0_product_50 : decode cX0_product 50 = .ok (.istore_n 3, 1) := by decide +kernel
theorem dX0_product_51 : decode cX0_product 51 = .ok (.aload_n 0, 1) := by decide +kernel
theorem dX0_product_52 : decode cX0_product 52 = .ok (.getfield 9, 3) := by decide +kernel
theorem dX0_product_55 : decode cX0_product 55 = .ok (.iload 5, 2) := by decide +kernel
theorem dX0_product_57 : decode cX0_product 57 = .ok (.iload_n 3, 1) := by decide +kernel
theorem dX0_product_58 : decode cX0_product 58 = .ok (.bipush 10, 2) := by decide +kernel
theorem dX0_product_60 : decode cX0_product 60 = .ok (.irem, 1) := by decide +kernel
theorem dX0_product_61 : decode cX0_product 61 = .ok (.iastore, 1) := by decide +kernel
theorem dX0_product_62 : decode cX0_product 62 = .ok (.iload_n 3, 1) := by decide +kernel
theorem dX0_product_63 : decode cX0_product 63 = .ok (.bipush 10, 2) := by decide +kernel
theorem dX0_product_65 : decode cX0_product 65 = .ok (.idiv, 1) := by decide +kernel
theorem dX0_product_66 : decode cX0_product 66 = .ok (.istore_n 3, 1) := by decide +kernel
theorem dX0_product_67 : decode cX0_product 67 = .ok (.aload_n 0, 1) := by decide +kernel
theorem dX0_product_68 : decode cX0_product 68 = .ok (.getfield 9, 3) := by decide +kernel
theorem dX0_product_71 : decode cX0_product 71 = .ok (.iload 5, 2) := by decide +kernel
theorem dX0_product_73 : decode cX0_product 73 = .ok (.iaload, 1) := by decide +kernel
theorem dX0_product_74 : decode cX0_product 74 = .ok (.ifCond .eq 9, 3) := by decide +kernel
theorem dX0_product_77 : decode cX0_product 77 = .ok (.iload 5, 2) := by decide +kernel
theorem dX0_product_79 : decode cX0_product 79 = .ok (.iconst 1, 1) := by decide +kernel
theorem dX0_product_80 : decode cX0_product 80 = .ok (.iadd, 1) := by decide +kernel
theorem dX0_product_81 : decode cX0_product 81 = .ok (.istore 4, 2) := by decide +kernel
theorem dX0_product_83 : decode cX0_product 83 = .ok (.iinc 5 1, 3) := by decide +kernel
theorem dX0_product_86 : decode cX0_product 86 = .ok (.goto (-59), 3) := by decide +kernel
theorem dX0_product_89 : decode cX0_product 89 = .ok (.iload 4, 2) := by decide +kernel
theorem dX0_product_91 : decode cX0_product 91 = .ok (.ireturn, 1) := by decide +kernel
theorem dX1_remainder_0 : decode cX1_remainder 0 = .ok (.iload_n 2, 1) := by decide +kernel
theorem dX1_remainder_1 : decode cX1_remainder 1 = .ok (.iconst 1, 1) := by decide +kernel
theorem dX1_remainder_2 : decode cX1_remainder 2 = .ok (.if_icmp .ge 5, 3) := by decide +kernel
theorem dX1_remainder_5 : decode cX1_remainder 5 = .ok (.iconst 0, 1) := by decide +kernel
theorem dX1_remainder_6 : decode cX1_remainder 6 = .ok (.ireturn, 1) := by decide +kernel
theorem dX1_remainder_7 : decode cX1_remainder 7 = .ok (.lload_n 0, 1) := by decide +kernel
theorem dX1_remainder_8 : decode cX1_remainder 8 = .ok (.iload_n 2, 1) := by decide +kernel
theorem dX1_remainder_9 : decode cX1_remainder 9 = .ok (.i2l, 1) := by decide +kernel
theorem dX1_remainder_10 : decode cX1_remainder 10 = .ok (.lrem, 1) := by decide +kernel
theorem dX1_remainder_11 : decode cX1_remainder 11 = .ok (.lstore_n 3, 1) := by decide +kernel
theorem dX1_remainder_12 : decode cX1_remainder 12 = .ok (.lload_n 3, 1) := by decide +kernel
theorem dX1_remainder_13 : decode cX1_remainder 13 = .ok (.lconst 0, 1) := by decide +kernel
theorem dX1_remainder_14 : decode cX1_remainder 14 = .ok (.lcmp, 1) := by decide +kernel
theorem dX1_remainder_15 : decode cX1_remainder 15 = .ok (.ifCond .ge 10, 3) := by decide +kernel
theorem dX1_remainder_18 : decode cX1_remainder 18 = .ok (.lload_n 3, 1) := by decide +kernel
theorem dX1_remainder_19 : decode cX1_remainder 19 = .ok (.iload_n 2, 1) := by decide +kernel
theorem dX1_remainder_20 : decode cX1_remainder 20 = .ok (.i2l, 1) := by decide +kernel
theorem dX1_remainder_21 : decode cX1_remainder 21 = .ok (.ladd, 1) := by decide +kernel
theorem dX1_remainder_22 : decode cX1_remainder 22 = .ok (.goto 4, 3) := by decide +kernel
theorem dX1_remainder_25 : decode cX1_remainder 25 = .ok (.lload_n 3, 1) := by decide +kernel
theorem dX1_remainder_26 : decode cX1_remainder 26 = .ok (.l2i, 1) := by decide +kernel
theorem dX1_remainder_27 : decode cX1_remainder 27 = .ok (.ireturn, 1) := by decide +kernel
set_option maxRecDepth 20000 in
theorem ggX1_power_X1_remainder : GoodIn wsX1_power wsX1_remainder := goodIn_r _ [4] (by decide +kernel) (by decide +kernel)
set_option maxRecDepth 20000 in
theorem gX1_power_X1_remainder : GoodIn wsX1_power (va_wsS RX1 9 yX1_remainder wsX1_remainder) := goodIn_app (goodIn_of _ (by decide +kernel)) ggX1_power_X1_remainder
theorem dX1_power_0 : decode cX1_power 0 = .ok (.iconst 1, 1) := by decide +kernel
theorem dX1_power_1 : decode cX1_power 1 = .ok (.istore_n 3, 1) := by decide +kernel
theorem dX1_power_2 : decode cX1_power 2 = .ok (.bipush 13, 2) := by decide +kernel
theorem dX1_power_4 : decode cX1_power 4 = .ok (.istore 4, 2) := by decide +kernel
theorem dX1_power_6 : decode cX1_power 6 = .ok (.iload 4, 2) := by decide +kernel
theorem dX1_power_8 : decode cX1_power 8 = .ok (.ifCond .lt 39, 3) := by decide +kernel
theorem dX1_power_11 : decode cX1_power 11 = .ok (.iload_n 3, 1) := by decide +kernel
theorem dX1_power_12 : decode cX1_power 12 = .ok (.i2l, 1) := by decide +kernel
theorem dX1_power_13 : decode cX1_power 13 = .ok (.iload_n 3, 1) := by decide +kernel
theorem dX1_power_14 : decode cX1_power 14 = .ok (.i2l, 1) := by decide +kernel
theorem dX1_power_15 : decode cX1_power 15 = .ok (.lmul, 1) := by decide +kernel
theorem dX1_power_16 : decode cX1_power 16 = .ok (.iload_n 2, 1) := by decide +kernel
theorem dX1_power_17 : decode cX1_power 17 = .ok (.invokestatic 9, 3) := by decide +kernel
theorem dX1_power_20 : decode cX1_power 20 = .ok (.istore_n 3, 1) := by decide +kernel
theorem dX1_power_21 : decode cX1_power 21 = .ok (.iload_n 1, 1) := by decide +kernel
theorem dX1_power_22 : decode cX1_power 22 = .ok (.iload 4, 2) := by decide +kernel
theorem dX1_power_24 : decode cX1_power 24 = .ok (.ishr, 1) := by decide +kernel
theorem dX1_power_25 : decode cX1_power 25 = .ok (.iconst 1, 1) := by decide +kernel
theorem dX1_power_26 : decode cX1_power 26 = .ok (.iand, 1) := by decide +kernel
theorem dX1_power_27 : decode cX1_power 27 = .ok (.iconst 1, 1) := by decide +kernel
theorem dX1_power_28 : decode cX1_power 28 = .ok (.if_icmp .ne 13, 3) := by decide +kernel
theorem dX1_power_31 : decode cX1_power 31 = .ok (.iload_n 3, 1) := by decide +kernel
theorem dX1_power_32 : decode cX1_power 32 = .ok (.i2l, 1) := by decide +kernel
theorem dX1_power_33 : decode cX1_power 33 = .ok (.iload_n 0, 1) := by decide +kernel
theorem dX1_power_34 : decode cX1_power 34 = .ok (.i2l, 1) := by decide +kernel
theorem dX1_power_35 : decode cX1_power 35 = .ok (.lmul, 1) := by decide +kernel
theorem dX1_power_36 : decode cX1_power 36 = .ok (.iload_n 2, 1) := by decide +kernel
theorem dX1_power_37 : decode cX1_power 37 = .ok (.invokestatic 9, 3) := by decide +kernel
theorem dX1_power_40 : decode cX1_power 40 = .ok (.istore_n 3, 1) := by decide +kernel
theorem dX1_power_41 : decode cX1_power 41 = .ok (.iinc 4 (-1), 3) := by decide +kernel
theorem dX1_power_44 : decode cX1_power 44 = .ok (.goto (-38), 3) := by decide +kernel
theorem dX1_power_47 : decode cX1_power 47 = .ok (.iload_n 3, 1) := by decide +kernel
theorem dX1_power_48 : decode cX1_power 48 = .ok (.ireturn, 1) := by decide +kernel
theorem dX1_leastFactor_0 : decode cX1_leastFactor 0 = .ok (.iconst 2, 1) := by decide +kernel
theorem dX1_leastFactor_1 : decode cX1_leastFactor 1 = .ok (.istore_n 1, 1) := by decide +kernel
theorem dX1_leastFactor_2 : decode cX1_leastFactor 2 = .ok (.iload_n 1, 1) := by decide +kernel
theorem dX1_leastFactor_3 : decode cX1_leastFactor 3 = .ok (.iload_n 1, 1) := by decide +kernel
theorem dX1_leastFactor_4 : decode cX1_leastFactor 4 = .ok (.imul, 1) := by decide +kernel
theorem dX1_leastFactor_5 : decode cX1_leastFactor 5 = .ok (.iload_n 0, 1) := by decide +kernel
theorem dX1_leastFactor_6 : decode cX1_leastFactor 6 = .ok (.if_icmp .gt 17, 3) := by decide +kernel
theorem dX1_leastFactor_9 : decode cX1_leastFactor 9 = .ok (.iload_n 0, 1) := by decide +kernel
theorem dX1_leastFactor_10 : decode cX1_leastFactor 10 = .ok (.iload_n 1, 1) := by decide +kernel
theorem dX1_leastFactor_11 : decode cX1_leastFactor 11 = .ok (.irem, 1) := by decide +kernel
theorem dX1_leastFactor_12 : decode cX1_leastFactor 12 = .ok (.ifCond .ne 5, 3) := by decide +kernel
theorem dX1_leastFactor_15 : decode cX1_leastFactor 15 = .ok (.iload_n 1, 1) := by decide +kernel
theorem dX1_leastFactor_16 : decode cX1_leastFactor 16 = .ok (.ireturn, 1) := by decide +kernel
theorem dX1_leastFactor_17 : decode cX1_leastFactor 17 = .ok (.iinc 1 1, 3) := by decide +kernel
theorem dX1_leastFactor_20 : decode cX1_leastFactor 20 = .ok (.goto (-18), 3) := by decide +kernel
theorem dX1_leastFactor_23 : decode cX1_leastFactor 23 = .ok (.iload_n 0, 1) := by decide +kernel
theorem dX1_leastFactor_24 : decode cX1_leastFactor 24 = .ok (.iconst 2, 1) := by decide +kernel
theorem dX1_leastFactor_25 : decode cX1_leastFactor 25 = .ok (.invokestatic 13, 3) := by decide +kernel
theorem dX1_leastFactor_28 : decode cX1_leastFactor 28 = .ok (.ireturn, 1) := by decide +kernel
set_option maxRecDepth 20000 in
theorem ggX1_isPrime_X1_leastFactor : GoodIn wsX1_isPrime wsX1_leastFactor := goodIn_r _ [4, 5, 6, 7, 8] (by decide +kernel) (by decide +kernel)
set_option maxRecDepth 20000 in
theorem gX1_isPrime_X1_leastFactor : GoodIn wsX1_isPrime (va_wsS RX1 19 yX1_leastFactor wsX1_leastFactor) := goodIn_app (goodIn_of _ (by decide +kernel)) ggX1_isPrime_X1_leastFactor
theorem dX1_isPrime_0 : decode cX1_isPrime 0 = .ok (.iload_n 0, 1) := by decide +kernel
theorem dX1_isPrime_1 : decode cX1_isPrime 1 = .ok (.iconst 1, 1) := by decide +kernel
theorem dX1_isPrime_2 : decode cX1_isPrime 2 = .ok (.if_icmp .le 15, 3) := by decide +kernel
theorem dX1_isPrime_5 : decode cX1_isPrime 5 = .ok (.iload_n 0, 1) := by decide +kernel
theorem dX1_isPrime_6 : decode cX1_isPrime 6 = .ok (.invokestatic 19, 3) := by decide +kernel
theorem dX1_isPrime_9 : decode cX1_isPrime 9 = .ok (.iload_n 0, 1) := by decide +kernel
theorem dX1_isPrime_10 : decode cX1_isPrime 10 = .ok (.if_icmp .ne 7, 3) := by decide +kernel
theorem dX1_isPrime_13 : decode cX1_isPrime 13 = .ok (.iconst 1, 1) := by decide +kernel
theorem dX1_isPrime_14 : decode cX1_isPrime 14 = .ok (.goto 4, 3) := by decide +kernel
theorem dX1_isPrime_17 : decode cX1_isPrime 17 = .ok (.iconst 0, 1) := by decide +kernel
theorem dX1_isPrime_18 : decode cX1_isPrime 18 = .ok (.ireturn, 1) := by decide +kernel
set_option maxRecDepth 20000 in
theorem ggX1_leastPrimePart_X1_leastFactor : GoodIn wsX1_leastPrimePart wsX1_leastFactor := goodIn_r _ [4, 5, 6, 7, 8] (by decide +kernel) (by decide +kernel)
set_option maxRecDepth 20000 in
theorem gX1_leastPrimePart_X1_leastFactor : GoodIn wsX1_leastPrimePart (va_wsS RX1 19 yX1_leastFactor wsX1_leastFactor) := goodIn_app (goodIn_of _ (by decide +kernel)) ggX1_leastPrimePart_X1_leastFactor
theorem dX1_leastPrimePart_0 : decode cX1_leastPrimePart 0 = .ok (.iload_n 0, 1) := by decide +kernel
theorem dX1_leastPrimePart_1 : decode cX1_leastPrimePart 1 = .ok (.invokestatic 19, 3) := by decide +kernel
theorem dX1_leastPrimePart_4 : decode cX1_leastPrimePart 4 = .ok (.istore_n 1, 1) := by decide +kernel
theorem dX1_leastPrimePart_5 : decode cX1_leastPrimePart 5 = .ok (.iconst 1, 1) := by decide +kernel
theorem dX1_leastPrimePart_6 : decode cX1_leastPrimePart 6 = .ok (.istore_n 2, 1) := by decide +kernel
theorem dX1_leastPrimePart_7 : decode cX1_leastPrimePart 7 = .ok (.iconst 0, 1) := by decide +kernel
theorem dX1_leastPrimePart_8 : decode cX1_leastPrimePart 8 = .ok (.istore_n 3, 1) := by decide +kernel
theorem dX1_leastPrimePart_9 : decode cX1_leastPrimePart 9 = .ok (.iload_n 3, 1) := by decide +kernel
theorem dX1_leastPrimePart_10 : decode cX1_leastPrimePart 10 = .ok (.bipush 14, 2) := by decide +kernel
theorem dX1_leastPrimePart_12 : decode cX1_leastPrimePart 12 = .ok (.if_icmp .ge 21, 3) := by decide +kernel
theorem dX1_leastPrimePart_15 : decode cX1_leastPrimePart 15 = .ok (.iload_n 0, 1) := by decide +kernel
theorem dX1_leastPrimePart_16 : decode cX1_leastPrimePart 16 = .ok (.iload_n 2, 1) := by decide +kernel
theorem dX1_leastPrimePart_17 : decode cX1_leastPrimePart 17 = .ok (.iload_n 1, 1) := by decide +kernel
theorem dX1_leastPrimePart_18 : decode cX1_leastPrimePart 18 = .ok (.imul, 1) := by decide +kernel
theorem dX1_leastPrimePart_19 : decode cX1_leastPrimePart 19 = .ok (.irem, 1) := by decide +kernel
theorem dX1_leastPrimePart_20 : decode cX1_leastPrimePart 20 = .ok (.ifCond .ne 13, 3) := by decide +kernel
theorem dX1_leastPrimePart_23 : decode cX1_leastPrimePart 23 = .ok (.iload_n 2, 1) := by decide +kernel
theorem dX1_leastPrimePart_24 : decode cX1_leastPrimePart 24 = .ok (.iload_n 1, 1) := by decide +kernel
theorem dX1_leastPrimePart_25 : decode cX1_leastPrimePart 25 = .ok (.imul, 1) := by decide +kernel
theorem dX1_leastPrimePart_26 : decode cX1_leastPrimePart 26 = .ok (.istore_n 2, 1) := by decide +kernel
theorem dX1_leastPrimePart_27 : decode cX1_leastPrimePart 27 = .ok (.iinc 3 1, 3) := by decide +kernel
theorem dX1_leastPrimePart_30 : decode cX1_leastPrimePart 30 = .ok (.goto (-21), 3) := by decide +kernel
theorem dX1_leastPrimePart_33 : decode cX1_leastPrimePart 33 = .ok (.iload_n 2, 1) := by decide +kernel
theorem dX1_leastPrimePart_34 : decode cX1_leastPrimePart 34 = .ok (.ireturn, 1) := by decide +kernel
set_option maxRecDepth 20000 in
theorem ggX1_leastPrimitiveRoot_X1_isPrimitiveRoot : GoodIn wsX1_leastPrimitiveRoot wsX1_isPrimitiveRoot := goodIn_r _ [4, 5, 6, 3, 7, 8, 9, 10, 11, 12, 13, 14, 15, 16, 17] (by decide +kernel) (by decide +kernel)
set_option maxRecDepth 20000 in
theorem gX1_leastPrimitiveRoot_X1_isPrimitiveRoot : GoodIn wsX1_leastPrimitiveRoot (va_wsS RX1 23 yX1_isPrimitiveRoot wsX1_isPrimitiveRoot) := goodIn_app (goodIn_of _ (by decide +kernel)) ggX1_leastPrimitiveRoot_X1_isPrimitiveRoot
theorem dX1_leastPrimitiveRoot_0 : decode cX1_leastPrimitiveRoot 0 = .ok (.iconst 1, 1) := by decide +kernel
theorem dX1_leastPrimitiveRoot_1 : decode cX1_leastPrimitiveRoot 1 = .ok (.istore_n 1, 1) := by decide +kernel
theorem dX1_leastPrimitiveRoot_2 : decode cX1_leastPrimitiveRoot 2 = .ok (.iload_n 1, 1) := by decide +kernel
theorem dX1_leastPrimitiveRoot_3 : decode cX1_leastPrimitiveRoot 3 = .ok (.iload_n 0, 1) := by decide +kernel
theorem dX1_leastPrimitiveRoot_4 : decode cX1_leastPrimitiveRoot 4 = .ok (.if_icmp .ge 19, 3) := by decide +kernel
theorem dX1_leastPrimitiveRoot_7 : decode cX1_leastPrimitiveRoot 7 = .ok (.iload_n 1, 1) := by decide +kernel
theorem dX1_leastPrimitiveRoot_8 : decode cX1_leastPrimitiveRoot 8 = .ok (.iload_n 0, 1) := by decide +kernel
theorem dX1_leastPrimitiveRoot_9 : decode cX1_leastPrimitiveRoot 9 = .ok (.invokestatic 23, 3) := by decide +kernel
theorem dX1_leastPrimitiveRoot_12 : decode cX1_leastPrimitiveRoot 12 = .ok (.ifCond .eq 5, 3) := by decide +kernel
theorem dX1_leastPrimitiveRoot_15 : decode cX1_leastPrimitiveRoot 15 = .ok (.iload_n 1, 1) := by decide +kernel
theorem dX1_leastPrimitiveRoot_16 : decode cX1_leastPrimitiveRoot 16 = .ok (.ireturn, 1) := by decide +kernel
theorem dX1_leastPrimitiveRoot_17 : decode cX1_leastPrimitiveRoot 17 = .ok (.iinc 1 1, 3) := by decide +kernel
theorem dX1_leastPrimitiveRoot_20 : decode cX1_leastPrimitiveRoot 20 = .ok (.goto (-18), 3) := by decide +kernel
theorem dX1_leastPrimitiveRoot_23 : decode cX1_leastPrimitiveRoot 23 = .ok (.iconst 1, 1) := by decide +kernel
theorem dX1_leastPrimitiveRoot_24 : decode cX1_leastPrimitiveRoot 24 = .ok (.ireturn, 1) := by decide +kernel
set_option maxRecDepth 20000 in
theorem ggX1_isPrimitiveRoot_X1_leastFactor : GoodIn wsX1_isPrimitiveRoot wsX1_leastFactor := goodIn_r _ [4, 5, 6, 7, 8] (by decide +kernel) (by decide +kernel)
set_option maxRecDepth 20000 in
theorem gX1_isPrimitiveRoot_X1_leastFactor : GoodIn wsX1_isPrimitiveRoot (va_wsS RX1 19 yX1_leastFactor wsX1_leastFactor) := goodIn_app (goodIn_of _ (by decide +kernel)) ggX1_isPrimitiveRoot_X1_leastFactor
set_option maxRecDepth 20000 in
theorem ggX1_isPrimitiveRoot_X1_power : GoodIn wsX1_isPrimitiveRoot wsX1_power := goodIn_r _ [11, 12, 13, 3, 14] (by decide +kernel) (by decide +kernel)
set_option maxRecDepth 20000 in
theorem gX1_isPrimitiveRoot_X1_power : GoodIn wsX1_isPrimitiveRoot (va_wsS RX1 27 yX1_power wsX1_power) := goodIn_app (goodIn_of _ (by decide +kernel)) ggX1_isPrimitiveRoot_X1_power
theorem dX1_isPrimitiveRoot_0 : decode cX1_isPrimitiveRoot 0 = .ok (.iload_n 1, 1) := by decide +kernel
theorem dX1_isPrimitiveRoot_1 : decode cX1_isPrimitiveRoot 1 = .ok (.iconst 1, 1) := by decide +kernel
theorem dX1_isPrimitiveRoot_2 : decode cX1_isPrimitiveRoot 2 = .ok (.isub, 1) := by decide +kernel
theorem dX1_isPrimitiveRoot_3 : decode cX1_isPrimitiveRoot 3 = .ok (.istore_n 2, 1) := by decide +kernel
theorem dX1_isPrimitiveRoot_4 : decode cX1_isPrimitiveRoot 4 = .ok (.iconst 0, 1) := by decide +kernel
theorem dX1_isPrimitiveRoot_5 : decode cX1_isPrimitiveRoot 5 = .ok (.istore_n 3, 1) := by decide +kernel
theorem dX1_isPrimitiveRoot_6 : decode cX1_isPrimitiveRoot 6 = .ok (.iload_n 3, 1) := by decide +kernel
theorem dX1_isPrimitiveRoot_7 : decode cX1_isPrimitiveRoot 7 = .ok (.bipush 14, 2) := by decide +kernel
theorem dX1_isPrimitiveRoot_9 : decode cX1_isPrimitiveRoot 9 = .ok (.if_icmp .ge 42, 3) := by decide +kernel
theorem dX1_isPrimitiveRoot_12 : decode cX1_isPrimitiveRoot 12 = .ok (.iload_n 2, 1) := by decide +kernel
theorem dX1_isPrimitiveRoot_13 : decode cX1_isPrimitiveRoot 13 = .ok (.iconst 1, 1) := by decide +kernel
theorem dX1_isPrimitiveRoot_14 : decode cX1_isPrimitiveRoot 14 = .ok (.if_icmp .le 37, 3) := by decide +kernel
theorem dX1_isPrimitiveRoot_17 : decode cX1_isPrimitiveRoot 17 = .ok (.iload_n 2, 1) := by decide +kernel
theorem dX1_isPrimitiveRoot_18 : decode cX1_isPrimitiveRoot 18 = .ok (.invokestatic 19, 3) := by decide +kernel
theorem dX1_isPrimitiveRoot_21 : decode cX1_isPrimitiveRoot 21 = .ok (.istore 4, 2) := by decide +kernel
theorem dX1_isPrimitiveRoot_23 : decode cX1_isPrimitiveRoot 23 = .ok (.iload_n 0, 1) := by decide +kernel
theorem dX1_isPrimitiveRoot_24 : decode cX1_isPrimitiveRoot 24 = .ok (.iload_n 1, 1) := by decide +kernel
theorem dX1_isPrimitiveRoot_25 : decode cX1_isPrimitiveRoot 25 = .ok (.iconst 1, 1) := by decide +kernel
theorem dX1_isPrimitiveRoot_26 : decode cX1_isPrimitiveRoot 26 = .ok (.isub, 1) := by decide +kernel
theorem dX1_isPrimitiveRoot_27 : decode cX1_isPrimitiveRoot 27 = .ok (.iload 4, 2) := by decide +kernel
theorem dX1_isPrimitiveRoot_29 : decode cX1_isPrimitiveRoot 29 = .ok (.idiv, 1) := by decide +kernel
theorem dX1_isPrimitiveRoot_30 : decode cX1_isPrimitiveRoot 30 = .ok (.iload_n 1, 1) := by decide +kernel
theorem dX1_isPrimitiveRoot_31 : decode cX1_isPrimitiveRoot 31 = .ok (.invokestatic 27, 3) := by decide +kernel
theorem dX1_isPrimitiveRoot_34 : decode cX1_isPrimitiveRoot 34 = .ok (.iconst 1, 1) := by decide +kernel
theorem dX1_isPrimitiveRoot_35 : decode cX1_isPrimitiveRoot 35 = .ok (.if_icmp .ne 5, 3) := by decide +kernel
theorem dX1_isPrimitiveRoot_38 : decode cX1_isPrimitiveRoot 38 = .ok (.iconst 0, 1) := by decide +kernel
theorem dX1_isPrimitiveRoot_39 : decode cX1_isPrimitiveRoot 39 = .ok (.ireturn, 1) := by decide +kernel
theorem dX1_isPrimitiveRoot_40 : decode cX1_isPrimitiveRoot 40 = .ok (.iload_n 2, 1) := by decide +kernel
theorem dX1_isPrimitiveRoot_41 : decode cX1_isPrimitiveRoot 41 = .ok (.iload 4, 2) := by decide +kernel
theorem dX1_isPrimitiveRoot_43 : decode cX1_isPrimitiveRoot 43 = .ok (.idiv, 1) := by decide +kernel
theorem dX1_isPrimitiveRoot_44 : decode cX1_isPrimitiveRoot 44 = .ok (.istore_n 2, 1) := by decide +kernel
theorem dX1_isPrimitiveRoot_45 : decode cX1_isPrimitiveRoot 45 = .ok (.iinc 3 1, 3) := by decide +kernel
theorem dX1_isPrimitiveRoot_48 : decode cX1_isPrimitiveRoot 48 = .ok (.goto (-42), 3) := by decide +kernel
theorem dX1_isPrimitiveRoot_51 : decode cX1_isPrimitiveRoot 51 = .ok (.iconst 1, 1) := by decide +kernel
theorem dX1_isPrimitiveRoot_52 : decode cX1_isPrimitiveRoot 52 = .ok (.ireturn, 1) := by decide +kernel
set_option maxRecDepth 20000 in
theorem ggX2_init_X1_leastPrimitiveRoot : GoodIn wsX2_init wsX1_leastPrimitiveRoot := goodIn_r _ [14, 15, 16, 13, 17, 18, 19, 20, 21, 22, 23, 24, 25, 26, 27, 28, 29, 30] (by decide +kernel) (by decide +kernel)
set_option maxRecDepth 20000 in
theorem gX2_init_X1_leastPrimitiveRoot : GoodIn wsX2_init (va_wsS RX2 22 yX1_leastPrimitiveRoot wsX1_leastPrimitiveRoot) := goodIn_app (goodIn_of _ (by decide +kernel)) ggX2_init_X1_leastPrimitiveRoot
set_option maxRecDepth 20000 in
theorem ggX2_init_X1_power : GoodIn wsX2_init wsX1_power := goodIn_r _ [27, 28, 29, 13, 30] (by decide +kernel) (by decide +kernel)
set_option maxRecDepth 20000 in
theorem gX2_init_X1_power : GoodIn wsX2_init (va_wsS RX2 28 yX1_power wsX1_power) := goodIn_app (goodIn_of _ (by decide +kernel)) ggX2_init_X1_power
set_option maxRecDepth 20000 in
theorem ggX2_init_X1_remainder : GoodIn wsX2_init wsX1_remainder := goodIn_r _ [30] (by decide +kernel) (by decide +kernel)
set_option maxRecDepth 20000 in
theorem gX2_init_X1_remainder : GoodIn wsX2_init (va_wsS RX2 32 yX1_remainder wsX1_remainder) := goodIn_app (goodIn_of _ (by decide +kernel)) ggX2_init_X1_remainder
set_option maxRecDepth 20000 in
theorem ggX2_init_X2_waysetOf : GoodIn wsX2_init wsX2_waysetOf := goodIn_r _ [36, 37, 38, 13, 39, 18, 19, 20, 21, 22, 23, 24, 40, 41, 42] (by decide +kernel) (by decide +kernel)
set_option maxRecDepth 20000 in
theorem gX2_init_X2_waysetOf : GoodIn wsX2_init (va_wsS RX2 39 yX2_waysetOf wsX2_waysetOf) := goodIn_app (goodIn_of _ (by decide +kernel)) ggX2_init_X2_waysetOf
set_option maxRecDepth 20000 in
theorem ggX2_init_X2_hasWay : GoodIn wsX2_init wsX2_hasWay := goodIn_r _ [46, 9, 47, 48, 49, 50, 51, 52] (by decide +kernel) (by decide +kernel)
set_option maxRecDepth 20000 in
theorem gX2_init_X2_hasWay : GoodIn wsX2_init (wsV RX2 45 RX2 yX2_hasWay wsX2_hasWay) := goodIn_app (goodIn_of _ (by decide +kernel)) ggX2_init_X2_hasWay
theorem dX2_init_0 : decode cX2_init 0 = .ok (.aload_n 0, 1) := by decide +kernel
theorem dX2_init_1 : decode cX2_init 1 = .ok (.invokespecial 3, 3) := by decide +kernel
theorem dX2_init_4 : decode cX2_init 4 = .ok (.aload_n 0, 1) := by decide +kernel
theorem dX2_init_5 : decode cX2_init 5 = .ok (.bipush 64, 2) := by decide +kernel
theorem dX2_init_7 : decode cX2_init 7 = .ok (.newarray .int, 2) := by decide +kernel
theorem dX2_init_9 : decode cX2_init 9 = .ok (.putfield 9, 3) := by decide +kernel
theorem dX2_init_12 : decode cX2_init 12 = .ok (.aload_n 0, 1) := by decide +kernel
theorem dX2_init_13 : decode cX2_init 13 = .ok (.iload_n 1, 1) := by decide +kernel
theorem dX2_init_14 : decode cX2_init 14 = .ok (.putfield 15, 3) := by decide +kernel
theorem dX2_init_17 : decode cX2_init 17 = .ok (.aload_n 0, 1) := by decide +kernel
theorem dX2_init_18 : decode cX2_init 18 = .ok (.iload_n 2, 1) := by decide +kernel
theorem dX2_init_19 : decode cX2_init 19 = .ok (.putfield 19, 3) := by decide +kernel
theorem dX2_init_22 : decode cX2_init 22 = .ok (.iload_n 2, 1) := by decide +kernel
theorem dX2_init_23 : decode cX2_init 23 = .ok (.iconst 1, 1) := by decide +kernel
theorem dX2_init_24 : decode cX2_init 24 = .ok (.if_icmp .ge 7, 3) := by decide +kernel
theorem dX2_init_27 : decode cX2_init 27 = .ok (.iconst 0, 1) := by decide +kernel
theorem dX2_init_28 : decode cX2_init 28 = .ok (.goto 8, 3) := by decide +kernel
theorem dX2_init_31 : decode cX2_init 31 = .ok (.iload_n 1, 1) := by decide +kernel
theorem dX2_init_32 : decode cX2_init 32 = .ok (.iconst 1, 1) := by decide +kernel
theorem dX2_init_33 : decode cX2_init 33 = .ok (.isub, 1) := by decide +kernel
theorem dX2_init_34 : decode cX2_init 34 = .ok (.iload_n 2, 1) := by decide +kernel
theorem dX2_init_35 : decode cX2_init 35 = .ok (.idiv, 1) := by decide +kernel
theorem dX2_init_36 : decode cX2_init 36 = .ok (.istore_n 3, 1) := by decide +kernel
theorem dX2_init_37 : decode cX2_init 37 = .ok (.iload_n 1, 1) := by decide +kernel
theorem dX2_init_38 : decode cX2_init 38 = .ok (.invokestatic 22, 3) := by decide +kernel
theorem dX2_init_41 : decode cX2_init 41 = .ok (.iload_n 3, 1) := by decide +kernel
theorem dX2_init_42 : decode cX2_init 42 = .ok (.iload_n 1, 1) := by decide +kernel
theorem dX2_init_43 : decode cX2_init 43 = .ok (.invokestatic 28, 3) := by decide +kernel
theorem dX2_init_46 : decode cX2_init 46 = .ok (.istore 4, 2) := by decide +kernel
theorem dX2_init_48 : decode cX2_init 48 = .ok (.iconst 1, 1) := by decide +kernel
theorem dX2_init_49 : decode cX2_init 49 = .ok (.istore 5, 2) := by decide +kernel
theorem dX2_init_51 : decode cX2_init 51 = .ok (.iconst 0, 1) := by decide +kernel
theorem dX2_init_52 : decode cX2_init 52 = .ok (.istore 6, 2) := by decide +kernel
theorem dX2_init_54 : decode cX2_init 54 = .ok (.iload 6, 2) := by decide +kernel
theorem dX2_init_56 : decode cX2_init 56 = .ok (.iload_n 2, 1) := by decide +kernel
theorem dX2_init_57 : decode cX2_init 57 = .ok (.if_icmp .ge 38, 3) := by decide +kernel
theorem dX2_init_60 : decode cX2_init 60 = .ok (.iload 6, 2) := by decide +kernel
theorem dX2_init_62 : decode cX2_init 62 = .ok (.bipush 64, 2) := by decide +kernel
theorem dX2_init_64 : decode cX2_init 64 = .ok (.if_icmp .ge 31, 3) := by decide +kernel
theorem dX2_init_67 : decode cX2_init 67 = .ok (.aload_n 0, 1) := by decide +kernel
theorem dX2_init_68 : decode cX2_init 68 = .ok (.getfield 9, 3) := by decide +kernel
theorem dX2_init_71 : decode cX2_init 71 = .ok (.iload 6, 2) := by decide +kernel
theorem dX2_init_73 : decode cX2_init 73 = .ok (.iload 5, 2) := by decide +kernel
theorem dX2_init_75 : decode cX2_init 75 = .ok (.iastore, 1) := by decide +kernel
theorem dX2_init_76 : decode cX2_init 76 = .ok (.iload 5, 2) := by decide +kernel
theorem dX2_init_78 : decode cX2_init 78 = .ok (.i2l, 1) := by decide +kernel
theorem dX2_init_79 : decode cX2_init 79 = .ok (.iload 4, 2) := by decide +kernel
theorem dX2_init_81 : decode cX2_init 81 = .ok (.i2l, 1) := by decide +kernel
theorem dX2_init_82 : decode cX2_init 82 = .ok (.lmul, 1) := by decide +kernel
theorem dX2_init_83 : decode cX2_init 83 = .ok (.iload_n 1, 1) := by decide +kernel
theorem dX2_init_84 : decode cX2_init 84 = .ok (.invokestatic 32, 3) := by decide +kernel
theorem dX2_init_87 : decode cX2_init 87 = .ok (.istore 5, 2) := by decide +kernel
theorem dX2_init_89 : decode cX2_init 89 = .ok (.iinc 6 1, 3) := by decide +kernel
theorem dX2_init_92 : decode cX2_init 92 = .ok (.goto (-38), 3) := by decide +kernel
theorem dX2_init_95 : decode cX2_init 95 = .ok (.aload_n 0, 1) := by decide +kernel
theorem dX2_init_96 : decode cX2_init 96 = .ok (.iload_n 2, 1) := by decide +kernel
theorem dX2_init_97 : decode cX2_init 97 = .ok (.iload_n 1, 1) := by decide +kernel
theorem dX2_init_98 : decode cX2_init 98 = .ok (.iconst 2, 1) := by decide +kernel
theorem dX2_init_99 : decode cX2_init 99 = .ok (.isub, 1) := by decide +kernel
theorem dX2_init_100 : decode cX2_init 100 = .ok (.iload_n 1, 1) := by decide +kernel
theorem dX2_init_101 : decode cX2_init 101 = .ok (.invokestatic 28, 3) := by decide +kernel
theorem dX2_init_104 : decode cX2_init 104 = .ok (.putfield 36, 3) := by decide +kernel
theorem dX2_init_107 : decode cX2_init 107 = .ok (.aload_n 0, 1) := by decide +kernel
theorem dX2_init_108 : decode cX2_init 108 = .ok (.iload_n 2, 1) := by decide +kernel
theorem dX2_init_109 : decode cX2_init 109 = .ok (.invokestatic 39, 3) := by decide +kernel
theorem dX2_init_112 : decode cX2_init 112 = .ok (.putfield 42, 3) := by decide +kernel
theorem dX2_init_115 : decode cX2_init 115 = .ok (.aload_n 0, 1) := by decide +kernel
theorem dX2_init_116 : decode cX2_init 116 = .ok (.aload_n 0, 1) := by decide +kernel
theorem dX2_init_117 : decode cX2_init 117 = .ok (.iconst 3, 1) := by decide +kernel
theorem dX2_init_118 : decode cX2_init 118 = .ok (.invokevirtual 45, 3) := by decide +kernel
theorem dX2_init_121 : decode cX2_init 121 = .ok (.ifCond .eq 10, 3) := by decide +kernel
theorem dX2_init_124 : decode cX2_init 124 = .ok (.iload_n 2, 1) := by decide +kernel
theorem dX2_init_125 : decode cX2_init 125 = .ok (.invokestatic 22, 3) := by decide +kernel
theorem dX2_init_128 : decode cX2_init 128 = .ok (.goto 4, 3) := by decide +kernel
theorem dX2_init_131 : decode cX2_init 131 = .ok (.iconst 1, 1) := by decide +kernel
theorem dX2_init_132 : decode cX2_init 132 = .ok (.putfield 49, 3) := by decide +kernel
theorem dX2_init_135 : decode cX2_init 135 = .ok (.return_, 1) := by decide +kernel
set_option maxRecDepth 20000 in
theorem ggX2_waysetOf_X1_leastPrimePart : GoodIn wsX2_waysetOf wsX1_leastPrimePart := goodIn_r _ [4, 5, 6, 3, 7, 8, 9, 10, 11] (by decide +kernel) (by decide +kernel)
set_option maxRecDepth 20000 in
theorem gX2_waysetOf_X1_leastPrimePart : GoodIn wsX2_waysetOf (va_wsS RX2 52 yX1_leastPrimePart wsX1_leastPrimePart) := goodIn_app (goodIn_of _ (by decide +kernel)) ggX2_waysetOf_X1_leastPrimePart
set_option maxRecDepth 20000 in
theorem ggX2_waysetOf_X1_isPrime : GoodIn wsX2_waysetOf wsX1_isPrime := goodIn_r _ [14, 5, 6, 3, 7, 8, 9, 10, 11] (by decide +kernel) (by decide +kernel)
set_option maxRecDepth 20000 in
theorem gX2_waysetOf_X1_isPrime : GoodIn wsX2_waysetOf (va_wsS RX2 55 yX1_isPrime wsX1_isPrime) := goodIn_app (goodIn_of _ (by decide +kernel)) ggX2_waysetOf_X1_isPrime
theorem dX2_waysetOf_0 : decode cX2_waysetOf 0 = .ok (.bipush 19, 2) := by decide +kernel
theorem dX2_waysetOf_2 : decode cX2_waysetOf 2 = .ok (.istore_n 1, 1) := by decide +kernel
theorem dX2_waysetOf_3 : decode cX2_waysetOf 3 = .ok (.iload_n 0, 1) := by decide +kernel
theorem dX2_waysetOf_4 : decode cX2_waysetOf 4 = .ok (.invokestatic 52, 3) := by decide +kernel
theorem dX2_waysetOf_7 : decode cX2_waysetOf 7 = .ok (.iload_n 0, 1) := by decide +kernel
theorem dX2_waysetOf_8 : decode cX2_waysetOf 8 = .ok (.if_icmp .ge 7, 3) := by decide +kernel
theorem dX2_waysetOf_11 : decode cX2_waysetOf 11 = .ok (.iload_n 1, 1) := by decide +kernel
theorem dX2_waysetOf_12 : decode cX2_waysetOf 12 = .ok (.iconst 4, 1) := by decide +kernel
theorem dX2_waysetOf_13 : decode cX2_waysetOf 13 = .ok (.ior, 1) := by decide +kernel
theorem dX2_waysetOf_14 : decode cX2_waysetOf 14 = .ok (.istore_n 1, 1) := by decide +kernel
theorem dX2_waysetOf_15 : decode cX2_waysetOf 15 = .ok (.iload_n 0, 1) := by decide +kernel
theorem dX2_waysetOf_16 : decode cX2_waysetOf 16 = .ok (.iconst 2, 1) := by decide +kernel
theorem dX2_waysetOf_17 : decode cX2_waysetOf 17 = .ok (.if_icmp .le 15, 3) := by decide +kernel
theorem dX2_waysetOf_20 : decode cX2_waysetOf 20 = .ok (.iload_n 0, 1) := by decide +kernel
theorem dX2_waysetOf_21 : decode cX2_waysetOf 21 = .ok (.invokestatic 55, 3) := by decide +kernel
theorem dX2_waysetOf_24 : decode cX2_waysetOf 24 = .ok (.ifCond .eq 8, 3) := by decide +kernel
theorem dX2_waysetOf_27 : decode cX2_waysetOf 27 = .ok (.iload_n 1, 1) := by decide +kernel
theorem dX2_waysetOf_28 : decode cX2_waysetOf 28 = .ok (.bipush 8, 2) := by decide +kernel
theorem dX2_waysetOf_30 : decode cX2_waysetOf 30 = .ok (.ior, 1) := by decide +kernel
theorem dX2_waysetOf_31 : decode cX2_waysetOf 31 = .ok (.istore_n 1, 1) := by decide +kernel
theorem dX2_waysetOf_32 : decode cX2_waysetOf 32 = .ok (.iload_n 1, 1) := by decide +kernel
theorem dX2_waysetOf_33 : decode cX2_waysetOf 33 = .ok (.ireturn, 1) := by decide +kernel
theorem dX2_size_0 : decode cX2_size 0 = .ok (.aload_n 0, 1) := by decide +kernel
theorem dX2_size_1 : decode cX2_size 1 = .ok (.getfield 19, 3) := by decide +kernel
theorem dX2_size_4 : decode cX2_size 4 = .ok (.ireturn, 1) := by decide +kernel
theorem dX2_wayset_0 : decode cX2_wayset 0 = .ok (.aload_n 0, 1) := by decide +kernel
theorem dX2_wayset_1 : decode cX2_wayset 1 = .ok (.getfield 42, 3) := by decide +kernel
theorem dX2_wayset_4 : decode cX2_wayset 4 = .ok (.ireturn, 1) := by decide +kernel
theorem dX2_hasWay_0 : decode cX2_hasWay 0 = .ok (.iload_n 1, 1) := by decide +kernel
theorem dX2_hasWay_1 : decode cX2_hasWay 1 = .ok (.ifCond .lt 24, 3) := by decide +kernel
theorem dX2_hasWay_4 : decode cX2_hasWay 4 = .ok (.iload_n 1, 1) := by decide +kernel
theorem dX2_hasWay_5 : decode cX2_hasWay 5 = .ok (.iconst 4, 1) := by decide +kernel
theorem dX2_hasWay_6 : decode cX2_hasWay 6 = .ok (.if_icmp .gt 19, 3) := by decide +kernel
theorem dX2_hasWay_9 : decode cX2_hasWay 9 = .ok (.aload_n 0, 1) := by decide +kernel
theorem dX2_hasWay_10 : decode cX2_hasWay 10 = .ok (.getfield 42, 3) := by decide +kernel
theorem dX2_hasWay_13 : decode cX2_hasWay 13 = .ok (.iload_n 1, 1) := by decide +kernel
theorem dX2_hasWay_14 : decode cX2_hasWay 14 = .ok (.ishr, 1) := by decide +kernel
theorem dX2_hasWay_15 : decode cX2_hasWay 15 = .ok (.iconst 1, 1) := by decide +kernel
theorem dX2_hasWay_16 : decode cX2_hasWay 16 = .ok (.iand, 1) := by decide +kernel
theorem dX2_hasWay_17 : decode cX2_hasWay 17 = .ok (.iconst 1, 1) := by decide +kernel
theorem dX2_hasWay_18 : decode cX2_hasWay 18 = .ok (.if_icmp .ne 7, 3) := by decide +kernel
theorem dX2_hasWay_21 : decode cX2_hasWay 21 = .ok (.iconst 1, 1) := by decide +kernel
theorem dX2_hasWay_22 : decode cX2_hasWay 22 = .ok (.goto 4, 3) := by decide +kernel
theorem dX2_hasWay_25 : decode cX2_hasWay 25 = .ok (.iconst 0, 1) := by decide +kernel
theorem dX2_hasWay_26 : decode cX2_hasWay 26 = .ok (.ireturn, 1) := by decide +kernel
theorem dX2_generator_0 : decode cX2_generator 0 = .ok (.aload_n 0, 1) := by decide +kernel
theorem dX2_generator_1 : decode cX2_generator 1 = .ok (.getfield 49, 3) := by decide +kernel
theorem dX2_generator_4 : decode cX2_generator 4 = .ok (.ireturn, 1) := by decide +kernel
theorem dX2_backTurn_0 : decode cX2_backTurn 0 = .ok (.aload_n 0, 1) := by decide +kernel
theorem dX2_backTurn_1 : decode cX2_backTurn 1 = .ok (.getfield 19, 3) := by decide +kernel
theorem dX2_backTurn_4 : decode cX2_backTurn 4 = .ok (.iconst 1, 1) := by decide +kernel
theorem dX2_backTurn_5 : decode cX2_backTurn 5 = .ok (.isub, 1) := by decide +kernel
theorem dX2_backTurn_6 : decode cX2_backTurn 6 = .ok (.ireturn, 1) := by decide +kernel
set_option maxRecDepth 20000 in
theorem ggX2_power_X1_remainder : GoodIn wsX2_power wsX1_remainder := goodIn_r _ [6] (by decide +kernel) (by decide +kernel)
set_option maxRecDepth 20000 in
theorem gX2_power_X1_remainder : GoodIn wsX2_power (va_wsS RX2 32 yX1_remainder wsX1_remainder) := goodIn_app (goodIn_of _ (by decide +kernel)) ggX2_power_X1_remainder
theorem dX2_power_0 : decode cX2_power 0 = .ok (.aload_n 0, 1) := by decide +kernel
theorem dX2_power_1 : decode cX2_power 1 = .ok (.getfield 9, 3) := by decide +kernel
theorem dX2_power_4 : decode cX2_power 4 = .ok (.iload_n 1, 1) := by decide +kernel
theorem dX2_power_5 : decode cX2_power 5 = .ok (.i2l, 1) := by decide +kernel
theorem dX2_power_6 : decode cX2_power 6 = .ok (.aload_n 0, 1) := by decide +kernel
theorem dX2_power_7 : decode cX2_power 7 = .ok (.getfield 19, 3) := by decide +kernel
theorem dX2_power_10 : decode cX2_power 10 = .ok (.invokestatic 32, 3) := by decide +kernel
theorem dX2_power_13 : decode cX2_power 13 = .ok (.iaload, 1) := by decide +kernel
theorem dX2_power_14 : decode cX2_power 14 = .ok (.ireturn, 1) := by decide +kernel
set_option maxRecDepth 20000 in
theorem ggX2_remainder_X1_remainder : GoodIn wsX2_remainder wsX1_remainder := goodIn_r _ [5] (by decide +kernel) (by decide +kernel)
set_option maxRecDepth 20000 in
theorem gX2_remainder_X1_remainder : GoodIn wsX2_remainder (va_wsS RX2 32 yX1_remainder wsX1_remainder) := goodIn_app (goodIn_of _ (by decide +kernel)) ggX2_remainder_X1_remainder
theorem dX2_remainder_0 : decode cX2_remainder 0 = .ok (.lload_n 1, 1) := by decide +kernel
theorem dX2_remainder_1 : decode cX2_remainder 1 = .ok (.aload_n 0, 1) := by decide +kernel
theorem dX2_remainder_2 : decode cX2_remainder 2 = .ok (.getfield 15, 3) := by decide +kernel
theorem dX2_remainder_5 : decode cX2_remainder 5 = .ok (.invokestatic 32, 3) := by decide +kernel
theorem dX2_remainder_8 : decode cX2_remainder 8 = .ok (.ireturn, 1) := by decide +kernel
set_option maxRecDepth 20000 in
theorem ggX2_divideBySize_X2_remainder : GoodIn wsX2_divideBySize wsX2_remainder := goodIn_r _ [7, 8, 9, 10, 11, 12, 13, 14, 15, 16, 17, 18] (by decide +kernel) (by decide +kernel)
set_option maxRecDepth 20000 in
theorem gX2_divideBySize_X2_remainder : GoodIn wsX2_divideBySize (wsV RX2 58 RX2 yX2_remainder wsX2_remainder) := goodIn_app (goodIn_of _ (by decide +kernel)) ggX2_divideBySize_X2_remainder
theorem dX2_divideBySize_0 : decode cX2_divideBySize 0 = .ok (.iconst 0, 1) := by decide +kernel
theorem dX2_divideBySize_1 : decode cX2_divideBySize 1 = .ok (.istore_n 2, 1) := by decide +kernel
theorem dX2_divideBySize_2 : decode cX2_divideBySize 2 = .ok (.iload_n 2, 1) := by decide +kernel
theorem dX2_divideBySize_3 : decode cX2_divideBySize 3 = .ok (.aload_n 0, 1) := by decide +kernel
theorem dX2_divideBySize_4 : decode cX2_divideBySize 4 = .ok (.getfield 19, 3) := by decide +kernel
theorem dX2_divideBySize_7 : decode cX2_divideBySize 7 = .ok (.if_icmp .ge 26, 3) := by decide +kernel
theorem dX2_divideBySize_10 : decode cX2_divideBySize 10 = .ok (.aload_n 1, 1) := by decide +kernel
theorem dX2_divideBySize_11 : decode cX2_divideBySize 11 = .ok (.iload_n 2, 1) := by decide +kernel
theorem dX2_divideBySize_12 : decode cX2_divideBySize 12 = .ok (.aload_n 0, 1) := by decide +kernel
theorem dX2_divideBySize_13 : decode cX2_divideBySize 13 = .ok (.aload_n 1, 1) := by decide +kernel
theorem dX2_divideBySize_14 : decode cX2_divideBySize 14 = .ok (.iload_n 2, 1) := by decide +kernel
theorem dX2_divideBySize_15 : decode cX2_divideBySize 15 = .ok (.iaload, 1) := by decide +kernel
theorem dX2_divideBySize_16 : decode cX2_divideBySize 16 = .ok (.i2l, 1) := by decide +kernel
theorem dX2_divideBySize_17 : decode cX2_divideBySize 17 = .ok (.aload_n 0, 1) := by decide +kernel
theorem dX2_divideBySize_18 : decode cX2_divideBySize 18 = .ok (.getfield 36, 3) := by decide +kernel
theorem dX2_divideBySize_21 : decode cX2_divideBySize 21 = .ok (.i2l, 1) := by decide +kernel
theorem dX2_divideBySize_22 : decode cX2_divideBySize 22 = .ok (.lmul, 1) := by decide +kernel
theorem dX2_divideBySize_23 : decode cX2_divideBySize 23 = .ok (.invokevirtual 58, 3) := by decide +kernel
theorem dX2_divideBySize_26 : decode cX2_divideBySize 26 = .ok (.iastore, 1) := by decide +kernel
theorem dX2_divideBySize_27 : decode cX2_divideBySize 27 = .ok (.iinc 2 1, 3) := by decide +kernel
theorem dX2_divideBySize_30 : decode cX2_divideBySize 30 = .ok (.goto (-28), 3) := by decide +kernel
theorem dX2_divideBySize_33 : decode cX2_divideBySize 33 = .ok (.return_, 1) := by decide +kernel
theorem dX3_init_0 : decode cX3_init 0 = .ok (.aload_n 0, 1) := by decide +kernel
theorem dX3_init_1 : decode cX3_init 1 = .ok (.invokespecial 3, 3) := by decide +kernel
theorem dX3_init_4 : decode cX3_init 4 = .ok (.aload_n 0, 1) := by decide +kernel
theorem dX3_init_5 : decode cX3_init 5 = .ok (.bipush 64, 2) := by decide +kernel
theorem dX3_init_7 : decode cX3_init 7 = .ok (.newarray .int, 2) := by decide +kernel
theorem dX3_init_9 : decode cX3_init 9 = .ok (.putfield 9, 3) := by decide +kernel
theorem dX3_init_12 : decode cX3_init 12 = .ok (.return_, 1) := by decide +kernel
theorem dX3_count_0 : decode cX3_count 0 = .ok (.aload_n 0, 1) := by decide +kernel
theorem dX3_count_1 : decode cX3_count 1 = .ok (.getfield 15, 3) := by decide +kernel
theorem dX3_count_4 : decode cX3_count 4 = .ok (.ireturn, 1) := by decide +kernel
theorem dX3_entry_0 : decode cX3_entry 0 = .ok (.iload_n 1, 1) := by decide +kernel
theorem dX3_entry_1 : decode cX3_entry 1 = .ok (.ifCond .lt 11, 3) := by decide +kernel
theorem dX3_entry_4 : decode cX3_entry 4 = .ok (.iload_n 1, 1) := by decide +kernel
theorem dX3_entry_5 : decode cX3_entry 5 = .ok (.aload_n 0, 1) := by decide +kernel
theorem dX3_entry_6 : decode cX3_entry 6 = .ok (.getfield 15, 3) := by decide +kernel
theorem dX3_entry_9 : decode cX3_entry 9 = .ok (.if_icmp .lt 7, 3) := by decide +kernel
theorem dX3_entry_12 : decode cX3_entry 12 = .ok (.iconst 0, 1) := by decide +kernel
theorem dX3_entry_13 : decode cX3_entry 13 = .ok (.goto 9, 3) := by decide +kernel
theorem dX3_entry_16 : decode cX3_entry 16 = .ok (.aload_n 0, 1) := by decide +kernel
theorem dX3_entry_17 : decode cX3_entry 17 = .ok (.getfield 9, 3) := by decide +kernel
theorem dX3_entry_20 : decode cX3_entry 20 = .ok (.iload_n 1, 1) := by decide +kernel
theorem dX3_entry_21 : decode cX3_entry 21 = .ok (.iaload, 1) := by decide +kernel
theorem dX3_entry_22 : decode cX3_entry 22 = .ok (.ireturn, 1) := by decide +kernel
theorem dX3_add_0 : decode cX3_add 0 = .ok (.aload_n 0, 1) := by decide +kernel
theorem dX3_add_1 : decode cX3_add 1 = .ok (.getfield 15, 3) := by decide +kernel
theorem dX3_add_4 : decode cX3_add 4 = .ok (.bipush 64, 2) := by decide +kernel
theorem dX3_add_6 : decode cX3_add 6 = .ok (.if_icmp .lt 5, 3) := by decide +kernel
theorem dX3_add_9 : decode cX3_add 9 = .ok (.iconst 0, 1) := by decide +kernel
theorem dX3_add_10 : decode cX3_add 10 = .ok (.ireturn, 1) := by decide +kernel
theorem dX3_add_11 : decode cX3_add 11 = .ok (.aload_n 0, 1) := by decide +kernel
theorem dX3_add_12 : decode cX3_add 12 = .ok (.getfield 9, 3) := by decide +kernel
theorem dX3_add_15 : decode cX3_add 15 = .ok (.aload_n 0, 1) := by decide +kernel
theorem dX3_add_16 : decode cX3_add 16 = .ok (.getfield 15, 3) := by decide +kernel
theorem dX3_add_19 : decode cX3_add 19 = .ok (.iload_n 1, 1) := by decide +kernel
theorem dX3_add_20 : decode cX3_add 20 = .ok (.iastore, 1) := by decide +kernel
theorem dX3_add_21 : decode cX3_add 21 = .ok (.aload_n 0, 1) := by decide +kernel
theorem dX3_add_22 : decode cX3_add 22 = .ok (.dup, 1) := by decide +kernel
theorem dX3_add_23 : decode cX3_add 23 = .ok (.getfield 15, 3) := by decide +kernel
theorem dX3_add_26 : decode cX3_add 26 = .ok (.iconst 1, 1) := by decide +kernel
theorem dX3_add_27 : decode cX3_add 27 = .ok (.iadd, 1) := by decide +kernel
theorem dX3_add_28 : decode cX3_add 28 = .ok (.putfield 15, 3) := by decide +kernel
theorem dX3_add_31 : decode cX3_add 31 = .ok (.iconst 1, 1) := by decide +kernel
theorem dX3_add_32 : decode cX3_add 32 = .ok (.ireturn, 1) := by decide +kernel
theorem dX3_empty_0 : decode cX3_empty 0 = .ok (.aload_n 0, 1) := by decide +kernel
theorem dX3_empty_1 : decode cX3_empty 1 = .ok (.iconst 0, 1) := by decide +kernel
theorem dX3_empty_2 : decode cX3_empty 2 = .ok (.putfield 15, 3) := by decide +kernel
theorem dX3_empty_5 : decode cX3_empty 5 = .ok (.return_, 1) := by decide +kernel
theorem dX3_take_0 : decode cX3_take 0 = .ok (.aload_n 0, 1) := by decide +kernel
theorem dX3_take_1 : decode cX3_take 1 = .ok (.iload_n 2, 1) := by decide +kernel
theorem dX3_take_2 : decode cX3_take 2 = .ok (.bipush 64, 2) := by decide +kernel
theorem dX3_take_4 : decode cX3_take 4 = .ok (.invokestatic 19, 3) := by decide +kernel
theorem dX3_take_7 : decode cX3_take 7 = .ok (.putfield 15, 3) := by decide +kernel
theorem dX3_take_10 : decode cX3_take 10 = .ok (.iconst 0, 1) := by decide +kernel
theorem dX3_take_11 : decode cX3_take 11 = .ok (.istore_n 3, 1) := by decide +kernel
theorem dX3_take_12 : decode cX3_take 12 = .ok (.iload_n 3, 1) := by decide +kernel
theorem dX3_take_13 : decode cX3_take 13 = .ok (.aload_n 0, 1) := by decide +kernel
theorem dX3_take_14 : decode cX3_take 14 = .ok (.getfield 15, 3) := by decide +kernel
theorem dX3_take_17 : decode cX3_take 17 = .ok (.if_icmp .ge 18, 3) := by decide +kernel
theorem dX3_take_20 : decode cX3_take 20 = .ok (.aload_n 0, 1) := by decide +kernel
theorem dX3_take_21 : decode cX3_take 21 = .ok (.getfield 9, 3) := by decide +kernel
theorem dX3_take_24 : decode cX3_take 24 = .ok (.iload_n 3, 1) := by decide +kernel
theorem dX3_take_25 : decode cX3_take 25 = .ok (.aload_n 1, 1) := by decide +kernel
theorem dX3_take_26 : decode cX3_take 26 = .ok (.iload_n 3, 1) := by decide +kernel
theorem dX3_take_27 : decode cX3_take 27 = .ok (.iaload, 1) := by decide +kernel
theorem dX3_take_28 : decode cX3_take 28 = .ok (.iastore, 1) := by decide +kernel
theorem dX3_take_29 : decode cX3_take 29 = .ok (.iinc 3 1, 3) := by decide +kernel
theorem dX3_take_32 : decode cX3_take 32 = .ok (.goto (-20), 3) := by decide +kernel
theorem dX3_take_35 : decode cX3_take 35 = .ok (.return_, 1) := by decide +kernel
set_option maxRecDepth 20000 in
theorem ggX3_takeRow_X3_take : GoodIn wsX3_takeRow wsX3_take := goodIn_r _ [7, 8, 9, 10, 11, 2, 1, 12, 13] (by decide +kernel) (by decide +kernel)
set_option maxRecDepth 20000 in
theorem gX3_takeRow_X3_take : GoodIn wsX3_takeRow (wsV RX3 25 RX3 yX3_take wsX3_take) := goodIn_app (goodIn_of _ (by decide +kernel)) ggX3_takeRow_X3_take
theorem dX3_takeRow_0 : decode cX3_takeRow 0 = .ok (.aload_n 0, 1) := by decide +kernel
theorem dX3_takeRow_1 : decode cX3_takeRow 1 = .ok (.aload_n 1, 1) := by decide +kernel
theorem dX3_takeRow_2 : decode cX3_takeRow 2 = .ok (.getfield 9, 3) := by decide +kernel
theorem dX3_takeRow_5 : decode cX3_takeRow 5 = .ok (.aload_n 1, 1) := by decide +kernel
theorem dX3_takeRow_6 : decode cX3_takeRow 6 = .ok (.getfield 15, 3) := by decide +kernel
theorem dX3_takeRow_9 : decode cX3_takeRow 9 = .ok (.invokevirtual 25, 3) := by decide +kernel
theorem dX3_takeRow_12 : decode cX3_takeRow 12 = .ok (.return_, 1) := by decide +kernel
theorem dX3_isWithin_0 : decode cX3_isWithin 0 = .ok (.iconst 0, 1) := by decide +kernel
theorem dX3_isWithin_1 : decode cX3_isWithin 1 = .ok (.istore_n 3, 1) := by decide +kernel
theorem dX3_isWithin_2 : decode cX3_isWithin 2 = .ok (.iload_n 3, 1) := by decide +kernel
theorem dX3_isWithin_3 : decode cX3_isWithin 3 = .ok (.aload_n 0, 1) := by decide +kernel
theorem dX3_isWithin_4 : decode cX3_isWithin 4 = .ok (.getfield 15, 3) := by decide +kernel
theorem dX3_isWithin_7 : decode cX3_isWithin 7 = .ok (.if_icmp .ge 31, 3) := by decide +kernel
theorem dX3_isWithin_10 : decode cX3_isWithin 10 = .ok (.aload_n 0, 1) := by decide +kernel
theorem dX3_isWithin_11 : decode cX3_isWithin 11 = .ok (.getfield 9, 3) := by decide +kernel
theorem dX3_isWithin_14 : decode cX3_isWithin 14 = .ok (.iload_n 3, 1) := by decide +kernel
theorem dX3_isWithin_15 : decode cX3_isWithin 15 = .ok (.iaload, 1) := by decide +kernel
theorem dX3_isWithin_16 : decode cX3_isWithin 16 = .ok (.iload_n 1, 1) := by decide +kernel
theorem dX3_isWithin_17 : decode cX3_isWithin 17 = .ok (.if_icmp .lt 13, 3) := by decide +kernel
theorem dX3_isWithin_20 : decode cX3_isWithin 20 = .ok (.aload_n 0, 1) := by decide +kernel
theorem dX3_isWithin_21 : decode cX3_isWithin 21 = .ok (.getfield 9, 3) := by decide +kernel
theorem dX3_isWithin_24 : decode cX3_isWithin 24 = .ok (.iload_n 3, 1) := by decide +kernel
theorem dX3_isWithin_25 : decode cX3_isWithin 25 = .ok (.iaload, 1) := by decide +kernel
theorem dX3_isWithin_26 : decode cX3_isWithin 26 = .ok (.iload_n 2, 1) := by decide +kernel
theorem dX3_isWithin_27 : decode cX3_isWithin 27 = .ok (.if_icmp .le 5, 3) := by decide +kernel
theorem dX3_isWithin_30 : decode cX3_isWithin 30 = .ok (.iconst 0, 1) := by decide +kernel
theorem dX3_isWithin_31 : decode cX3_isWithin 31 = .ok (.ireturn, 1) := by decide +kernel
theorem dX3_isWithin_32 : decode cX3_isWithin 32 = .ok (.iinc 3 1, 3) := by decide +kernel
theorem dX3_isWithin_35 : decode cX3_isWithin 35 = .ok (.goto (-33), 3) := by decide +kernel
theorem dX3_isWithin_38 : decode cX3_isWithin 38 = .ok (.iconst 1, 1) := by decide +kernel
theorem dX3_isWithin_39 : decode cX3_isWithin 39 = .ok (.ireturn, 1) := by decide +kernel
set_option maxRecDepth 20000 in
theorem ggX3_loadRemainders_X2_size : GoodIn wsX3_loadRemainders wsX2_size := goodIn_r _ [5, 6, 23, 24, 25, 26, 27, 28] (by decide +kernel) (by decide +kernel)
set_option maxRecDepth 20000 in
theorem gX3_loadRemainders_X2_size : GoodIn wsX3_loadRemainders (wsV RX3 29 RX2 yX2_size wsX2_size) := goodIn_app (goodIn_of _ (by decide +kernel)) ggX3_loadRemainders_X2_size
set_option maxRecDepth 20000 in
theorem ggX3_loadRemainders_X3_entry : GoodIn wsX3_loadRemainders wsX3_entry := goodIn_r _ [11, 12, 13, 29, 30] (by decide +kernel) (by decide +kernel)
set_option maxRecDepth 20000 in
theorem gX3_loadRemainders_X3_entry : GoodIn wsX3_loadRemainders (wsV RX3 35 RX3 yX3_entry wsX3_entry) := goodIn_app (goodIn_of _ (by decide +kernel)) ggX3_loadRemainders_X3_entry
set_option maxRecDepth 20000 in
theorem ggX3_loadRemainders_X2_remainder : GoodIn wsX3_loadRemainders wsX2_remainder := goodIn_r _ [17, 18, 19, 20, 21, 22, 23, 24, 25, 26, 27, 28] (by decide +kernel) (by decide +kernel)
set_option maxRecDepth 20000 in
theorem gX3_loadRemainders_X2_remainder : GoodIn wsX3_loadRemainders (wsV RX3 39 RX2 yX2_remainder wsX2_remainder) := goodIn_app (goodIn_of _ (by decide +kernel)) ggX3_loadRemainders_X2_remainder
theorem dX3_loadRemainders_0 : decode cX3_loadRemainders 0 = .ok (.iconst 0, 1) := by decide +kernel
theorem dX3_loadRemainders_1 : decode cX3_loadRemainders 1 = .ok (.istore_n 3, 1) := by decide +kernel
theorem dX3_loadRemainders_2 : decode cX3_loadRemainders 2 = .ok (.iload_n 3, 1) := by decide +kernel
theorem dX3_loadRemainders_3 : decode cX3_loadRemainders 3 = .ok (.aload_n 1, 1) := by decide +kernel
theorem dX3_loadRemainders_4 : decode cX3_loadRemainders 4 = .ok (.invokevirtual 29, 3) := by decide +kernel
theorem dX3_loadRemainders_7 : decode cX3_loadRemainders 7 = .ok (.if_icmp .ge 22, 3) := by decide +kernel
theorem dX3_loadRemainders_10 : decode cX3_loadRemainders 10 = .ok (.aload_n 2, 1) := by decide +kernel
theorem dX3_loadRemainders_11 : decode cX3_loadRemainders 11 = .ok (.iload_n 3, 1) := by decide +kernel
theorem dX3_loadRemainders_12 : decode cX3_loadRemainders 12 = .ok (.aload_n 1, 1) := by decide +kernel
theorem dX3_loadRemainders_13 : decode cX3_loadRemainders 13 = .ok (.aload_n 0, 1) := by decide +kernel
theorem dX3_loadRemainders_14 : decode cX3_loadRemainders 14 = .ok (.iload_n 3, 1) := by decide +kernel
theorem dX3_loadRemainders_15 : decode cX3_loadRemainders 15 = .ok (.invokevirtual 35, 3) := by decide +kernel
theorem dX3_loadRemainders_18 : decode cX3_loadRemainders 18 = .ok (.i2l, 1) := by decide +kernel
theorem dX3_loadRemainders_19 : decode cX3_loadRemainders 19 = .ok (.invokevirtual 39, 3) := by decide +kernel
theorem dX3_loadRemainders_22 : decode cX3_loadRemainders 22 = .ok (.iastore, 1) := by decide +kernel
theorem dX3_loadRemainders_23 : decode cX3_loadRemainders 23 = .ok (.iinc 3 1, 3) := by decide +kernel
theorem dX3_loadRemainders_26 : decode cX3_loadRemainders 26 = .ok (.goto (-24), 3) := by decide +kernel
theorem dX3_loadRemainders_29 : decode cX3_loadRemainders 29 = .ok (.return_, 1) := by decide +kernel

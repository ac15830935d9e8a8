theorem dX4_init_0 : decode cX4_init 0 = .ok (.aload_n 0, 1) := by decide +kernel
theorem dX4_init_1 : decode cX4_init 1 = .ok (.invokespecial 3, 3) := by decide +kernel
theorem dX4_init_4 : decode cX4_init 4 = .ok (.aload_n 0, 1) := by decide +kernel
theorem dX4_init_5 : decode cX4_init 5 = .ok (.bipush 64, 2) := by decide +kernel
theorem dX4_init_7 : decode cX4_init 7 = .ok (.newarray .int, 2) := by decide +kernel
theorem dX4_init_9 : decode cX4_init 9 = .ok (.putfield 9, 3) := by decide +kernel
theorem dX4_init_12 : decode cX4_init 12 = .ok (.aload_n 0, 1) := by decide +kernel
theorem dX4_init_13 : decode cX4_init 13 = .ok (.bipush 64, 2) := by decide +kernel
theorem dX4_init_15 : decode cX4_init 15 = .ok (.newarray .int, 2) := by decide +kernel
theorem dX4_init_17 : decode cX4_init 17 = .ok (.putfield 15, 3) := by decide +kernel
theorem dX4_init_20 : decode cX4_init 20 = .ok (.aload_n 0, 1) := by decide +kernel
theorem dX4_init_21 : decode cX4_init 21 = .ok (.bipush 64, 2) := by decide +kernel
theorem dX4_init_23 : decode cX4_init 23 = .ok (.newarray .int, 2) := by decide +kernel
theorem dX4_init_25 : decode cX4_init 25 = .ok (.putfield 18, 3) := by decide +kernel
theorem dX4_init_28 : decode cX4_init 28 = .ok (.aload_n 0, 1) := by decide +kernel
theorem dX4_init_29 : decode cX4_init 29 = .ok (.bipush 64, 2) := by decide +kernel
theorem dX4_init_31 : decode cX4_init 31 = .ok (.newarray .int, 2) := by decide +kernel
theorem dX4_init_33 : decode cX4_init 33 = .ok (.putfield 21, 3) := by decide +kernel
theorem dX4_init_36 : decode cX4_init 36 = .ok (.aload_n 0, 1) := by decide +kernel
theorem dX4_init_37 : decode cX4_init 37 = .ok (.sipush 128, 3) := by decide +kernel
theorem dX4_init_40 : decode cX4_init 40 = .ok (.newarray .int, 2) := by decide +kernel
theorem dX4_init_42 : decode cX4_init 42 = .ok (.putfield 24, 3) := by decide +kernel
theorem dX4_init_45 : decode cX4_init 45 = .ok (.return_, 1) := by decide +kernel
set_option maxRecDepth 20000 in
theorem ggX4_bySums_X2_size : GoodIn wsX4_bySums wsX2_size := goodIn_r _ [6, 7, 35, 36, 37, 38, 39, 40] (by decide +kernel) (by decide +kernel)
set_option maxRecDepth 20000 in
theorem gX4_bySums_X2_size : GoodIn wsX4_bySums (wsV RX4 27 RX2 yX2_size wsX2_size) := goodIn_app (goodIn_of _ (by decide +kernel)) ggX4_bySums_X2_size
set_option maxRecDepth 20000 in
theorem ggX4_bySums_X4_transformedEntry : GoodIn wsX4_bySums wsX4_transformedEntry := goodIn_r _ [11, 2, 3, 4, 5, 6, 7, 12, 13, 14, 15, 16, 17, 18, 19, 20, 21, 22, 23, 24, 25, 35, 36, 37, 38, 39, 40] (by decide +kernel) (by decide +kernel)
set_option maxRecDepth 20000 in
theorem gX4_bySums_X4_transformedEntry : GoodIn wsX4_bySums (va_wsS RX4 33 yX4_transformedEntry wsX4_transformedEntry) := goodIn_app (goodIn_of _ (by decide +kernel)) ggX4_bySums_X4_transformedEntry
set_option maxRecDepth 20000 in
theorem ggX4_bySums_X4_copyMade : GoodIn wsX4_bySums wsX4_copyMade := goodIn_r _ [29, 1, 30, 31, 32, 33, 34] (by decide +kernel) (by decide +kernel)
set_option maxRecDepth 20000 in
theorem gX4_bySums_X4_copyMade : GoodIn wsX4_bySums (wsV RX4 37 RX4 yX4_copyMade wsX4_copyMade) := goodIn_app (goodIn_of _ (by decide +kernel)) ggX4_bySums_X4_copyMade
theorem dX4_bySums_0 : decode cX4_bySums 0 = .ok (.iconst 0, 1) := by decide +kernel
theorem dX4_bySums_1 : decode cX4_bySums 1 = .ok (.istore 4, 2) := by decide +kernel
theorem dX4_bySums_3 : decode cX4_bySums 3 = .ok (.iload 4, 2) := by decide +kernel
theorem dX4_bySums_5 : decode cX4_bySums 5 = .ok (.aload_n 1, 1) := by decide +kernel
theorem dX4_bySums_6 : decode cX4_bySums 6 = .ok (.invokevirtual 27, 3) := by decide +kernel
theorem dX4_bySums_9 : decode cX4_bySums 9 = .ok (.if_icmp .ge 24, 3) := by decide +kernel
theorem dX4_bySums_12 : decode cX4_bySums 12 = .ok (.aload_n 0, 1) := by decide +kernel
theorem dX4_bySums_13 : decode cX4_bySums 13 = .ok (.getfield 9, 3) := by decide +kernel
theorem dX4_bySums_16 : decode cX4_bySums 16 = .ok (.iload 4, 2) := by decide +kernel
theorem dX4_bySums_18 : decode cX4_bySums 18 = .ok (.aload_n 1, 1) := by decide +kernel
theorem dX4_bySums_19 : decode cX4_bySums 19 = .ok (.aload_n 2, 1) := by decide +kernel
theorem dX4_bySums_20 : decode cX4_bySums 20 = .ok (.iload_n 3, 1) := by decide +kernel
theorem dX4_bySums_21 : decode cX4_bySums 21 = .ok (.iload 4, 2) := by decide +kernel
theorem dX4_bySums_23 : decode cX4_bySums 23 = .ok (.invokestatic 33, 3) := by decide +kernel
theorem dX4_bySums_26 : decode cX4_bySums 26 = .ok (.iastore, 1) := by decide +kernel
theorem dX4_bySums_27 : decode cX4_bySums 27 = .ok (.iinc 4 1, 3) := by decide +kernel
theorem dX4_bySums_30 : decode cX4_bySums 30 = .ok (.goto (-27), 3) := by decide +kernel
theorem dX4_bySums_33 : decode cX4_bySums 33 = .ok (.aload_n 0, 1) := by decide +kernel
theorem dX4_bySums_34 : decode cX4_bySums 34 = .ok (.aload_n 2, 1) := by decide +kernel
theorem dX4_bySums_35 : decode cX4_bySums 35 = .ok (.aload_n 1, 1) := by decide +kernel
theorem dX4_bySums_36 : decode cX4_bySums 36 = .ok (.invokevirtual 27, 3) := by decide +kernel
theorem dX4_bySums_39 : decode cX4_bySums 39 = .ok (.invokevirtual 37, 3) := by decide +kernel
theorem dX4_bySums_42 : decode cX4_bySums 42 = .ok (.return_, 1) := by decide +kernel
set_option maxRecDepth 20000 in
theorem ggX4_transformedEntry_X2_size : GoodIn wsX4_transformedEntry wsX2_size := goodIn_r _ [5, 6, 21, 22, 23, 24, 25, 26] (by decide +kernel) (by decide +kernel)
set_option maxRecDepth 20000 in
theorem gX4_transformedEntry_X2_size : GoodIn wsX4_transformedEntry (wsV RX4 27 RX2 yX2_size wsX2_size) := goodIn_app (goodIn_of _ (by decide +kernel)) ggX4_transformedEntry_X2_size
set_option maxRecDepth 20000 in
theorem ggX4_transformedEntry_X2_power : GoodIn wsX4_transformedEntry wsX2_power := goodIn_r _ [10, 11, 6, 12, 13, 14, 15, 21, 22, 23, 24, 25, 26] (by decide +kernel) (by decide +kernel)
set_option maxRecDepth 20000 in
theorem gX4_transformedEntry_X2_power : GoodIn wsX4_transformedEntry (wsV RX4 41 RX2 yX2_power wsX2_power) := goodIn_app (goodIn_of _ (by decide +kernel)) ggX4_transformedEntry_X2_power
set_option maxRecDepth 20000 in
theorem ggX4_transformedEntry_X2_remainder : GoodIn wsX4_transformedEntry wsX2_remainder := goodIn_r _ [19, 20, 12, 13, 14, 15, 21, 22, 23, 24, 25, 26] (by decide +kernel) (by decide +kernel)
set_option maxRecDepth 20000 in
theorem gX4_transformedEntry_X2_remainder : GoodIn wsX4_transformedEntry (wsV RX4 45 RX2 yX2_remainder wsX2_remainder) := goodIn_app (goodIn_of _ (by decide +kernel)) ggX4_transformedEntry_X2_remainder
theorem dX4_transformedEntry_0 : decode cX4_transformedEntry 0 = .ok (.lconst 0, 1) := by decide +kernel
theorem dX4_transformedEntry_1 : decode cX4_transformedEntry 1 = .ok (.lstore 4, 2) := by decide +kernel
theorem dX4_transformedEntry_3 : decode cX4_transformedEntry 3 = .ok (.iconst 0, 1) := by decide +kernel
theorem dX4_transformedEntry_4 : decode cX4_transformedEntry 4 = .ok (.istore 6, 2) := by decide +kernel
theorem dX4_transformedEntry_6 : decode cX4_transformedEntry 6 = .ok (.iload 6, 2) := by decide +kernel
theorem dX4_transformedEntry_8 : decode cX4_transformedEntry 8 = .ok (.aload_n 0, 1) := by decide +kernel
theorem dX4_transformedEntry_9 : decode cX4_transformedEntry 9 = .ok (.invokevirtual 27, 3) := by decide +kernel
theorem dX4_transformedEntry_12 : decode cX4_transformedEntry 12 = .ok (.if_icmp .ge 31, 3) := by decide +kernel
theorem dX4_transformedEntry_15 : decode cX4_transformedEntry 15 = .ok (.lload 4, 2) := by decide +kernel
theorem dX4_transformedEntry_17 : decode cX4_transformedEntry 17 = .ok (.aload_n 1, 1) := by decide +kernel
theorem dX4_transformedEntry_18 : decode cX4_transformedEntry 18 = .ok (.iload 6, 2) := by decide +kernel
theorem dX4_transformedEntry_20 : decode cX4_transformedEntry 20 = .ok (.iaload, 1) := by decide +kernel
theorem dX4_transformedEntry_21 : decode cX4_transformedEntry 21 = .ok (.i2l, 1) := by decide +kernel
theorem dX4_transformedEntry_22 : decode cX4_transformedEntry 22 = .ok (.aload_n 0, 1) := by decide +kernel
theorem dX4_transformedEntry_23 : decode cX4_transformedEntry 23 = .ok (.iload_n 2, 1) := by decide +kernel
theorem dX4_transformedEntry_24 : decode cX4_transformedEntry 24 = .ok (.iload 6, 2) := by decide +kernel
theorem dX4_transformedEntry_26 : decode cX4_transformedEntry 26 = .ok (.imul, 1) := by decide +kernel
theorem dX4_transformedEntry_27 : decode cX4_transformedEntry 27 = .ok (.iload_n 3, 1) := by decide +kernel
theorem dX4_transformedEntry_28 : decode cX4_transformedEntry 28 = .ok (.imul, 1) := by decide +kernel
theorem dX4_transformedEntry_29 : decode cX4_transformedEntry 29 = .ok (.invokevirtual 41, 3) := by decide +kernel
theorem dX4_transformedEntry_32 : decode cX4_transformedEntry 32 = .ok (.i2l, 1) := by decide +kernel
theorem dX4_transformedEntry_33 : decode cX4_transformedEntry 33 = .ok (.lmul, 1) := by decide +kernel
theorem dX4_transformedEntry_34 : decode cX4_transformedEntry 34 = .ok (.ladd, 1) := by decide +kernel
theorem dX4_transformedEntry_35 : decode cX4_transformedEntry 35 = .ok (.lstore 4, 2) := by decide +kernel
theorem dX4_transformedEntry_37 : decode cX4_transformedEntry 37 = .ok (.iinc 6 1, 3) := by decide +kernel
theorem dX4_transformedEntry_40 : decode cX4_transformedEntry 40 = .ok (.goto (-34), 3) := by decide +kernel
theorem dX4_transformedEntry_43 : decode cX4_transformedEntry 43 = .ok (.aload_n 0, 1) := by decide +kernel
theorem dX4_transformedEntry_44 : decode cX4_transformedEntry 44 = .ok (.lload 4, 2) := by decide +kernel
theorem dX4_transformedEntry_46 : decode cX4_transformedEntry 46 = .ok (.invokevirtual 45, 3) := by decide +kernel
theorem dX4_transformedEntry_49 : decode cX4_transformedEntry 49 = .ok (.ireturn, 1) := by decide +kernel
set_option maxRecDepth 20000 in
theorem ggX4_byMixedRadices_X1_leastFactor : GoodIn wsX4_byMixedRadices wsX1_leastFactor := goodIn_r _ [4, 5, 6, 7, 8] (by decide +kernel) (by decide +kernel)
set_option maxRecDepth 20000 in
theorem gX4_byMixedRadices_X1_leastFactor : GoodIn wsX4_byMixedRadices (va_wsS RX4 49 yX1_leastFactor wsX1_leastFactor) := goodIn_app (goodIn_of _ (by decide +kernel)) ggX4_byMixedRadices_X1_leastFactor
set_option maxRecDepth 20000 in
theorem ggX4_byMixedRadices_X4_pass : GoodIn wsX4_byMixedRadices wsX4_pass := goodIn_r _ [13, 14, 15, 16, 17, 18, 19, 20, 21, 22, 23, 3, 24, 25, 26, 27, 28, 29, 30, 31, 32, 12, 33, 34, 35, 36, 37, 38, 39, 40, 41, 42, 43, 44] (by decide +kernel) (by decide +kernel)
set_option maxRecDepth 20000 in
theorem gX4_byMixedRadices_X4_pass : GoodIn wsX4_byMixedRadices (wsV RX4 54 RX4 yX4_pass wsX4_pass) := goodIn_app (goodIn_of _ (by decide +kernel)) ggX4_byMixedRadices_X4_pass
theorem dX4_byMixedRadices_0 : decode cX4_byMixedRadices 0 = .ok (.iconst 1, 1) := by decide +kernel
theorem dX4_byMixedRadices_1 : decode cX4_byMixedRadices 1 = .ok (.istore 5, 2) := by decide +kernel
theorem dX4_byMixedRadices_3 : decode cX4_byMixedRadices 3 = .ok (.iload_n 3, 1) := by decide +kernel
theorem dX4_byMixedRadices_4 : decode cX4_byMixedRadices 4 = .ok (.istore 6, 2) := by decide +kernel
theorem dX4_byMixedRadices_6 : decode cX4_byMixedRadices 6 = .ok (.iconst 0, 1) := by decide +kernel
theorem dX4_byMixedRadices_7 : decode cX4_byMixedRadices 7 = .ok (.istore 7, 2) := by decide +kernel
theorem dX4_byMixedRadices_9 : decode cX4_byMixedRadices 9 = .ok (.iload 7, 2) := by decide +kernel
theorem dX4_byMixedRadices_11 : decode cX4_byMixedRadices 11 = .ok (.bipush 6, 2) := by decide +kernel
theorem dX4_byMixedRadices_13 : decode cX4_byMixedRadices 13 = .ok (.if_icmp .ge 50, 3) := by decide +kernel
theorem dX4_byMixedRadices_16 : decode cX4_byMixedRadices 16 = .ok (.iload 6, 2) := by decide +kernel
theorem dX4_byMixedRadices_18 : decode cX4_byMixedRadices 18 = .ok (.iconst 1, 1) := by decide +kernel
theorem dX4_byMixedRadices_19 : decode cX4_byMixedRadices 19 = .ok (.if_icmp .le 44, 3) := by decide +kernel
theorem dX4_byMixedRadices_22 : decode cX4_byMixedRadices 22 = .ok (.iload 6, 2) := by decide +kernel
theorem dX4_byMixedRadices_24 : decode cX4_byMixedRadices 24 = .ok (.invokestatic 49, 3) := by decide +kernel
theorem dX4_byMixedRadices_27 : decode cX4_byMixedRadices 27 = .ok (.istore 8, 2) := by decide +kernel
theorem dX4_byMixedRadices_29 : decode cX4_byMixedRadices 29 = .ok (.iload 6, 2) := by decide +kernel
theorem dX4_byMixedRadices_31 : decode cX4_byMixedRadices 31 = .ok (.iload 8, 2) := by decide +kernel
theorem dX4_byMixedRadices_33 : decode cX4_byMixedRadices 33 = .ok (.idiv, 1) := by decide +kernel
theorem dX4_byMixedRadices_34 : decode cX4_byMixedRadices 34 = .ok (.istore 6, 2) := by decide +kernel
theorem dX4_byMixedRadices_36 : decode cX4_byMixedRadices 36 = .ok (.aload_n 0, 1) := by decide +kernel
theorem dX4_byMixedRadices_37 : decode cX4_byMixedRadices 37 = .ok (.aload_n 1, 1) := by decide +kernel
theorem dX4_byMixedRadices_38 : decode cX4_byMixedRadices 38 = .ok (.aload_n 2, 1) := by decide +kernel
theorem dX4_byMixedRadices_39 : decode cX4_byMixedRadices 39 = .ok (.iload 4, 2) := by decide +kernel
theorem dX4_byMixedRadices_41 : decode cX4_byMixedRadices 41 = .ok (.iload 5, 2) := by decide +kernel
theorem dX4_byMixedRadices_43 : decode cX4_byMixedRadices 43 = .ok (.iload 8, 2) := by decide +kernel
theorem dX4_byMixedRadices_45 : decode cX4_byMixedRadices 45 = .ok (.iload 6, 2) := by decide +kernel
theorem dX4_byMixedRadices_47 : decode cX4_byMixedRadices 47 = .ok (.invokevirtual 54, 3) := by decide +kernel
theorem dX4_byMixedRadices_50 : decode cX4_byMixedRadices 50 = .ok (.iload 5, 2) := by decide +kernel
theorem dX4_byMixedRadices_52 : decode cX4_byMixedRadices 52 = .ok (.iload 8, 2) := by decide +kernel
theorem dX4_byMixedRadices_54 : decode cX4_byMixedRadices 54 = .ok (.imul, 1) := by decide +kernel
theorem dX4_byMixedRadices_55 : decode cX4_byMixedRadices 55 = .ok (.istore 5, 2) := by decide +kernel
theorem dX4_byMixedRadices_57 : decode cX4_byMixedRadices 57 = .ok (.iinc 7 1, 3) := by decide +kernel
theorem dX4_byMixedRadices_60 : decode cX4_byMixedRadices 60 = .ok (.goto (-51), 3) := by decide +kernel
theorem dX4_byMixedRadices_63 : decode cX4_byMixedRadices 63 = .ok (.return_, 1) := by decide +kernel
set_option maxRecDepth 20000 in
theorem ggX4_pass_X2_power : GoodIn wsX4_pass wsX2_power := goodIn_r _ [6, 7, 8, 9, 10, 11, 12, 28, 29, 30, 31, 32, 33] (by decide +kernel) (by decide +kernel)
set_option maxRecDepth 20000 in
theorem gX4_pass_X2_power : GoodIn wsX4_pass (wsV RX4 41 RX2 yX2_power wsX2_power) := goodIn_app (goodIn_of _ (by decide +kernel)) ggX4_pass_X2_power
set_option maxRecDepth 20000 in
theorem ggX4_pass_X2_remainder : GoodIn wsX4_pass wsX2_remainder := goodIn_r _ [16, 17, 9, 10, 11, 12, 28, 29, 30, 31, 32, 33] (by decide +kernel) (by decide +kernel)
set_option maxRecDepth 20000 in
theorem gX4_pass_X2_remainder : GoodIn wsX4_pass (wsV RX4 45 RX2 yX2_remainder wsX2_remainder) := goodIn_app (goodIn_of _ (by decide +kernel)) ggX4_pass_X2_remainder
set_option maxRecDepth 20000 in
theorem ggX4_pass_X4_copyMade : GoodIn wsX4_pass wsX4_copyMade := goodIn_r _ [22, 1, 23, 24, 25, 26, 27] (by decide +kernel) (by decide +kernel)
set_option maxRecDepth 20000 in
theorem gX4_pass_X4_copyMade : GoodIn wsX4_pass (wsV RX4 37 RX4 yX4_copyMade wsX4_copyMade) := goodIn_app (goodIn_of _ (by decide +kernel)) ggX4_pass_X4_copyMade
theorem dX4_pass_0 : decode cX4_pass 0 = .ok (.iconst 0, 1) := by decide +kernel
theorem dX4_pass_1 : decode cX4_pass 1 = .ok (.istore 7, 2) := by decide +kernel
theorem dX4_pass_3 : decode cX4_pass 3 = .ok (.iload 7, 2) := by decide +kernel
theorem dX4_pass_5 : decode cX4_pass 5 = .ok (.iload 6, 2) := by decide +kernel
theorem dX4_pass_7 : decode cX4_pass 7 = .ok (.if_icmp .ge 127, 3) := by decide +kernel
theorem dX4_pass_10 : decode cX4_pass 10 = .ok (.iconst 0, 1) := by decide +kernel
theorem dX4_pass_11 : decode cX4_pass 11 = .ok (.istore 8, 2) := by decide +kernel
theorem dX4_pass_13 : decode cX4_pass 13 = .ok (.iload 8, 2) := by decide +kernel
theorem dX4_pass_15 : decode cX4_pass 15 = .ok (.iload 5, 2) := by decide +kernel
theorem dX4_pass_17 : decode cX4_pass 17 = .ok (.if_icmp .ge 111, 3) := by decide +kernel
theorem dX4_pass_20 : decode cX4_pass 20 = .ok (.iconst 0, 1) := by decide +kernel
theorem dX4_pass_21 : decode cX4_pass 21 = .ok (.istore 9, 2) := by decide +kernel
theorem dX4_pass_23 : decode cX4_pass 23 = .ok (.iload 9, 2) := by decide +kernel
theorem dX4_pass_25 : decode cX4_pass 25 = .ok (.iload 4, 2) := by decide +kernel
theorem dX4_pass_27 : decode cX4_pass 27 = .ok (.if_icmp .ge 95, 3) := by decide +kernel
theorem dX4_pass_30 : decode cX4_pass 30 = .ok (.lconst 0, 1) := by decide +kernel
theorem dX4_pass_31 : decode cX4_pass 31 = .ok (.lstore 10, 2) := by decide +kernel
theorem dX4_pass_33 : decode cX4_pass 33 = .ok (.iconst 0, 1) := by decide +kernel
theorem dX4_pass_34 : decode cX4_pass 34 = .ok (.istore 12, 2) := by decide +kernel
theorem dX4_pass_36 : decode cX4_pass 36 = .ok (.iload 12, 2) := by decide +kernel
theorem dX4_pass_38 : decode cX4_pass 38 = .ok (.iload 5, 2) := by decide +kernel
theorem dX4_pass_40 : decode cX4_pass 40 = .ok (.if_icmp .ge 51, 3) := by decide +kernel
theorem dX4_pass_43 : decode cX4_pass 43 = .ok (.iload 7, 2) := by decide +kernel
theorem dX4_pass_45 : decode cX4_pass 45 = .ok (.iload 6, 2) := by decide +kernel
theorem dX4_pass_47 : decode cX4_pass 47 = .ok (.iload 12, 2) := by decide +kernel
theorem dX4_pass_49 : decode cX4_pass 49 = .ok (.imul, 1) := by decide +kernel
theorem dX4_pass_50 : decode cX4_pass 50 = .ok (.iadd, 1) := by decide +kernel
theorem dX4_pass_51 : decode cX4_pass 51 = .ok (.istore 13, 2) := by decide +kernel
theorem dX4_pass_53 : decode cX4_pass 53 = .ok (.lload 10, 2) := by decide +kernel
theorem dX4_pass_55 : decode cX4_pass 55 = .ok (.aload_n 2, 1) := by decide +kernel
theorem dX4_pass_56 : decode cX4_pass 56 = .ok (.iload 9, 2) := by decide +kernel
theorem dX4_pass_58 : decode cX4_pass 58 = .ok (.iload 4, 2) := by decide +kernel
theorem dX4_pass_60 : decode cX4_pass 60 = .ok (.iload 13, 2) := by decide +kernel
theorem dX4_pass_62 : decode cX4_pass 62 = .ok (.imul, 1) := by decide +kernel
theorem dX4_pass_63 : decode cX4_pass 63 = .ok (.iadd, 1) := by decide +kernel
theorem dX4_pass_64 : decode cX4_pass 64 = .ok (.iaload, 1) := by decide +kernel
theorem dX4_pass_65 : decode cX4_pass 65 = .ok (.i2l, 1) := by decide +kernel
theorem dX4_pass_66 : decode cX4_pass 66 = .ok (.aload_n 1, 1) := by decide +kernel
theorem dX4_pass_67 : decode cX4_pass 67 = .ok (.iload_n 3, 1) := by decide +kernel
theorem dX4_pass_68 : decode cX4_pass 68 = .ok (.iload 4, 2) := by decide +kernel
theorem dX4_pass_70 : decode cX4_pass 70 = .ok (.imul, 1) := by decide +kernel
theorem dX4_pass_71 : decode cX4_pass 71 = .ok (.iload 8, 2) := by decide +kernel
theorem dX4_pass_73 : decode cX4_pass 73 = .ok (.imul, 1) := by decide +kernel
theorem dX4_pass_74 : decode cX4_pass 74 = .ok (.iload 13, 2) := by decide +kernel
theorem dX4_pass_76 : decode cX4_pass 76 = .ok (.imul, 1) := by decide +kernel
theorem dX4_pass_77 : decode cX4_pass 77 = .ok (.invokevirtual 41, 3) := by decide +kernel
theorem dX4_pass_80 : decode cX4_pass 80 = .ok (.i2l, 1) := by decide +kernel
theorem dX4_pass_81 : decode cX4_pass 81 = .ok (.lmul, 1) := by decide +kernel
theorem dX4_pass_82 : decode cX4_pass 82 = .ok (.ladd, 1) := by decide +kernel
theorem dX4_pass_83 : decode cX4_pass 83 = .ok (.lstore 10, 2) := by decide +kernel
theorem dX4_pass_85 : decode cX4_pass 85 = .ok (.iinc 12 1, 3) := by decide +kernel
theorem dX4_pass_88 : decode cX4_pass 88 = .ok (.goto (-52), 3) := by decide +kernel
theorem dX4_pass_91 : decode cX4_pass 91 = .ok (.aload_n 0, 1) := by decide +kernel
theorem dX4_pass_92 : decode cX4_pass 92 = .ok (.getfield 9, 3) := by decide +kernel
theorem dX4_pass_95 : decode cX4_pass 95 = .ok (.iload 9, 2) := by decide +kernel
theorem dX4_pass_97 : decode cX4_pass 97 = .ok (.iload 4, 2) := by decide +kernel
theorem dX4_pass_99 : decode cX4_pass 99 = .ok (.iload 5, 2) := by decide +kernel
theorem dX4_pass_101 : decode cX4_pass 101 = .ok (.iload 7, 2) := by decide +kernel
theorem dX4_pass_103 : decode cX4_pass 103 = .ok (.imul, 1) := by decide +kernel
theorem dX4_pass_104 : decode cX4_pass 104 = .ok (.iload 8, 2) := by decide +kernel
theorem dX4_pass_106 : decode cX4_pass 106 = .ok (.iadd, 1) := by decide +kernel
theorem dX4_pass_107 : decode cX4_pass 107 = .ok (.imul, 1) := by decide +kernel
theorem dX4_pass_108 : decode cX4_pass 108 = .ok (.iadd, 1) := by decide +kernel
theorem dX4_pass_109 : decode cX4_pass 109 = .ok (.aload_n 1, 1) := by decide +kernel
theorem dX4_pass_110 : decode cX4_pass 110 = .ok (.lload 10, 2) := by decide +kernel
theorem dX4_pass_112 : decode cX4_pass 112 = .ok (.invokevirtual 45, 3) := by decide +kernel
theorem dX4_pass_115 : decode cX4_pass 115 = .ok (.iastore, 1) := by decide +kernel
theorem dX4_pass_116 : decode cX4_pass 116 = .ok (.iinc 9 1, 3) := by decide +kernel
theorem dX4_pass_119 : decode cX4_pass 119 = .ok (.goto (-96), 3) := by decide +kernel
theorem dX4_pass_122 : decode cX4_pass 122 = .ok (.iinc 8 1, 3) := by decide +kernel
theorem dX4_pass_125 : decode cX4_pass 125 = .ok (.goto (-112), 3) := by decide +kernel
theorem dX4_pass_128 : decode cX4_pass 128 = .ok (.iinc 7 1, 3) := by decide +kernel
theorem dX4_pass_131 : decode cX4_pass 131 = .ok (.goto (-128), 3) := by decide +kernel
theorem dX4_pass_134 : decode cX4_pass 134 = .ok (.aload_n 0, 1) := by decide +kernel
theorem dX4_pass_135 : decode cX4_pass 135 = .ok (.aload_n 2, 1) := by decide +kernel
theorem dX4_pass_136 : decode cX4_pass 136 = .ok (.iload 4, 2) := by decide +kernel
theorem dX4_pass_138 : decode cX4_pass 138 = .ok (.iload 5, 2) := by decide +kernel
theorem dX4_pass_140 : decode cX4_pass 140 = .ok (.imul, 1) := by decide +kernel
theorem dX4_pass_141 : decode cX4_pass 141 = .ok (.iload 6, 2) := by decide +kernel
theorem dX4_pass_143 : decode cX4_pass 143 = .ok (.imul, 1) := by decide +kernel
theorem dX4_pass_144 : decode cX4_pass 144 = .ok (.invokevirtual 37, 3) := by decide +kernel
theorem dX4_pass_147 : decode cX4_pass 147 = .ok (.return_, 1) := by decide +kernel
set_option maxRecDepth 20000 in
theorem ggX4_byGoodAndThomas_X2_size : GoodIn wsX4_byGoodAndThomas wsX2_size := goodIn_r _ [7, 8, 54, 55, 56, 57, 58, 59] (by decide +kernel) (by decide +kernel)
set_option maxRecDepth 20000 in
theorem gX4_byGoodAndThomas_X2_size : GoodIn wsX4_byGoodAndThomas (wsV RX4 27 RX2 yX2_size wsX2_size) := goodIn_app (goodIn_of _ (by decide +kernel)) ggX4_byGoodAndThomas_X2_size
set_option maxRecDepth 20000 in
theorem ggX4_byGoodAndThomas_X1_leastPrimePart : GoodIn wsX4_byGoodAndThomas wsX1_leastPrimePart := goodIn_r _ [12, 13, 14, 11, 15, 16, 17, 18, 19] (by decide +kernel) (by decide +kernel)
set_option maxRecDepth 20000 in
theorem gX4_byGoodAndThomas_X1_leastPrimePart : GoodIn wsX4_byGoodAndThomas (va_wsS RX4 58 yX1_leastPrimePart wsX1_leastPrimePart) := goodIn_app (goodIn_of _ (by decide +kernel)) ggX4_byGoodAndThomas_X1_leastPrimePart
set_option maxRecDepth 20000 in
theorem ggX4_byGoodAndThomas_X1_remainder : GoodIn wsX4_byGoodAndThomas wsX1_remainder := goodIn_r _ [22] (by decide +kernel) (by decide +kernel)
set_option maxRecDepth 20000 in
theorem gX4_byGoodAndThomas_X1_remainder : GoodIn wsX4_byGoodAndThomas (va_wsS RX4 61 yX1_remainder wsX1_remainder) := goodIn_app (goodIn_of _ (by decide +kernel)) ggX4_byGoodAndThomas_X1_remainder
set_option maxRecDepth 20000 in
theorem ggX4_byGoodAndThomas_X4_byMixedRadices : GoodIn wsX4_byGoodAndThomas wsX4_byMixedRadices := goodIn_r _ [27, 28, 14, 11, 15, 16, 17, 18, 19, 29, 30, 31, 26, 32, 33, 34, 35, 36, 6, 37, 38, 8, 39, 21, 22, 40, 41, 42, 43, 44, 45, 46, 47, 48, 49, 50, 51, 52, 53, 54, 55, 56, 57, 58, 59] (by decide +kernel) (by decide +kernel)
set_option maxRecDepth 20000 in
theorem gX4_byGoodAndThomas_X4_byMixedRadices : GoodIn wsX4_byGoodAndThomas (wsV RX4 64 RX4 yX4_byMixedRadices wsX4_byMixedRadices) := goodIn_app (goodIn_of _ (by decide +kernel)) ggX4_byGoodAndThomas_X4_byMixedRadices
theorem dX4_byGoodAndThomas_0 : decode cX4_byGoodAndThomas 0 = .ok (.aload_n 1, 1) := by decide +kernel
theorem dX4_byGoodAndThomas_1 : decode cX4_byGoodAndThomas 1 = .ok (.invokevirtual 27, 3) := by decide +kernel
theorem dX4_byGoodAndThomas_4 : decode cX4_byGoodAndThomas 4 = .ok (.istore 4, 2) := by decide +kernel
theorem dX4_byGoodAndThomas_6 : decode cX4_byGoodAndThomas 6 = .ok (.iload 4, 2) := by decide +kernel
theorem dX4_byGoodAndThomas_8 : decode cX4_byGoodAndThomas 8 = .ok (.invokestatic 58, 3) := by decide +kernel
theorem dX4_byGoodAndThomas_11 : decode cX4_byGoodAndThomas 11 = .ok (.istore 5, 2) := by decide +kernel
theorem dX4_byGoodAndThomas_13 : decode cX4_byGoodAndThomas 13 = .ok (.iload 5, 2) := by decide +kernel
theorem dX4_byGoodAndThomas_15 : decode cX4_byGoodAndThomas 15 = .ok (.iconst 1, 1) := by decide +kernel
theorem dX4_byGoodAndThomas_16 : decode cX4_byGoodAndThomas 16 = .ok (.if_icmp .ge 7, 3) := by decide +kernel
theorem dX4_byGoodAndThomas_19 : decode cX4_byGoodAndThomas 19 = .ok (.iconst 0, 1) := by decide +kernel
theorem dX4_byGoodAndThomas_20 : decode cX4_byGoodAndThomas 20 = .ok (.goto 8, 3) := by decide +kernel
theorem dX4_byGoodAndThomas_23 : decode cX4_byGoodAndThomas 23 = .ok (.iload 4, 2) := by decide +kernel
theorem dX4_byGoodAndThomas_25 : decode cX4_byGoodAndThomas 25 = .ok (.iload 5, 2) := by decide +kernel
theorem dX4_byGoodAndThomas_27 : decode cX4_byGoodAndThomas 27 = .ok (.idiv, 1) := by decide +kernel
theorem dX4_byGoodAndThomas_28 : decode cX4_byGoodAndThomas 28 = .ok (.istore 6, 2) := by decide +kernel
theorem dX4_byGoodAndThomas_30 : decode cX4_byGoodAndThomas 30 = .ok (.iconst 0, 1) := by decide +kernel
theorem dX4_byGoodAndThomas_31 : decode cX4_byGoodAndThomas 31 = .ok (.istore 7, 2) := by decide +kernel
theorem dX4_byGoodAndThomas_33 : decode cX4_byGoodAndThomas 33 = .ok (.iload 7, 2) := by decide +kernel
theorem dX4_byGoodAndThomas_35 : decode cX4_byGoodAndThomas 35 = .ok (.iload 5, 2) := by decide +kernel
theorem dX4_byGoodAndThomas_37 : decode cX4_byGoodAndThomas 37 = .ok (.if_icmp .ge 102, 3) := by decide +kernel
theorem dX4_byGoodAndThomas_40 : decode cX4_byGoodAndThomas 40 = .ok (.iconst 0, 1) := by decide +kernel
theorem dX4_byGoodAndThomas_41 : decode cX4_byGoodAndThomas 41 = .ok (.istore 8, 2) := by decide +kernel
theorem dX4_byGoodAndThomas_43 : decode cX4_byGoodAndThomas 43 = .ok (.iload 8, 2) := by decide +kernel
theorem dX4_byGoodAndThomas_45 : decode cX4_byGoodAndThomas 45 = .ok (.iload 6, 2) := by decide +kernel
theorem dX4_byGoodAndThomas_47 : decode cX4_byGoodAndThomas 47 = .ok (.if_icmp .ge 35, 3) := by decide +kernel
theorem dX4_byGoodAndThomas_50 : decode cX4_byGoodAndThomas 50 = .ok (.aload_n 0, 1) := by decide +kernel
theorem dX4_byGoodAndThomas_51 : decode cX4_byGoodAndThomas 51 = .ok (.getfield 18, 3) := by decide +kernel
theorem dX4_byGoodAndThomas_54 : decode cX4_byGoodAndThomas 54 = .ok (.iload 8, 2) := by decide +kernel
theorem dX4_byGoodAndThomas_56 : decode cX4_byGoodAndThomas 56 = .ok (.aload_n 2, 1) := by decide +kernel
theorem dX4_byGoodAndThomas_57 : decode cX4_byGoodAndThomas 57 = .ok (.iload 6, 2) := by decide +kernel
theorem dX4_byGoodAndThomas_59 : decode cX4_byGoodAndThomas 59 = .ok (.iload 7, 2) := by decide +kernel
theorem dX4_byGoodAndThomas_61 : decode cX4_byGoodAndThomas 61 = .ok (.imul, 1) := by decide +kernel
theorem dX4_byGoodAndThomas_62 : decode cX4_byGoodAndThomas 62 = .ok (.iload 5, 2) := by decide +kernel
theorem dX4_byGoodAndThomas_64 : decode cX4_byGoodAndThomas 64 = .ok (.iload 8, 2) := by decide +kernel
theorem dX4_byGoodAndThomas_66 : decode cX4_byGoodAndThomas 66 = .ok (.imul, 1) := by decide +kernel
theorem dX4_byGoodAndThomas_67 : decode cX4_byGoodAndThomas 67 = .ok (.iadd, 1) := by decide +kernel
theorem dX4_byGoodAndThomas_68 : decode cX4_byGoodAndThomas 68 = .ok (.i2l, 1) := by decide +kernel
theorem dX4_byGoodAndThomas_69 : decode cX4_byGoodAndThomas 69 = .ok (.iload 4, 2) := by decide +kernel
theorem dX4_byGoodAndThomas_71 : decode cX4_byGoodAndThomas 71 = .ok (.invokestatic 61, 3) := by decide +kernel
theorem dX4_byGoodAndThomas_74 : decode cX4_byGoodAndThomas 74 = .ok (.iaload, 1) := by decide +kernel
theorem dX4_byGoodAndThomas_75 : decode cX4_byGoodAndThomas 75 = .ok (.iastore, 1) := by decide +kernel
theorem dX4_byGoodAndThomas_76 : decode cX4_byGoodAndThomas 76 = .ok (.iinc 8 1, 3) := by decide +kernel
theorem dX4_byGoodAndThomas_79 : decode cX4_byGoodAndThomas 79 = .ok (.goto (-36), 3) := by decide +kernel
theorem dX4_byGoodAndThomas_82 : decode cX4_byGoodAndThomas 82 = .ok (.aload_n 0, 1) := by decide +kernel
theorem dX4_byGoodAndThomas_83 : decode cX4_byGoodAndThomas 83 = .ok (.aload_n 1, 1) := by decide +kernel
theorem dX4_byGoodAndThomas_84 : decode cX4_byGoodAndThomas 84 = .ok (.aload_n 0, 1) := by decide +kernel
theorem dX4_byGoodAndThomas_85 : decode cX4_byGoodAndThomas 85 = .ok (.getfield 18, 3) := by decide +kernel
theorem dX4_byGoodAndThomas_88 : decode cX4_byGoodAndThomas 88 = .ok (.iload 6, 2) := by decide +kernel
theorem dX4_byGoodAndThomas_90 : decode cX4_byGoodAndThomas 90 = .ok (.iload_n 3, 1) := by decide +kernel
theorem dX4_byGoodAndThomas_91 : decode cX4_byGoodAndThomas 91 = .ok (.iload 5, 2) := by decide +kernel
theorem dX4_byGoodAndThomas_93 : decode cX4_byGoodAndThomas 93 = .ok (.imul, 1) := by decide +kernel
theorem dX4_byGoodAndThomas_94 : decode cX4_byGoodAndThomas 94 = .ok (.invokevirtual 64, 3) := by decide +kernel
theorem dX4_byGoodAndThomas_97 : decode cX4_byGoodAndThomas 97 = .ok (.iconst 0, 1) := by decide +kernel
theorem dX4_byGoodAndThomas_98 : decode cX4_byGoodAndThomas 98 = .ok (.istore 8, 2) := by decide +kernel
theorem dX4_byGoodAndThomas_100 : decode cX4_byGoodAndThomas 100 = .ok (.iload 8, 2) := by decide +kernel
theorem dX4_byGoodAndThomas_102 : decode cX4_byGoodAndThomas 102 = .ok (.iload 6, 2) := by decide +kernel
theorem dX4_byGoodAndThomas_104 : decode cX4_byGoodAndThomas 104 = .ok (.if_icmp .ge 29, 3) := by decide +kernel
theorem dX4_byGoodAndThomas_107 : decode cX4_byGoodAndThomas 107 = .ok (.aload_n 0, 1) := by decide +kernel
theorem dX4_byGoodAndThomas_108 : decode cX4_byGoodAndThomas 108 = .ok (.getfield 15, 3) := by decide +kernel
theorem dX4_byGoodAndThomas_111 : decode cX4_byGoodAndThomas 111 = .ok (.iload 7, 2) := by decide +kernel
theorem dX4_byGoodAndThomas_113 : decode cX4_byGoodAndThomas 113 = .ok (.iload 6, 2) := by decide +kernel
theorem dX4_byGoodAndThomas_115 : decode cX4_byGoodAndThomas 115 = .ok (.imul, 1) := by decide +kernel
theorem dX4_byGoodAndThomas_116 : decode cX4_byGoodAndThomas 116 = .ok (.iload 8, 2) := by decide +kernel
theorem dX4_byGoodAndThomas_118 : decode cX4_byGoodAndThomas 118 = .ok (.iadd, 1) := by decide +kernel
theorem dX4_byGoodAndThomas_119 : decode cX4_byGoodAndThomas 119 = .ok (.aload_n 0, 1) := by decide +kernel
theorem dX4_byGoodAndThomas_120 : decode cX4_byGoodAndThomas 120 = .ok (.getfield 18, 3) := by decide +kernel
theorem dX4_byGoodAndThomas_123 : decode cX4_byGoodAndThomas 123 = .ok (.iload 8, 2) := by decide +kernel
theorem dX4_byGoodAndThomas_125 : decode cX4_byGoodAndThomas 125 = .ok (.iaload, 1) := by decide +kernel
theorem dX4_byGoodAndThomas_126 : decode cX4_byGoodAndThomas 126 = .ok (.iastore, 1) := by decide +kernel
theorem dX4_byGoodAndThomas_127 : decode cX4_byGoodAndThomas 127 = .ok (.iinc 8 1, 3) := by decide +kernel
theorem dX4_byGoodAndThomas_130 : decode cX4_byGoodAndThomas 130 = .ok (.goto (-30), 3) := by decide +kernel
theorem dX4_byGoodAndThomas_133 : decode cX4_byGoodAndThomas 133 = .ok (.iinc 7 1, 3) := by decide +kernel
theorem dX4_byGoodAndThomas_136 : decode cX4_byGoodAndThomas 136 = .ok (.goto (-103), 3) := by decide +kernel
theorem dX4_byGoodAndThomas_139 : decode cX4_byGoodAndThomas 139 = .ok (.iconst 0, 1) := by decide +kernel
theorem dX4_byGoodAndThomas_140 : decode cX4_byGoodAndThomas 140 = .ok (.istore 7, 2) := by decide +kernel
theorem dX4_byGoodAndThomas_142 : decode cX4_byGoodAndThomas 142 = .ok (.iload 7, 2) := by decide +kernel
theorem dX4_byGoodAndThomas_144 : decode cX4_byGoodAndThomas 144 = .ok (.iload 6, 2) := by decide +kernel
theorem dX4_byGoodAndThomas_146 : decode cX4_byGoodAndThomas 146 = .ok (.if_icmp .ge 96, 3) := by decide +kernel
theorem dX4_byGoodAndThomas_149 : decode cX4_byGoodAndThomas 149 = .ok (.iconst 0, 1) := by decide +kernel
theorem dX4_byGoodAndThomas_150 : decode cX4_byGoodAndThomas 150 = .ok (.istore 8, 2) := by decide +kernel
theorem dX4_byGoodAndThomas_152 : decode cX4_byGoodAndThomas 152 = .ok (.iload 8, 2) := by decide +kernel
theorem dX4_byGoodAndThomas_154 : decode cX4_byGoodAndThomas 154 = .ok (.iload 5, 2) := by decide +kernel
theorem dX4_byGoodAndThomas_156 : decode cX4_byGoodAndThomas 156 = .ok (.if_icmp .ge 29, 3) := by decide +kernel
theorem dX4_byGoodAndThomas_159 : decode cX4_byGoodAndThomas 159 = .ok (.aload_n 0, 1) := by decide +kernel
theorem dX4_byGoodAndThomas_160 : decode cX4_byGoodAndThomas 160 = .ok (.getfield 18, 3) := by decide +kernel
theorem dX4_byGoodAndThomas_163 : decode cX4_byGoodAndThomas 163 = .ok (.iload 8, 2) := by decide +kernel
theorem dX4_byGoodAndThomas_165 : decode cX4_byGoodAndThomas 165 = .ok (.aload_n 0, 1) := by decide +kernel
theorem dX4_byGoodAndThomas_166 : decode cX4_byGoodAndThomas 166 = .ok (.getfield 15, 3) := by decide +kernel
theorem dX4_byGoodAndThomas_169 : decode cX4_byGoodAndThomas 169 = .ok (.iload 8, 2) := by decide +kernel
theorem dX4_byGoodAndThomas_171 : decode cX4_byGoodAndThomas 171 = .ok (.iload 6, 2) := by decide +kernel
theorem dX4_byGoodAndThomas_173 : decode cX4_byGoodAndThomas 173 = .ok (.imul, 1) := by decide +kernel
theorem dX4_byGoodAndThomas_174 : decode cX4_byGoodAndThomas 174 = .ok (.iload 7, 2) := by decide +kernel
theorem dX4_byGoodAndThomas_176 : decode cX4_byGoodAndThomas 176 = .ok (.iadd, 1) := by decide +kernel
theorem dX4_byGoodAndThomas_177 : decode cX4_byGoodAndThomas 177 = .ok (.iaload, 1) := by decide +kernel
theorem dX4_byGoodAndThomas_178 : decode cX4_byGoodAndThomas 178 = .ok (.iastore, 1) := by decide +kernel
theorem dX4_byGoodAndThomas_179 : decode cX4_byGoodAndThomas 179 = .ok (.iinc 8 1, 3) := by decide +kernel
theorem dX4_byGoodAndThomas_182 : decode cX4_byGoodAndThomas 182 = .ok (.goto (-30), 3) := by decide +kernel
theorem dX4_byGoodAndThomas_185 : decode cX4_byGoodAndThomas 185 = .ok (.aload_n 0, 1) := by decide +kernel
theorem dX4_byGoodAndThomas_186 : decode cX4_byGoodAndThomas 186 = .ok (.aload_n 1, 1) := by decide +kernel
theorem dX4_byGoodAndThomas_187 : decode cX4_byGoodAndThomas 187 = .ok (.aload_n 0, 1) := by decide +kernel
theorem dX4_byGoodAndThomas_188 : decode cX4_byGoodAndThomas 188 = .ok (.getfield 18, 3) := by decide +kernel
theorem dX4_byGoodAndThomas_191 : decode cX4_byGoodAndThomas 191 = .ok (.iload 5, 2) := by decide +kernel
theorem dX4_byGoodAndThomas_193 : decode cX4_byGoodAndThomas 193 = .ok (.iload_n 3, 1) := by decide +kernel
theorem dX4_byGoodAndThomas_194 : decode cX4_byGoodAndThomas 194 = .ok (.iload 6, 2) := by decide +kernel
theorem dX4_byGoodAndThomas_196 : decode cX4_byGoodAndThomas 196 = .ok (.imul, 1) := by decide +kernel
theorem dX4_byGoodAndThomas_197 : decode cX4_byGoodAndThomas 197 = .ok (.invokevirtual 64, 3) := by decide +kernel
theorem dX4_byGoodAndThomas_200 : decode cX4_byGoodAndThomas 200 = .ok (.iconst 0, 1) := by decide +kernel
theorem dX4_byGoodAndThomas_201 : decode cX4_byGoodAndThomas 201 = .ok (.istore 8, 2) := by decide +kernel
theorem dX4_byGoodAndThomas_203 : decode cX4_byGoodAndThomas 203 = .ok (.iload 8, 2) := by decide +kernel
theorem dX4_byGoodAndThomas_205 : decode cX4_byGoodAndThomas 205 = .ok (.iload 5, 2) := by decide +kernel
theorem dX4_byGoodAndThomas_207 : decode cX4_byGoodAndThomas 207 = .ok (.if_icmp .ge 29, 3) := by decide +kernel
theorem dX4_byGoodAndThomas_210 : decode cX4_byGoodAndThomas 210 = .ok (.aload_n 0, 1) := by decide +kernel
theorem dX4_byGoodAndThomas_211 : decode cX4_byGoodAndThomas 211 = .ok (.getfield 15, 3) := by decide +kernel
theorem dX4_byGoodAndThomas_214 : decode cX4_byGoodAndThomas 214 = .ok (.iload 8, 2) := by decide +kernel
theorem dX4_byGoodAndThomas_216 : decode cX4_byGoodAndThomas 216 = .ok (.iload 6, 2) := by decide +kernel
theorem dX4_byGoodAndThomas_218 : decode cX4_byGoodAndThomas 218 = .ok (.imul, 1) := by decide +kernel
theorem dX4_byGoodAndThomas_219 : decode cX4_byGoodAndThomas 219 = .ok (.iload 7, 2) := by decide +kernel
theorem dX4_byGoodAndThomas_221 : decode cX4_byGoodAndThomas 221 = .ok (.iadd, 1) := by decide +kernel
theorem dX4_byGoodAndThomas_222 : decode cX4_byGoodAndThomas 222 = .ok (.aload_n 0, 1) := by decide +kernel
theorem dX4_byGoodAndThomas_223 : decode cX4_byGoodAndThomas 223 = .ok (.getfield 18, 3) := by decide +kernel
theorem dX4_byGoodAndThomas_226 : decode cX4_byGoodAndThomas 226 = .ok (.iload 8, 2) := by decide +kernel
theorem dX4_byGoodAndThomas_228 : decode cX4_byGoodAndThomas 228 = .ok (.iaload, 1) := by decide +kernel
theorem dX4_byGoodAndThomas_229 : decode cX4_byGoodAndThomas 229 = .ok (.iastore, 1) := by decide +kernel
theorem dX4_byGoodAndThomas_230 : decode cX4_byGoodAndThomas 230 = .ok (.iinc 8 1, 3) := by decide +kernel
theorem dX4_byGoodAndThomas_233 : decode cX4_byGoodAndThomas 233 = .ok (.goto (-30), 3) := by decide +kernel
theorem dX4_byGoodAndThomas_236 : decode cX4_byGoodAndThomas 236 = .ok (.iinc 7 1, 3) := by decide +kernel
theorem dX4_byGoodAndThomas_239 : decode cX4_byGoodAndThomas 239 = .ok (.goto (-97), 3) := by decide +kernel
theorem dX4_byGoodAndThomas_242 : decode cX4_byGoodAndThomas 242 = .ok (.iconst 0, 1) := by decide +kernel
theorem dX4_byGoodAndThomas_243 : decode cX4_byGoodAndThomas 243 = .ok (.istore 7, 2) := by decide +kernel
theorem dX4_byGoodAndThomas_245 : decode cX4_byGoodAndThomas 245 = .ok (.iload 7, 2) := by decide +kernel
theorem dX4_byGoodAndThomas_247 : decode cX4_byGoodAndThomas 247 = .ok (.iload 4, 2) := by decide +kernel
theorem dX4_byGoodAndThomas_249 : decode cX4_byGoodAndThomas 249 = .ok (.if_icmp .ge 38, 3) := by decide +kernel
theorem dX4_byGoodAndThomas_252 : decode cX4_byGoodAndThomas 252 = .ok (.aload_n 2, 1) := by decide +kernel
theorem dX4_byGoodAndThomas_253 : decode cX4_byGoodAndThomas 253 = .ok (.iload 7, 2) := by decide +kernel
theorem dX4_byGoodAndThomas_255 : decode cX4_byGoodAndThomas 255 = .ok (.aload_n 0, 1) := by decide +kernel
theorem dX4_byGoodAndThomas_256 : decode cX4_byGoodAndThomas 256 = .ok (.getfield 15, 3) := by decide +kernel
theorem dX4_byGoodAndThomas_259 : decode cX4_byGoodAndThomas 259 = .ok (.iload 7, 2) := by decide +kernel
theorem dX4_byGoodAndThomas_261 : decode cX4_byGoodAndThomas 261 = .ok (.i2l, 1) := by decide +kernel
theorem dX4_byGoodAndThomas_262 : decode cX4_byGoodAndThomas 262 = .ok (.iload 5, 2) := by decide +kernel
theorem dX4_byGoodAndThomas_264 : decode cX4_byGoodAndThomas 264 = .ok (.invokestatic 61, 3) := by decide +kernel
theorem dX4_byGoodAndThomas_267 : decode cX4_byGoodAndThomas 267 = .ok (.iload 6, 2) := by decide +kernel
theorem dX4_byGoodAndThomas_269 : decode cX4_byGoodAndThomas 269 = .ok (.imul, 1) := by decide +kernel
theorem dX4_byGoodAndThomas_270 : decode cX4_byGoodAndThomas 270 = .ok (.iload 7, 2) := by decide +kernel
theorem dX4_byGoodAndThomas_272 : decode cX4_byGoodAndThomas 272 = .ok (.i2l, 1) := by decide +kernel
theorem dX4_byGoodAndThomas_273 : decode cX4_byGoodAndThomas 273 = .ok (.iload 6, 2) := by decide +kernel
theorem dX4_byGoodAndThomas_275 : decode cX4_byGoodAndThomas 275 = .ok (.invokestatic 61, 3) := by decide +kernel
theorem dX4_byGoodAndThomas_278 : decode cX4_byGoodAndThomas 278 = .ok (.iadd, 1) := by decide +kernel
theorem dX4_byGoodAndThomas_279 : decode cX4_byGoodAndThomas 279 = .ok (.iaload, 1) := by decide +kernel
theorem dX4_byGoodAndThomas_280 : decode cX4_byGoodAndThomas 280 = .ok (.iastore, 1) := by decide +kernel
theorem dX4_byGoodAndThomas_281 : decode cX4_byGoodAndThomas 281 = .ok (.iinc 7 1, 3) := by decide +kernel
theorem dX4_byGoodAndThomas_284 : decode cX4_byGoodAndThomas 284 = .ok (.goto (-39), 3) := by decide +kernel
theorem dX4_byGoodAndThomas_287 : decode cX4_byGoodAndThomas 287 = .ok (.return_, 1) := by decide +kernel
set_option maxRecDepth 20000 in
theorem ggX4_byRader_X2_size : GoodIn wsX4_byRader wsX2_size := goodIn_r _ [9, 10, 52, 53, 54, 55, 56, 57] (by decide +kernel) (by decide +kernel)
set_option maxRecDepth 20000 in
theorem gX4_byRader_X2_size : GoodIn wsX4_byRader (wsV RX4 27 RX2 yX2_size wsX2_size) := goodIn_app (goodIn_of _ (by decide +kernel)) ggX4_byRader_X2_size
set_option maxRecDepth 20000 in
theorem ggX4_byRader_X4_fillSeats : GoodIn wsX4_byRader wsX4_fillSeats := goodIn_r _ [15, 2, 16, 17, 18, 8, 19, 20, 5, 6, 7, 9, 10, 21, 22, 23, 24, 47, 48, 49, 50, 51, 52, 53, 54, 55, 56, 57] (by decide +kernel) (by decide +kernel)
set_option maxRecDepth 20000 in
theorem gX4_byRader_X4_fillSeats : GoodIn wsX4_byRader (wsV RX4 68 RX4 yX4_fillSeats wsX4_fillSeats) := goodIn_app (goodIn_of _ (by decide +kernel)) ggX4_byRader_X4_fillSeats
set_option maxRecDepth 20000 in
theorem ggX4_byRader_X4_opposite : GoodIn wsX4_byRader wsX4_opposite := goodIn_r _ [27] (by decide +kernel) (by decide +kernel)
set_option maxRecDepth 20000 in
theorem gX4_byRader_X4_opposite : GoodIn wsX4_byRader (va_wsS RX4 72 yX4_opposite wsX4_opposite) := goodIn_app (goodIn_of _ (by decide +kernel)) ggX4_byRader_X4_opposite
set_option maxRecDepth 20000 in
theorem ggX4_byRader_X2_power : GoodIn wsX4_byRader wsX2_power := goodIn_r _ [31, 32, 10, 33, 22, 23, 24, 52, 53, 54, 55, 56, 57] (by decide +kernel) (by decide +kernel)
set_option maxRecDepth 20000 in
theorem gX4_byRader_X2_power : GoodIn wsX4_byRader (wsV RX4 41 RX2 yX2_power wsX2_power) := goodIn_app (goodIn_of _ (by decide +kernel)) ggX4_byRader_X2_power
set_option maxRecDepth 20000 in
theorem ggX4_byRader_X2_remainder : GoodIn wsX4_byRader wsX2_remainder := goodIn_r _ [37, 38, 33, 22, 23, 24, 52, 53, 54, 55, 56, 57] (by decide +kernel) (by decide +kernel)
set_option maxRecDepth 20000 in
theorem gX4_byRader_X2_remainder : GoodIn wsX4_byRader (wsV RX4 45 RX2 yX2_remainder wsX2_remainder) := goodIn_app (goodIn_of _ (by decide +kernel)) ggX4_byRader_X2_remainder
set_option maxRecDepth 20000 in
theorem ggX4_byRader_X0_cyclicEntry : GoodIn wsX4_byRader wsX0_cyclicEntry := goodIn_r _ [42] (by decide +kernel) (by decide +kernel)
set_option maxRecDepth 20000 in
theorem gX4_byRader_X0_cyclicEntry : GoodIn wsX4_byRader (va_wsS RX4 76 yX0_cyclicEntry wsX0_cyclicEntry) := goodIn_app (goodIn_of _ (by decide +kernel)) ggX4_byRader_X0_cyclicEntry
set_option maxRecDepth 20000 in
theorem ggX4_byRader_X4_copyMade : GoodIn wsX4_byRader wsX4_copyMade := goodIn_r _ [46, 4, 47, 48, 49, 50, 51] (by decide +kernel) (by decide +kernel)
set_option maxRecDepth 20000 in
theorem gX4_byRader_X4_copyMade : GoodIn wsX4_byRader (wsV RX4 37 RX4 yX4_copyMade wsX4_copyMade) := goodIn_app (goodIn_of _ (by decide +kernel)) ggX4_byRader_X4_copyMade
theorem dX4_byRader_0 : decode cX4_byRader 0 = .ok (.aload_n 1, 1) := by decide +kernel
theorem dX4_byRader_1 : decode cX4_byRader 1 = .ok (.invokevirtual 27, 3) := by decide +kernel
theorem dX4_byRader_4 : decode cX4_byRader 4 = .ok (.istore 4, 2) := by decide +kernel
theorem dX4_byRader_6 : decode cX4_byRader 6 = .ok (.iload 4, 2) := by decide +kernel
theorem dX4_byRader_8 : decode cX4_byRader 8 = .ok (.iconst 1, 1) := by decide +kernel
theorem dX4_byRader_9 : decode cX4_byRader 9 = .ok (.isub, 1) := by decide +kernel
theorem dX4_byRader_10 : decode cX4_byRader 10 = .ok (.istore 5, 2) := by decide +kernel
theorem dX4_byRader_12 : decode cX4_byRader 12 = .ok (.aload_n 0, 1) := by decide +kernel
theorem dX4_byRader_13 : decode cX4_byRader 13 = .ok (.aload_n 1, 1) := by decide +kernel
theorem dX4_byRader_14 : decode cX4_byRader 14 = .ok (.iload 5, 2) := by decide +kernel
theorem dX4_byRader_16 : decode cX4_byRader 16 = .ok (.invokevirtual 68, 3) := by decide +kernel
theorem dX4_byRader_19 : decode cX4_byRader 19 = .ok (.aload_n 2, 1) := by decide +kernel
theorem dX4_byRader_20 : decode cX4_byRader 20 = .ok (.iconst 0, 1) := by decide +kernel
theorem dX4_byRader_21 : decode cX4_byRader 21 = .ok (.iaload, 1) := by decide +kernel
theorem dX4_byRader_22 : decode cX4_byRader 22 = .ok (.i2l, 1) := by decide +kernel
theorem dX4_byRader_23 : decode cX4_byRader 23 = .ok (.lstore 6, 2) := by decide +kernel
theorem dX4_byRader_25 : decode cX4_byRader 25 = .ok (.iconst 0, 1) := by decide +kernel
theorem dX4_byRader_26 : decode cX4_byRader 26 = .ok (.istore 8, 2) := by decide +kernel
theorem dX4_byRader_28 : decode cX4_byRader 28 = .ok (.iload 8, 2) := by decide +kernel
theorem dX4_byRader_30 : decode cX4_byRader 30 = .ok (.iload 5, 2) := by decide +kernel
theorem dX4_byRader_32 : decode cX4_byRader 32 = .ok (.if_icmp .ge 63, 3) := by decide +kernel
theorem dX4_byRader_35 : decode cX4_byRader 35 = .ok (.aload_n 0, 1) := by decide +kernel
theorem dX4_byRader_36 : decode cX4_byRader 36 = .ok (.getfield 18, 3) := by decide +kernel
theorem dX4_byRader_39 : decode cX4_byRader 39 = .ok (.iload 8, 2) := by decide +kernel
theorem dX4_byRader_41 : decode cX4_byRader 41 = .ok (.aload_n 2, 1) := by decide +kernel
theorem dX4_byRader_42 : decode cX4_byRader 42 = .ok (.aload_n 0, 1) := by decide +kernel
theorem dX4_byRader_43 : decode cX4_byRader 43 = .ok (.getfield 21, 3) := by decide +kernel
theorem dX4_byRader_46 : decode cX4_byRader 46 = .ok (.iload 8, 2) := by decide +kernel
theorem dX4_byRader_48 : decode cX4_byRader 48 = .ok (.iaload, 1) := by decide +kernel
theorem dX4_byRader_49 : decode cX4_byRader 49 = .ok (.iaload, 1) := by decide +kernel
theorem dX4_byRader_50 : decode cX4_byRader 50 = .ok (.iastore, 1) := by decide +kernel
theorem dX4_byRader_51 : decode cX4_byRader 51 = .ok (.aload_n 0, 1) := by decide +kernel
theorem dX4_byRader_52 : decode cX4_byRader 52 = .ok (.getfield 24, 3) := by decide +kernel
theorem dX4_byRader_55 : decode cX4_byRader 55 = .ok (.iload 8, 2) := by decide +kernel
theorem dX4_byRader_57 : decode cX4_byRader 57 = .ok (.aload_n 1, 1) := by decide +kernel
theorem dX4_byRader_58 : decode cX4_byRader 58 = .ok (.iload_n 3, 1) := by decide +kernel
theorem dX4_byRader_59 : decode cX4_byRader 59 = .ok (.aload_n 0, 1) := by decide +kernel
theorem dX4_byRader_60 : decode cX4_byRader 60 = .ok (.getfield 21, 3) := by decide +kernel
theorem dX4_byRader_63 : decode cX4_byRader 63 = .ok (.iload 8, 2) := by decide +kernel
theorem dX4_byRader_65 : decode cX4_byRader 65 = .ok (.iload 5, 2) := by decide +kernel
theorem dX4_byRader_67 : decode cX4_byRader 67 = .ok (.invokestatic 72, 3) := by decide +kernel
theorem dX4_byRader_70 : decode cX4_byRader 70 = .ok (.iaload, 1) := by decide +kernel
theorem dX4_byRader_71 : decode cX4_byRader 71 = .ok (.imul, 1) := by decide +kernel
theorem dX4_byRader_72 : decode cX4_byRader 72 = .ok (.invokevirtual 41, 3) := by decide +kernel
theorem dX4_byRader_75 : decode cX4_byRader 75 = .ok (.iastore, 1) := by decide +kernel
theorem dX4_byRader_76 : decode cX4_byRader 76 = .ok (.lload 6, 2) := by decide +kernel
theorem dX4_byRader_78 : decode cX4_byRader 78 = .ok (.aload_n 0, 1) := by decide +kernel
theorem dX4_byRader_79 : decode cX4_byRader 79 = .ok (.getfield 18, 3) := by decide +kernel
theorem dX4_byRader_82 : decode cX4_byRader 82 = .ok (.iload 8, 2) := by decide +kernel
theorem dX4_byRader_84 : decode cX4_byRader 84 = .ok (.iaload, 1) := by decide +kernel
theorem dX4_byRader_85 : decode cX4_byRader 85 = .ok (.i2l, 1) := by decide +kernel
theorem dX4_byRader_86 : decode cX4_byRader 86 = .ok (.ladd, 1) := by decide +kernel
theorem dX4_byRader_87 : decode cX4_byRader 87 = .ok (.lstore 6, 2) := by decide +kernel
theorem dX4_byRader_89 : decode cX4_byRader 89 = .ok (.iinc 8 1, 3) := by decide +kernel
theorem dX4_byRader_92 : decode cX4_byRader 92 = .ok (.goto (-64), 3) := by decide +kernel
theorem dX4_byRader_95 : decode cX4_byRader 95 = .ok (.aload_n 0, 1) := by decide +kernel
theorem dX4_byRader_96 : decode cX4_byRader 96 = .ok (.getfield 9, 3) := by decide +kernel
theorem dX4_byRader_99 : decode cX4_byRader 99 = .ok (.iconst 0, 1) := by decide +kernel
theorem dX4_byRader_100 : decode cX4_byRader 100 = .ok (.aload_n 1, 1) := by decide +kernel
theorem dX4_byRader_101 : decode cX4_byRader 101 = .ok (.lload 6, 2) := by decide +kernel
theorem dX4_byRader_103 : decode cX4_byRader 103 = .ok (.invokevirtual 45, 3) := by decide +kernel
theorem dX4_byRader_106 : decode cX4_byRader 106 = .ok (.iastore, 1) := by decide +kernel
theorem dX4_byRader_107 : decode cX4_byRader 107 = .ok (.iconst 0, 1) := by decide +kernel
theorem dX4_byRader_108 : decode cX4_byRader 108 = .ok (.istore 8, 2) := by decide +kernel
theorem dX4_byRader_110 : decode cX4_byRader 110 = .ok (.iload 8, 2) := by decide +kernel
theorem dX4_byRader_112 : decode cX4_byRader 112 = .ok (.iload 5, 2) := by decide +kernel
theorem dX4_byRader_114 : decode cX4_byRader 114 = .ok (.if_icmp .ge 54, 3) := by decide +kernel
theorem dX4_byRader_117 : decode cX4_byRader 117 = .ok (.aload_n 0, 1) := by decide +kernel
theorem dX4_byRader_118 : decode cX4_byRader 118 = .ok (.getfield 18, 3) := by decide +kernel
theorem dX4_byRader_121 : decode cX4_byRader 121 = .ok (.aload_n 0, 1) := by decide +kernel
theorem dX4_byRader_122 : decode cX4_byRader 122 = .ok (.getfield 24, 3) := by decide +kernel
theorem dX4_byRader_125 : decode cX4_byRader 125 = .ok (.iload 5, 2) := by decide +kernel
theorem dX4_byRader_127 : decode cX4_byRader 127 = .ok (.iload 8, 2) := by decide +kernel
theorem dX4_byRader_129 : decode cX4_byRader 129 = .ok (.invokestatic 76, 3) := by decide +kernel
theorem dX4_byRader_132 : decode cX4_byRader 132 = .ok (.lstore 9, 2) := by decide +kernel
theorem dX4_byRader_134 : decode cX4_byRader 134 = .ok (.aload_n 0, 1) := by decide +kernel
theorem dX4_byRader_135 : decode cX4_byRader 135 = .ok (.getfield 9, 3) := by decide +kernel
theorem dX4_byRader_138 : decode cX4_byRader 138 = .ok (.aload_n 0, 1) := by decide +kernel
theorem dX4_byRader_139 : decode cX4_byRader 139 = .ok (.getfield 21, 3) := by decide +kernel
theorem dX4_byRader_142 : decode cX4_byRader 142 = .ok (.iload 8, 2) := by decide +kernel
theorem dX4_byRader_144 : decode cX4_byRader 144 = .ok (.iload 5, 2) := by decide +kernel
theorem dX4_byRader_146 : decode cX4_byRader 146 = .ok (.invokestatic 72, 3) := by decide +kernel
theorem dX4_byRader_149 : decode cX4_byRader 149 = .ok (.iaload, 1) := by decide +kernel
theorem dX4_byRader_150 : decode cX4_byRader 150 = .ok (.aload_n 1, 1) := by decide +kernel
theorem dX4_byRader_151 : decode cX4_byRader 151 = .ok (.aload_n 2, 1) := by decide +kernel
theorem dX4_byRader_152 : decode cX4_byRader 152 = .ok (.iconst 0, 1) := by decide +kernel
theorem dX4_byRader_153 : decode cX4_byRader 153 = .ok (.iaload, 1) := by decide +kernel
theorem dX4_byRader_154 : decode cX4_byRader 154 = .ok (.i2l, 1) := by decide +kernel
theorem dX4_byRader_155 : decode cX4_byRader 155 = .ok (.lload 9, 2) := by decide +kernel
theorem dX4_byRader_157 : decode cX4_byRader 157 = .ok (.ladd, 1) := by decide +kernel
theorem dX4_byRader_158 : decode cX4_byRader 158 = .ok (.invokevirtual 45, 3) := by decide +kernel
theorem dX4_byRader_161 : decode cX4_byRader 161 = .ok (.iastore, 1) := by decide +kernel
theorem dX4_byRader_162 : decode cX4_byRader 162 = .ok (.iinc 8 1, 3) := by decide +kernel
theorem dX4_byRader_165 : decode cX4_byRader 165 = .ok (.goto (-55), 3) := by decide +kernel
theorem dX4_byRader_168 : decode cX4_byRader 168 = .ok (.aload_n 0, 1) := by decide +kernel
theorem dX4_byRader_169 : decode cX4_byRader 169 = .ok (.aload_n 2, 1) := by decide +kernel
theorem dX4_byRader_170 : decode cX4_byRader 170 = .ok (.iload 4, 2) := by decide +kernel
theorem dX4_byRader_172 : decode cX4_byRader 172 = .ok (.invokevirtual 37, 3) := by decide +kernel
theorem dX4_byRader_175 : decode cX4_byRader 175 = .ok (.return_, 1) := by decide +kernel
set_option maxRecDepth 20000 in
theorem ggX4_fillSeats_X2_generator : GoodIn wsX4_fillSeats wsX2_generator := goodIn_r _ [6, 7, 22, 23, 24, 25, 26, 27] (by decide +kernel) (by decide +kernel)
set_option maxRecDepth 20000 in
theorem gX4_fillSeats_X2_generator : GoodIn wsX4_fillSeats (wsV RX4 82 RX2 yX2_generator wsX2_generator) := goodIn_app (goodIn_of _ (by decide +kernel)) ggX4_fillSeats_X2_generator
set_option maxRecDepth 20000 in
theorem ggX4_fillSeats_X2_size : GoodIn wsX4_fillSeats wsX2_size := goodIn_r _ [11, 12, 22, 23, 24, 25, 26, 27] (by decide +kernel) (by decide +kernel)
set_option maxRecDepth 20000 in
theorem gX4_fillSeats_X2_size : GoodIn wsX4_fillSeats (wsV RX4 27 RX2 yX2_size wsX2_size) := goodIn_app (goodIn_of _ (by decide +kernel)) ggX4_fillSeats_X2_size
set_option maxRecDepth 20000 in
theorem ggX4_fillSeats_X1_remainder : GoodIn wsX4_fillSeats wsX1_remainder := goodIn_r _ [16] (by decide +kernel) (by decide +kernel)
set_option maxRecDepth 20000 in
theorem gX4_fillSeats_X1_remainder : GoodIn wsX4_fillSeats (va_wsS RX4 61 yX1_remainder wsX1_remainder) := goodIn_app (goodIn_of _ (by decide +kernel)) ggX4_fillSeats_X1_remainder
theorem dX4_fillSeats_0 : decode cX4_fillSeats 0 = .ok (.iconst 1, 1) := by decide +kernel
theorem dX4_fillSeats_1 : decode cX4_fillSeats 1 = .ok (.istore_n 3, 1) := by decide +kernel
theorem dX4_fillSeats_2 : decode cX4_fillSeats 2 = .ok (.iconst 0, 1) := by decide +kernel
theorem dX4_fillSeats_3 : decode cX4_fillSeats 3 = .ok (.istore 4, 2) := by decide +kernel
theorem dX4_fillSeats_5 : decode cX4_fillSeats 5 = .ok (.iload 4, 2) := by decide +kernel
theorem dX4_fillSeats_7 : decode cX4_fillSeats 7 = .ok (.iload_n 2, 1) := by decide +kernel
theorem dX4_fillSeats_8 : decode cX4_fillSeats 8 = .ok (.if_icmp .ge 33, 3) := by decide +kernel
theorem dX4_fillSeats_11 : decode cX4_fillSeats 11 = .ok (.aload_n 0, 1) := by decide +kernel
theorem dX4_fillSeats_12 : decode cX4_fillSeats 12 = .ok (.getfield 21, 3) := by decide +kernel
theorem dX4_fillSeats_15 : decode cX4_fillSeats 15 = .ok (.iload 4, 2) := by decide +kernel
theorem dX4_fillSeats_17 : decode cX4_fillSeats 17 = .ok (.iload_n 3, 1) := by decide +kernel
theorem dX4_fillSeats_18 : decode cX4_fillSeats 18 = .ok (.iastore, 1) := by decide +kernel
theorem dX4_fillSeats_19 : decode cX4_fillSeats 19 = .ok (.iload_n 3, 1) := by decide +kernel
theorem dX4_fillSeats_20 : decode cX4_fillSeats 20 = .ok (.i2l, 1) := by decide +kernel
theorem dX4_fillSeats_21 : decode cX4_fillSeats 21 = .ok (.aload_n 1, 1) := by decide +kernel
theorem dX4_fillSeats_22 : decode cX4_fillSeats 22 = .ok (.invokevirtual 82, 3) := by decide +kernel
theorem dX4_fillSeats_25 : decode cX4_fillSeats 25 = .ok (.i2l, 1) := by decide +kernel
theorem dX4_fillSeats_26 : decode cX4_fillSeats 26 = .ok (.lmul, 1) := by decide +kernel
theorem dX4_fillSeats_27 : decode cX4_fillSeats 27 = .ok (.aload_n 1, 1) := by decide +kernel
theorem dX4_fillSeats_28 : decode cX4_fillSeats 28 = .ok (.invokevirtual 27, 3) := by decide +kernel
theorem dX4_fillSeats_31 : decode cX4_fillSeats 31 = .ok (.invokestatic 61, 3) := by decide +kernel
theorem dX4_fillSeats_34 : decode cX4_fillSeats 34 = .ok (.istore_n 3, 1) := by decide +kernel
theorem dX4_fillSeats_35 : decode cX4_fillSeats 35 = .ok (.iinc 4 1, 3) := by decide +kernel
theorem dX4_fillSeats_38 : decode cX4_fillSeats 38 = .ok (.goto (-33), 3) := by decide +kernel
theorem dX4_fillSeats_41 : decode cX4_fillSeats 41 = .ok (.return_, 1) := by decide +kernel
theorem dX4_opposite_0 : decode cX4_opposite 0 = .ok (.iload_n 0, 1) := by decide +kernel
theorem dX4_opposite_1 : decode cX4_opposite 1 = .ok (.ifCond .ne 7, 3) := by decide +kernel
theorem dX4_opposite_4 : decode cX4_opposite 4 = .ok (.iconst 0, 1) := by decide +kernel
theorem dX4_opposite_5 : decode cX4_opposite 5 = .ok (.goto 6, 3) := by decide +kernel
theorem dX4_opposite_8 : decode cX4_opposite 8 = .ok (.iload_n 1, 1) := by decide +kernel
theorem dX4_opposite_9 : decode cX4_opposite 9 = .ok (.iload_n 0, 1) := by decide +kernel
theorem dX4_opposite_10 : decode cX4_opposite 10 = .ok (.isub, 1) := by decide +kernel
theorem dX4_opposite_11 : decode cX4_opposite 11 = .ok (.ireturn, 1) := by decide +kernel
set_option maxRecDepth 20000 in
theorem ggX4_byBluestein_X2_size : GoodIn wsX4_byBluestein wsX2_size := goodIn_r _ [8, 9, 37, 38, 39, 40, 41, 42] (by decide +kernel) (by decide +kernel)
set_option maxRecDepth 20000 in
theorem gX4_byBluestein_X2_size : GoodIn wsX4_byBluestein (wsV RX4 27 RX2 yX2_size wsX2_size) := goodIn_app (goodIn_of _ (by decide +kernel)) ggX4_byBluestein_X2_size
set_option maxRecDepth 20000 in
theorem ggX4_byBluestein_X4_pairs : GoodIn wsX4_byBluestein wsX4_pairs := goodIn_r _ [13] (by decide +kernel) (by decide +kernel)
set_option maxRecDepth 20000 in
theorem gX4_byBluestein_X4_pairs : GoodIn wsX4_byBluestein (va_wsS RX4 85 yX4_pairs wsX4_pairs) := goodIn_app (goodIn_of _ (by decide +kernel)) ggX4_byBluestein_X4_pairs
set_option maxRecDepth 20000 in
theorem ggX4_byBluestein_X2_power : GoodIn wsX4_byBluestein wsX2_power := goodIn_r _ [17, 18, 9, 19, 20, 21, 22, 37, 38, 39, 40, 41, 42] (by decide +kernel) (by decide +kernel)
set_option maxRecDepth 20000 in
theorem gX4_byBluestein_X2_power : GoodIn wsX4_byBluestein (wsV RX4 41 RX2 yX2_power wsX2_power) := goodIn_app (goodIn_of _ (by decide +kernel)) ggX4_byBluestein_X2_power
set_option maxRecDepth 20000 in
theorem ggX4_byBluestein_X2_remainder : GoodIn wsX4_byBluestein wsX2_remainder := goodIn_r _ [26, 27, 19, 20, 21, 22, 37, 38, 39, 40, 41, 42] (by decide +kernel) (by decide +kernel)
set_option maxRecDepth 20000 in
theorem gX4_byBluestein_X2_remainder : GoodIn wsX4_byBluestein (wsV RX4 45 RX2 yX2_remainder wsX2_remainder) := goodIn_app (goodIn_of _ (by decide +kernel)) ggX4_byBluestein_X2_remainder
set_option maxRecDepth 20000 in
theorem ggX4_byBluestein_X4_copyMade : GoodIn wsX4_byBluestein wsX4_copyMade := goodIn_r _ [31, 3, 32, 33, 34, 35, 36] (by decide +kernel) (by decide +kernel)
set_option maxRecDepth 20000 in
theorem gX4_byBluestein_X4_copyMade : GoodIn wsX4_byBluestein (wsV RX4 37 RX4 yX4_copyMade wsX4_copyMade) := goodIn_app (goodIn_of _ (by decide +kernel)) ggX4_byBluestein_X4_copyMade
theorem dX4_byBluestein_0 : decode cX4_byBluestein 0 = .ok (.aload_n 1, 1) := by decide +kernel
theorem dX4_byBluestein_1 : decode cX4_byBluestein 1 = .ok (.invokevirtual 27, 3) := by decide +kernel
theorem dX4_byBluestein_4 : decode cX4_byBluestein 4 = .ok (.istore 4, 2) := by decide +kernel
theorem dX4_byBluestein_6 : decode cX4_byBluestein 6 = .ok (.iconst 0, 1) := by decide +kernel
theorem dX4_byBluestein_7 : decode cX4_byBluestein 7 = .ok (.istore 5, 2) := by decide +kernel
theorem dX4_byBluestein_9 : decode cX4_byBluestein 9 = .ok (.iload 5, 2) := by decide +kernel
theorem dX4_byBluestein_11 : decode cX4_byBluestein 11 = .ok (.iconst 2, 1) := by decide +kernel
theorem dX4_byBluestein_12 : decode cX4_byBluestein 12 = .ok (.iload 4, 2) := by decide +kernel
theorem dX4_byBluestein_14 : decode cX4_byBluestein 14 = .ok (.imul, 1) := by decide +kernel
theorem dX4_byBluestein_15 : decode cX4_byBluestein 15 = .ok (.iconst 1, 1) := by decide +kernel
theorem dX4_byBluestein_16 : decode cX4_byBluestein 16 = .ok (.isub, 1) := by decide +kernel
theorem dX4_byBluestein_17 : decode cX4_byBluestein 17 = .ok (.if_icmp .ge 27, 3) := by decide +kernel
theorem dX4_byBluestein_20 : decode cX4_byBluestein 20 = .ok (.aload_n 0, 1) := by decide +kernel
theorem dX4_byBluestein_21 : decode cX4_byBluestein 21 = .ok (.getfield 24, 3) := by decide +kernel
theorem dX4_byBluestein_24 : decode cX4_byBluestein 24 = .ok (.iload 5, 2) := by decide +kernel
theorem dX4_byBluestein_26 : decode cX4_byBluestein 26 = .ok (.aload_n 1, 1) := by decide +kernel
theorem dX4_byBluestein_27 : decode cX4_byBluestein 27 = .ok (.iload_n 3, 1) := by decide +kernel
theorem dX4_byBluestein_28 : decode cX4_byBluestein 28 = .ok (.iload 5, 2) := by decide +kernel
theorem dX4_byBluestein_30 : decode cX4_byBluestein 30 = .ok (.invokestatic 85, 3) := by decide +kernel
theorem dX4_byBluestein_33 : decode cX4_byBluestein 33 = .ok (.imul, 1) := by decide +kernel
theorem dX4_byBluestein_34 : decode cX4_byBluestein 34 = .ok (.invokevirtual 41, 3) := by decide +kernel
theorem dX4_byBluestein_37 : decode cX4_byBluestein 37 = .ok (.iastore, 1) := by decide +kernel
theorem dX4_byBluestein_38 : decode cX4_byBluestein 38 = .ok (.iinc 5 1, 3) := by decide +kernel
theorem dX4_byBluestein_41 : decode cX4_byBluestein 41 = .ok (.goto (-32), 3) := by decide +kernel
theorem dX4_byBluestein_44 : decode cX4_byBluestein 44 = .ok (.iconst 0, 1) := by decide +kernel
theorem dX4_byBluestein_45 : decode cX4_byBluestein 45 = .ok (.istore 5, 2) := by decide +kernel
theorem dX4_byBluestein_47 : decode cX4_byBluestein 47 = .ok (.iload 5, 2) := by decide +kernel
theorem dX4_byBluestein_49 : decode cX4_byBluestein 49 = .ok (.iload 4, 2) := by decide +kernel
theorem dX4_byBluestein_51 : decode cX4_byBluestein 51 = .ok (.if_icmp .ge 39, 3) := by decide +kernel
theorem dX4_byBluestein_54 : decode cX4_byBluestein 54 = .ok (.aload_n 0, 1) := by decide +kernel
theorem dX4_byBluestein_55 : decode cX4_byBluestein 55 = .ok (.getfield 18, 3) := by decide +kernel
theorem dX4_byBluestein_58 : decode cX4_byBluestein 58 = .ok (.iload 5, 2) := by decide +kernel
theorem dX4_byBluestein_60 : decode cX4_byBluestein 60 = .ok (.aload_n 1, 1) := by decide +kernel
theorem dX4_byBluestein_61 : decode cX4_byBluestein 61 = .ok (.aload_n 2, 1) := by decide +kernel
theorem dX4_byBluestein_62 : decode cX4_byBluestein 62 = .ok (.iload 5, 2) := by decide +kernel
theorem dX4_byBluestein_64 : decode cX4_byBluestein 64 = .ok (.iaload, 1) := by decide +kernel
theorem dX4_byBluestein_65 : decode cX4_byBluestein 65 = .ok (.i2l, 1) := by decide +kernel
theorem dX4_byBluestein_66 : decode cX4_byBluestein 66 = .ok (.aload_n 1, 1) := by decide +kernel
theorem dX4_byBluestein_67 : decode cX4_byBluestein 67 = .ok (.iload_n 3, 1) := by decide +kernel
theorem dX4_byBluestein_68 : decode cX4_byBluestein 68 = .ok (.ineg, 1) := by decide +kernel
theorem dX4_byBluestein_69 : decode cX4_byBluestein 69 = .ok (.iload 5, 2) := by decide +kernel
theorem dX4_byBluestein_71 : decode cX4_byBluestein 71 = .ok (.invokestatic 85, 3) := by decide +kernel
theorem dX4_byBluestein_74 : decode cX4_byBluestein 74 = .ok (.imul, 1) := by decide +kernel
theorem dX4_byBluestein_75 : decode cX4_byBluestein 75 = .ok (.invokevirtual 41, 3) := by decide +kernel
theorem dX4_byBluestein_78 : decode cX4_byBluestein 78 = .ok (.i2l, 1) := by decide +kernel
theorem dX4_byBluestein_79 : decode cX4_byBluestein 79 = .ok (.lmul, 1) := by decide +kernel
theorem dX4_byBluestein_80 : decode cX4_byBluestein 80 = .ok (.invokevirtual 45, 3) := by decide +kernel
theorem dX4_byBluestein_83 : decode cX4_byBluestein 83 = .ok (.iastore, 1) := by decide +kernel
theorem dX4_byBluestein_84 : decode cX4_byBluestein 84 = .ok (.iinc 5 1, 3) := by decide +kernel
theorem dX4_byBluestein_87 : decode cX4_byBluestein 87 = .ok (.goto (-40), 3) := by decide +kernel
theorem dX4_byBluestein_90 : decode cX4_byBluestein 90 = .ok (.iconst 0, 1) := by decide +kernel
theorem dX4_byBluestein_91 : decode cX4_byBluestein 91 = .ok (.istore 5, 2) := by decide +kernel
theorem dX4_byBluestein_93 : decode cX4_byBluestein 93 = .ok (.iload 5, 2) := by decide +kernel
theorem dX4_byBluestein_95 : decode cX4_byBluestein 95 = .ok (.iload 4, 2) := by decide +kernel
theorem dX4_byBluestein_97 : decode cX4_byBluestein 97 = .ok (.if_icmp .ge 85, 3) := by decide +kernel
theorem dX4_byBluestein_100 : decode cX4_byBluestein 100 = .ok (.lconst 0, 1) := by decide +kernel
theorem dX4_byBluestein_101 : decode cX4_byBluestein 101 = .ok (.lstore 6, 2) := by decide +kernel
theorem dX4_byBluestein_103 : decode cX4_byBluestein 103 = .ok (.iconst 0, 1) := by decide +kernel
theorem dX4_byBluestein_104 : decode cX4_byBluestein 104 = .ok (.istore 8, 2) := by decide +kernel
theorem dX4_byBluestein_106 : decode cX4_byBluestein 106 = .ok (.iload 8, 2) := by decide +kernel
theorem dX4_byBluestein_108 : decode cX4_byBluestein 108 = .ok (.iload 4, 2) := by decide +kernel
theorem dX4_byBluestein_110 : decode cX4_byBluestein 110 = .ok (.if_icmp .ge 34, 3) := by decide +kernel
theorem dX4_byBluestein_113 : decode cX4_byBluestein 113 = .ok (.lload 6, 2) := by decide +kernel
theorem dX4_byBluestein_115 : decode cX4_byBluestein 115 = .ok (.aload_n 0, 1) := by decide +kernel
theorem dX4_byBluestein_116 : decode cX4_byBluestein 116 = .ok (.getfield 18, 3) := by decide +kernel
theorem dX4_byBluestein_119 : decode cX4_byBluestein 119 = .ok (.iload 8, 2) := by decide +kernel
theorem dX4_byBluestein_121 : decode cX4_byBluestein 121 = .ok (.iaload, 1) := by decide +kernel
theorem dX4_byBluestein_122 : decode cX4_byBluestein 122 = .ok (.i2l, 1) := by decide +kernel
theorem dX4_byBluestein_123 : decode cX4_byBluestein 123 = .ok (.aload_n 0, 1) := by decide +kernel
theorem dX4_byBluestein_124 : decode cX4_byBluestein 124 = .ok (.getfield 24, 3) := by decide +kernel
theorem dX4_byBluestein_127 : decode cX4_byBluestein 127 = .ok (.iload 8, 2) := by decide +kernel
theorem dX4_byBluestein_129 : decode cX4_byBluestein 129 = .ok (.iload 5, 2) := by decide +kernel
theorem dX4_byBluestein_131 : decode cX4_byBluestein 131 = .ok (.iadd, 1) := by decide +kernel
theorem dX4_byBluestein_132 : decode cX4_byBluestein 132 = .ok (.iaload, 1) := by decide +kernel
theorem dX4_byBluestein_133 : decode cX4_byBluestein 133 = .ok (.i2l, 1) := by decide +kernel
theorem dX4_byBluestein_134 : decode cX4_byBluestein 134 = .ok (.lmul, 1) := by decide +kernel
theorem dX4_byBluestein_135 : decode cX4_byBluestein 135 = .ok (.ladd, 1) := by decide +kernel
theorem dX4_byBluestein_136 : decode cX4_byBluestein 136 = .ok (.lstore 6, 2) := by decide +kernel
theorem dX4_byBluestein_138 : decode cX4_byBluestein 138 = .ok (.iinc 8 1, 3) := by decide +kernel
theorem dX4_byBluestein_141 : decode cX4_byBluestein 141 = .ok (.goto (-35), 3) := by decide +kernel
theorem dX4_byBluestein_144 : decode cX4_byBluestein 144 = .ok (.aload_n 0, 1) := by decide +kernel
theorem dX4_byBluestein_145 : decode cX4_byBluestein 145 = .ok (.getfield 9, 3) := by decide +kernel
theorem dX4_byBluestein_148 : decode cX4_byBluestein 148 = .ok (.iload 5, 2) := by decide +kernel
theorem dX4_byBluestein_150 : decode cX4_byBluestein 150 = .ok (.aload_n 1, 1) := by decide +kernel
theorem dX4_byBluestein_151 : decode cX4_byBluestein 151 = .ok (.aload_n 1, 1) := by decide +kernel
theorem dX4_byBluestein_152 : decode cX4_byBluestein 152 = .ok (.lload 6, 2) := by decide +kernel
theorem dX4_byBluestein_154 : decode cX4_byBluestein 154 = .ok (.invokevirtual 45, 3) := by decide +kernel
theorem dX4_byBluestein_157 : decode cX4_byBluestein 157 = .ok (.i2l, 1) := by decide +kernel
theorem dX4_byBluestein_158 : decode cX4_byBluestein 158 = .ok (.aload_n 1, 1) := by decide +kernel
theorem dX4_byBluestein_159 : decode cX4_byBluestein 159 = .ok (.iload_n 3, 1) := by decide +kernel
theorem dX4_byBluestein_160 : decode cX4_byBluestein 160 = .ok (.ineg, 1) := by decide +kernel
theorem dX4_byBluestein_161 : decode cX4_byBluestein 161 = .ok (.iload 5, 2) := by decide +kernel
theorem dX4_byBluestein_163 : decode cX4_byBluestein 163 = .ok (.invokestatic 85, 3) := by decide +kernel
theorem dX4_byBluestein_166 : decode cX4_byBluestein 166 = .ok (.imul, 1) := by decide +kernel
theorem dX4_byBluestein_167 : decode cX4_byBluestein 167 = .ok (.invokevirtual 41, 3) := by decide +kernel
theorem dX4_byBluestein_170 : decode cX4_byBluestein 170 = .ok (.i2l, 1) := by decide +kernel
theorem dX4_byBluestein_171 : decode cX4_byBluestein 171 = .ok (.lmul, 1) := by decide +kernel
theorem dX4_byBluestein_172 : decode cX4_byBluestein 172 = .ok (.invokevirtual 45, 3) := by decide +kernel
theorem dX4_byBluestein_175 : decode cX4_byBluestein 175 = .ok (.iastore, 1) := by decide +kernel
theorem dX4_byBluestein_176 : decode cX4_byBluestein 176 = .ok (.iinc 5 1, 3) := by decide +kernel
theorem dX4_byBluestein_179 : decode cX4_byBluestein 179 = .ok (.goto (-86), 3) := by decide +kernel
theorem dX4_byBluestein_182 : decode cX4_byBluestein 182 = .ok (.aload_n 0, 1) := by decide +kernel
theorem dX4_byBluestein_183 : decode cX4_byBluestein 183 = .ok (.aload_n 2, 1) := by decide +kernel
theorem dX4_byBluestein_184 : decode cX4_byBluestein 184 = .ok (.iload 4, 2) := by decide +kernel
theorem dX4_byBluestein_186 : decode cX4_byBluestein 186 = .ok (.invokevirtual 37, 3) := by decide +kernel
theorem dX4_byBluestein_189 : decode cX4_byBluestein 189 = .ok (.return_, 1) := by decide +kernel
theorem dX4_pairs_0 : decode cX4_pairs 0 = .ok (.iload_n 0, 1) := by decide +kernel
theorem dX4_pairs_1 : decode cX4_pairs 1 = .ok (.iload_n 0, 1) := by decide +kernel
theorem dX4_pairs_2 : decode cX4_pairs 2 = .ok (.iconst 1, 1) := by decide +kernel
theorem dX4_pairs_3 : decode cX4_pairs 3 = .ok (.isub, 1) := by decide +kernel
theorem dX4_pairs_4 : decode cX4_pairs 4 = .ok (.imul, 1) := by decide +kernel
theorem dX4_pairs_5 : decode cX4_pairs 5 = .ok (.iconst 2, 1) := by decide +kernel
theorem dX4_pairs_6 : decode cX4_pairs 6 = .ok (.idiv, 1) := by decide +kernel
theorem dX4_pairs_7 : decode cX4_pairs 7 = .ok (.ireturn, 1) := by decide +kernel
theorem dX4_copyMade_0 : decode cX4_copyMade 0 = .ok (.iconst 0, 1) := by decide +kernel
theorem dX4_copyMade_1 : decode cX4_copyMade 1 = .ok (.istore_n 3, 1) := by decide +kernel
theorem dX4_copyMade_2 : decode cX4_copyMade 2 = .ok (.iload_n 3, 1) := by decide +kernel
theorem dX4_copyMade_3 : decode cX4_copyMade 3 = .ok (.iload_n 2, 1) := by decide +kernel
theorem dX4_copyMade_4 : decode cX4_copyMade 4 = .ok (.if_icmp .ge 18, 3) := by decide +kernel
theorem dX4_copyMade_7 : decode cX4_copyMade 7 = .ok (.aload_n 1, 1) := by decide +kernel
theorem dX4_copyMade_8 : decode cX4_copyMade 8 = .ok (.iload_n 3, 1) := by decide +kernel
theorem dX4_copyMade_9 : decode cX4_copyMade 9 = .ok (.aload_n 0, 1) := by decide +kernel
theorem dX4_copyMade_10 : decode cX4_copyMade 10 = .ok (.getfield 9, 3) := by decide +kernel
theorem dX4_copyMade_13 : decode cX4_copyMade 13 = .ok (.iload_n 3, 1) := by decide +kernel
theorem dX4_copyMade_14 : decode cX4_copyMade 14 = .ok (.iaload, 1) := by decide +kernel
theorem dX4_copyMade_15 : decode cX4_copyMade 15 = .ok (.iastore, 1) := by decide +kernel
theorem dX4_copyMade_16 : decode cX4_copyMade 16 = .ok (.iinc 3 1, 3) := by decide +kernel
theorem dX4_copyMade_19 : decode cX4_copyMade 19 = .ok (.goto (-17), 3) := by decide +kernel
theorem dX4_copyMade_22 : decode cX4_copyMade 22 = .ok (.return_, 1) := by decide +kernel

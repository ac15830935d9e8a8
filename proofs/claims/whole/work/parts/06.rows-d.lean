theorem dX6_init_0 : decode cX6_init 0 = .ok (.aload_n 0, 1) := by decide +kernel
theorem dX6_init_1 : decode cX6_init 1 = .ok (.invokespecial 1, 3) := by decide +kernel
theorem dX6_init_4 : decode cX6_init 4 = .ok (.aload_n 0, 1) := by decide +kernel
theorem dX6_init_5 : decode cX6_init 5 = .ok (.sipush 256, 3) := by decide +kernel
theorem dX6_init_8 : decode cX6_init 8 = .ok (.newarray .int, 2) := by decide +kernel
theorem dX6_init_10 : decode cX6_init 10 = .ok (.putfield 7, 3) := by decide +kernel
theorem dX6_init_13 : decode cX6_init 13 = .ok (.aload_n 0, 1) := by decide +kernel
theorem dX6_init_14 : decode cX6_init 14 = .ok (.iconst 4, 1) := by decide +kernel
theorem dX6_init_15 : decode cX6_init 15 = .ok (.newarray .int, 2) := by decide +kernel
theorem dX6_init_17 : decode cX6_init 17 = .ok (.putfield 13, 3) := by decide +kernel
theorem dX6_init_20 : decode cX6_init 20 = .ok (.aload_n 0, 1) := by decide +kernel
theorem dX6_init_21 : decode cX6_init 21 = .ok (.bipush 8, 2) := by decide +kernel
theorem dX6_init_23 : decode cX6_init 23 = .ok (.newarray .int, 2) := by decide +kernel
theorem dX6_init_25 : decode cX6_init 25 = .ok (.putfield 16, 3) := by decide +kernel
theorem dX6_init_28 : decode cX6_init 28 = .ok (.aload_n 0, 1) := by decide +kernel
theorem dX6_init_29 : decode cX6_init 29 = .ok (.bipush 8, 2) := by decide +kernel
theorem dX6_init_31 : decode cX6_init 31 = .ok (.newarray .int, 2) := by decide +kernel
theorem dX6_init_33 : decode cX6_init 33 = .ok (.putfield 19, 3) := by decide +kernel
theorem dX6_init_36 : decode cX6_init 36 = .ok (.aload_n 0, 1) := by decide +kernel
theorem dX6_init_37 : decode cX6_init 37 = .ok (.bipush 8, 2) := by decide +kernel
theorem dX6_init_39 : decode cX6_init 39 = .ok (.newarray .int, 2) := by decide +kernel
theorem dX6_init_41 : decode cX6_init 41 = .ok (.putfield 22, 3) := by decide +kernel
theorem dX6_init_44 : decode cX6_init 44 = .ok (.aload_n 0, 1) := by decide +kernel
theorem dX6_init_45 : decode cX6_init 45 = .ok (.bipush 64, 2) := by decide +kernel
theorem dX6_init_47 : decode cX6_init 47 = .ok (.newarray .int, 2) := by decide +kernel
theorem dX6_init_49 : decode cX6_init 49 = .ok (.putfield 25, 3) := by decide +kernel
theorem dX6_init_52 : decode cX6_init 52 = .ok (.return_, 1) := by decide +kernel
theorem dX6_thrown_0 : decode cX6_thrown 0 = .ok (.aload_n 0, 1) := by decide +kernel
theorem dX6_thrown_1 : decode cX6_thrown 1 = .ok (.getfield 28, 3) := by decide +kernel
theorem dX6_thrown_4 : decode cX6_thrown 4 = .ok (.ireturn, 1) := by decide +kernel
theorem dX6_isRow_0 : decode cX6_isRow 0 = .ok (.iload_n 0, 1) := by decide +kernel
theorem dX6_isRow_1 : decode cX6_isRow 1 = .ok (.ifCond .lt 12, 3) := by decide +kernel
theorem dX6_isRow_4 : decode cX6_isRow 4 = .ok (.iload_n 0, 1) := by decide +kernel
theorem dX6_isRow_5 : decode cX6_isRow 5 = .ok (.iconst 4, 1) := by decide +kernel
theorem dX6_isRow_6 : decode cX6_isRow 6 = .ok (.if_icmp .ge 7, 3) := by decide +kernel
theorem dX6_isRow_9 : decode cX6_isRow 9 = .ok (.iconst 1, 1) := by decide +kernel
theorem dX6_isRow_10 : decode cX6_isRow 10 = .ok (.goto 4, 3) := by decide +kernel
theorem dX6_isRow_13 : decode cX6_isRow 13 = .ok (.iconst 0, 1) := by decide +kernel
theorem dX6_isRow_14 : decode cX6_isRow 14 = .ok (.ireturn, 1) := by decide +kernel
theorem dX6_isPlan_0 : decode cX6_isPlan 0 = .ok (.iload_n 1, 1) := by decide +kernel
theorem dX6_isPlan_1 : decode cX6_isPlan 1 = .ok (.ifCond .lt 15, 3) := by decide +kernel
theorem dX6_isPlan_4 : decode cX6_isPlan 4 = .ok (.iload_n 1, 1) := by decide +kernel
theorem dX6_isPlan_5 : decode cX6_isPlan 5 = .ok (.aload_n 0, 1) := by decide +kernel
theorem dX6_isPlan_6 : decode cX6_isPlan 6 = .ok (.getfield 32, 3) := by decide +kernel
theorem dX6_isPlan_9 : decode cX6_isPlan 9 = .ok (.if_icmp .ge 7, 3) := by decide +kernel
theorem dX6_isPlan_12 : decode cX6_isPlan 12 = .ok (.iconst 1, 1) := by decide +kernel
theorem dX6_isPlan_13 : decode cX6_isPlan 13 = .ok (.goto 4, 3) := by decide +kernel
theorem dX6_isPlan_16 : decode cX6_isPlan 16 = .ok (.iconst 0, 1) := by decide +kernel
theorem dX6_isPlan_17 : decode cX6_isPlan 17 = .ok (.ireturn, 1) := by decide +kernel
theorem dX6_power_0 : decode cX6_power 0 = .ok (.iconst 1, 1) := by decide +kernel
theorem dX6_power_1 : decode cX6_power 1 = .ok (.istore_n 3, 1) := by decide +kernel
theorem dX6_power_2 : decode cX6_power 2 = .ok (.iconst 0, 1) := by decide +kernel
theorem dX6_power_3 : decode cX6_power 3 = .ok (.istore 4, 2) := by decide +kernel
theorem dX6_power_5 : decode cX6_power 5 = .ok (.iload 4, 2) := by decide +kernel
theorem dX6_power_7 : decode cX6_power 7 = .ok (.iload_n 1, 1) := by decide +kernel
theorem dX6_power_8 : decode cX6_power 8 = .ok (.if_icmp .ge 15, 3) := by decide +kernel
theorem dX6_power_11 : decode cX6_power 11 = .ok (.iload_n 3, 1) := by decide +kernel
theorem dX6_power_12 : decode cX6_power 12 = .ok (.iload_n 0, 1) := by decide +kernel
theorem dX6_power_13 : decode cX6_power 13 = .ok (.imul, 1) := by decide +kernel
theorem dX6_power_14 : decode cX6_power 14 = .ok (.iload_n 2, 1) := by decide +kernel
theorem dX6_power_15 : decode cX6_power 15 = .ok (.irem, 1) := by decide +kernel
theorem dX6_power_16 : decode cX6_power 16 = .ok (.istore_n 3, 1) := by decide +kernel
theorem dX6_power_17 : decode cX6_power 17 = .ok (.iinc 4 1, 3) := by decide +kernel
theorem dX6_power_20 : decode cX6_power 20 = .ok (.goto (-15), 3) := by decide +kernel
theorem dX6_power_23 : decode cX6_power 23 = .ok (.iload_n 3, 1) := by decide +kernel
theorem dX6_power_24 : decode cX6_power 24 = .ok (.ireturn, 1) := by decide +kernel
set_option maxRecDepth 20000 in
theorem ggX6_inverse_X6_power : GoodIn wsX6_inverse wsX6_power := goodIn_r _ [4] (by decide +kernel) (by decide +kernel)
set_option maxRecDepth 20000 in
theorem gX6_inverse_X6_power : GoodIn wsX6_inverse (va_wsS RX6 35 yX6_power wsX6_power) := goodIn_app (goodIn_of _ (by decide +kernel)) ggX6_inverse_X6_power
theorem dX6_inverse_0 : decode cX6_inverse 0 = .ok (.iload_n 0, 1) := by decide +kernel
theorem dX6_inverse_1 : decode cX6_inverse 1 = .ok (.iload_n 1, 1) := by decide +kernel
theorem dX6_inverse_2 : decode cX6_inverse 2 = .ok (.iconst 2, 1) := by decide +kernel
theorem dX6_inverse_3 : decode cX6_inverse 3 = .ok (.isub, 1) := by decide +kernel
theorem dX6_inverse_4 : decode cX6_inverse 4 = .ok (.iload_n 1, 1) := by decide +kernel
theorem dX6_inverse_5 : decode cX6_inverse 5 = .ok (.invokestatic 35, 3) := by decide +kernel
theorem dX6_inverse_8 : decode cX6_inverse 8 = .ok (.ireturn, 1) := by decide +kernel
theorem dX6_rest_0 : decode cX6_rest 0 = .ok (.iload_n 0, 1) := by decide +kernel
theorem dX6_rest_1 : decode cX6_rest 1 = .ok (.iload_n 1, 1) := by decide +kernel
theorem dX6_rest_2 : decode cX6_rest 2 = .ok (.irem, 1) := by decide +kernel
theorem dX6_rest_3 : decode cX6_rest 3 = .ok (.istore_n 2, 1) := by decide +kernel
theorem dX6_rest_4 : decode cX6_rest 4 = .ok (.iload_n 2, 1) := by decide +kernel
theorem dX6_rest_5 : decode cX6_rest 5 = .ok (.ifCond .ge 9, 3) := by decide +kernel
theorem dX6_rest_8 : decode cX6_rest 8 = .ok (.iload_n 2, 1) := by decide +kernel
theorem dX6_rest_9 : decode cX6_rest 9 = .ok (.iload_n 1, 1) := by decide +kernel
theorem dX6_rest_10 : decode cX6_rest 10 = .ok (.iadd, 1) := by decide +kernel
theorem dX6_rest_11 : decode cX6_rest 11 = .ok (.goto 4, 3) := by decide +kernel
theorem dX6_rest_14 : decode cX6_rest 14 = .ok (.iload_n 2, 1) := by decide +kernel
theorem dX6_rest_15 : decode cX6_rest 15 = .ok (.ireturn, 1) := by decide +kernel
theorem dX6_isPrime_0 : decode cX6_isPrime 0 = .ok (.iload_n 0, 1) := by decide +kernel
theorem dX6_isPrime_1 : decode cX6_isPrime 1 = .ok (.iconst 1, 1) := by decide +kernel
theorem dX6_isPrime_2 : decode cX6_isPrime 2 = .ok (.if_icmp .le 7, 3) := by decide +kernel
theorem dX6_isPrime_5 : decode cX6_isPrime 5 = .ok (.iconst 1, 1) := by decide +kernel
theorem dX6_isPrime_6 : decode cX6_isPrime 6 = .ok (.goto 4, 3) := by decide +kernel
theorem dX6_isPrime_9 : decode cX6_isPrime 9 = .ok (.iconst 0, 1) := by decide +kernel
theorem dX6_isPrime_10 : decode cX6_isPrime 10 = .ok (.istore_n 1, 1) := by decide +kernel
theorem dX6_isPrime_11 : decode cX6_isPrime 11 = .ok (.iconst 2, 1) := by decide +kernel
theorem dX6_isPrime_12 : decode cX6_isPrime 12 = .ok (.istore_n 2, 1) := by decide +kernel
theorem dX6_isPrime_13 : decode cX6_isPrime 13 = .ok (.iload_n 2, 1) := by decide +kernel
theorem dX6_isPrime_14 : decode cX6_isPrime 14 = .ok (.iload_n 2, 1) := by decide +kernel
theorem dX6_isPrime_15 : decode cX6_isPrime 15 = .ok (.imul, 1) := by decide +kernel
theorem dX6_isPrime_16 : decode cX6_isPrime 16 = .ok (.iload_n 0, 1) := by decide +kernel
theorem dX6_isPrime_17 : decode cX6_isPrime 17 = .ok (.if_icmp .gt 25, 3) := by decide +kernel
theorem dX6_isPrime_20 : decode cX6_isPrime 20 = .ok (.iload_n 1, 1) := by decide +kernel
theorem dX6_isPrime_21 : decode cX6_isPrime 21 = .ok (.ifCond .eq 21, 3) := by decide +kernel
theorem dX6_isPrime_24 : decode cX6_isPrime 24 = .ok (.iload_n 0, 1) := by decide +kernel
theorem dX6_isPrime_25 : decode cX6_isPrime 25 = .ok (.iload_n 2, 1) := by decide +kernel
theorem dX6_isPrime_26 : decode cX6_isPrime 26 = .ok (.irem, 1) := by decide +kernel
theorem dX6_isPrime_27 : decode cX6_isPrime 27 = .ok (.ifCond .eq 7, 3) := by decide +kernel
theorem dX6_isPrime_30 : decode cX6_isPrime 30 = .ok (.iconst 1, 1) := by decide +kernel
theorem dX6_isPrime_31 : decode cX6_isPrime 31 = .ok (.goto 4, 3) := by decide +kernel
theorem dX6_isPrime_34 : decode cX6_isPrime 34 = .ok (.iconst 0, 1) := by decide +kernel
theorem dX6_isPrime_35 : decode cX6_isPrime 35 = .ok (.istore_n 1, 1) := by decide +kernel
theorem dX6_isPrime_36 : decode cX6_isPrime 36 = .ok (.iinc 2 1, 3) := by decide +kernel
theorem dX6_isPrime_39 : decode cX6_isPrime 39 = .ok (.goto (-26), 3) := by decide +kernel
theorem dX6_isPrime_42 : decode cX6_isPrime 42 = .ok (.iload_n 1, 1) := by decide +kernel
theorem dX6_isPrime_43 : decode cX6_isPrime 43 = .ok (.ireturn, 1) := by decide +kernel
theorem dX6_isPrimitive_0 : decode cX6_isPrimitive 0 = .ok (.iload_n 0, 1) := by decide +kernel
theorem dX6_isPrimitive_1 : decode cX6_isPrimitive 1 = .ok (.iload_n 1, 1) := by decide +kernel
theorem dX6_isPrimitive_2 : decode cX6_isPrimitive 2 = .ok (.irem, 1) := by decide +kernel
theorem dX6_isPrimitive_3 : decode cX6_isPrimitive 3 = .ok (.istore_n 2, 1) := by decide +kernel
theorem dX6_isPrimitive_4 : decode cX6_isPrimitive 4 = .ok (.iconst 1, 1) := by decide +kernel
theorem dX6_isPrimitive_5 : decode cX6_isPrimitive 5 = .ok (.istore_n 3, 1) := by decide +kernel
theorem dX6_isPrimitive_6 : decode cX6_isPrimitive 6 = .ok (.iload_n 2, 1) := by decide +kernel
theorem dX6_isPrimitive_7 : decode cX6_isPrimitive 7 = .ok (.iconst 1, 1) := by decide +kernel
theorem dX6_isPrimitive_8 : decode cX6_isPrimitive 8 = .ok (.if_icmp .eq 15, 3) := by decide +kernel
theorem dX6_isPrimitive_11 : decode cX6_isPrimitive 11 = .ok (.iload_n 2, 1) := by decide +kernel
theorem dX6_isPrimitive_12 : decode cX6_isPrimitive 12 = .ok (.iload_n 0, 1) := by decide +kernel
theorem dX6_isPrimitive_13 : decode cX6_isPrimitive 13 = .ok (.imul, 1) := by decide +kernel
theorem dX6_isPrimitive_14 : decode cX6_isPrimitive 14 = .ok (.iload_n 1, 1) := by decide +kernel
theorem dX6_isPrimitive_15 : decode cX6_isPrimitive 15 = .ok (.irem, 1) := by decide +kernel
theorem dX6_isPrimitive_16 : decode cX6_isPrimitive 16 = .ok (.istore_n 2, 1) := by decide +kernel
theorem dX6_isPrimitive_17 : decode cX6_isPrimitive 17 = .ok (.iinc 3 1, 3) := by decide +kernel
theorem dX6_isPrimitive_20 : decode cX6_isPrimitive 20 = .ok (.goto (-14), 3) := by decide +kernel
theorem dX6_isPrimitive_23 : decode cX6_isPrimitive 23 = .ok (.iload_n 3, 1) := by decide +kernel
theorem dX6_isPrimitive_24 : decode cX6_isPrimitive 24 = .ok (.iload_n 1, 1) := by decide +kernel
theorem dX6_isPrimitive_25 : decode cX6_isPrimitive 25 = .ok (.iconst 1, 1) := by decide +kernel
theorem dX6_isPrimitive_26 : decode cX6_isPrimitive 26 = .ok (.isub, 1) := by decide +kernel
theorem dX6_isPrimitive_27 : decode cX6_isPrimitive 27 = .ok (.if_icmp .ne 7, 3) := by decide +kernel
theorem dX6_isPrimitive_30 : decode cX6_isPrimitive 30 = .ok (.iconst 1, 1) := by decide +kernel
theorem dX6_isPrimitive_31 : decode cX6_isPrimitive 31 = .ok (.goto 4, 3) := by decide +kernel
theorem dX6_isPrimitive_34 : decode cX6_isPrimitive 34 = .ok (.iconst 0, 1) := by decide +kernel
theorem dX6_isPrimitive_35 : decode cX6_isPrimitive 35 = .ok (.ireturn, 1) := by decide +kernel
set_option maxRecDepth 20000 in
theorem ggX6_restAt_X6_rest : GoodIn wsX6_restAt wsX6_rest := goodIn_r _ [6] (by decide +kernel) (by decide +kernel)
set_option maxRecDepth 20000 in
theorem gX6_restAt_X6_rest : GoodIn wsX6_restAt (va_wsS RX6 39 yX6_rest wsX6_rest) := goodIn_app (goodIn_of _ (by decide +kernel)) ggX6_restAt_X6_rest
theorem dX6_restAt_0 : decode cX6_restAt 0 = .ok (.iload_n 2, 1) := by decide +kernel
theorem dX6_restAt_1 : decode cX6_restAt 1 = .ok (.aload_n 0, 1) := by decide +kernel
theorem dX6_restAt_2 : decode cX6_restAt 2 = .ok (.getfield 13, 3) := by decide +kernel
theorem dX6_restAt_5 : decode cX6_restAt 5 = .ok (.iload_n 1, 1) := by decide +kernel
theorem dX6_restAt_6 : decode cX6_restAt 6 = .ok (.iaload, 1) := by decide +kernel
theorem dX6_restAt_7 : decode cX6_restAt 7 = .ok (.if_icmp .ge 21, 3) := by decide +kernel
theorem dX6_restAt_10 : decode cX6_restAt 10 = .ok (.aload_n 0, 1) := by decide +kernel
theorem dX6_restAt_11 : decode cX6_restAt 11 = .ok (.getfield 7, 3) := by decide +kernel
theorem dX6_restAt_14 : decode cX6_restAt 14 = .ok (.bipush 64, 2) := by decide +kernel
theorem dX6_restAt_16 : decode cX6_restAt 16 = .ok (.iload_n 1, 1) := by decide +kernel
theorem dX6_restAt_17 : decode cX6_restAt 17 = .ok (.imul, 1) := by decide +kernel
theorem dX6_restAt_18 : decode cX6_restAt 18 = .ok (.iload_n 2, 1) := by decide +kernel
theorem dX6_restAt_19 : decode cX6_restAt 19 = .ok (.iadd, 1) := by decide +kernel
theorem dX6_restAt_20 : decode cX6_restAt 20 = .ok (.iaload, 1) := by decide +kernel
theorem dX6_restAt_21 : decode cX6_restAt 21 = .ok (.iload_n 3, 1) := by decide +kernel
theorem dX6_restAt_22 : decode cX6_restAt 22 = .ok (.invokestatic 39, 3) := by decide +kernel
theorem dX6_restAt_25 : decode cX6_restAt 25 = .ok (.goto 4, 3) := by decide +kernel
theorem dX6_restAt_28 : decode cX6_restAt 28 = .ok (.iconst 0, 1) := by decide +kernel
theorem dX6_restAt_29 : decode cX6_restAt 29 = .ok (.ireturn, 1) := by decide +kernel
theorem dX6_put_0 : decode cX6_put 0 = .ok (.iconst 0, 1) := by decide +kernel
theorem dX6_put_1 : decode cX6_put 1 = .ok (.istore_n 3, 1) := by decide +kernel
theorem dX6_put_2 : decode cX6_put 2 = .ok (.iload_n 3, 1) := by decide +kernel
theorem dX6_put_3 : decode cX6_put 3 = .ok (.iload_n 2, 1) := by decide +kernel
theorem dX6_put_4 : decode cX6_put 4 = .ok (.if_icmp .ge 26, 3) := by decide +kernel
theorem dX6_put_7 : decode cX6_put 7 = .ok (.aload_n 0, 1) := by decide +kernel
theorem dX6_put_8 : decode cX6_put 8 = .ok (.getfield 7, 3) := by decide +kernel
theorem dX6_put_11 : decode cX6_put 11 = .ok (.bipush 64, 2) := by decide +kernel
theorem dX6_put_13 : decode cX6_put 13 = .ok (.iload_n 1, 1) := by decide +kernel
theorem dX6_put_14 : decode cX6_put 14 = .ok (.imul, 1) := by decide +kernel
theorem dX6_put_15 : decode cX6_put 15 = .ok (.iload_n 3, 1) := by decide +kernel
theorem dX6_put_16 : decode cX6_put 16 = .ok (.iadd, 1) := by decide +kernel
theorem dX6_put_17 : decode cX6_put 17 = .ok (.aload_n 0, 1) := by decide +kernel
theorem dX6_put_18 : decode cX6_put 18 = .ok (.getfield 25, 3) := by decide +kernel
theorem dX6_put_21 : decode cX6_put 21 = .ok (.iload_n 3, 1) := by decide +kernel
theorem dX6_put_22 : decode cX6_put 22 = .ok (.iaload, 1) := by decide +kernel
theorem dX6_put_23 : decode cX6_put 23 = .ok (.iastore, 1) := by decide +kernel
theorem dX6_put_24 : decode cX6_put 24 = .ok (.iinc 3 1, 3) := by decide +kernel
theorem dX6_put_27 : decode cX6_put 27 = .ok (.goto (-25), 3) := by decide +kernel
theorem dX6_put_30 : decode cX6_put 30 = .ok (.aload_n 0, 1) := by decide +kernel
theorem dX6_put_31 : decode cX6_put 31 = .ok (.getfield 13, 3) := by decide +kernel
theorem dX6_put_34 : decode cX6_put 34 = .ok (.iload_n 1, 1) := by decide +kernel
theorem dX6_put_35 : decode cX6_put 35 = .ok (.iload_n 2, 1) := by decide +kernel
theorem dX6_put_36 : decode cX6_put 36 = .ok (.iastore, 1) := by decide +kernel
theorem dX6_put_37 : decode cX6_put 37 = .ok (.iload_n 2, 1) := by decide +kernel
theorem dX6_put_38 : decode cX6_put 38 = .ok (.ireturn, 1) := by decide +kernel
set_option maxRecDepth 20000 in
theorem ggX6_append_X6_isRow : GoodIn wsX6_append wsX6_isRow := goodIn_r _ [7] (by decide +kernel) (by decide +kernel)
set_option maxRecDepth 20000 in
theorem gX6_append_X6_isRow : GoodIn wsX6_append (va_wsS RX6 43 yX6_isRow wsX6_isRow) := goodIn_app (goodIn_of _ (by decide +kernel)) ggX6_append_X6_isRow
theorem dX6_append_0 : decode cX6_append 0 = .ok (.aload_n 0, 1) := by decide +kernel
theorem dX6_append_1 : decode cX6_append 1 = .ok (.iload_n 1, 1) := by decide +kernel
theorem dX6_append_2 : decode cX6_append 2 = .ok (.invokestatic 43, 3) := by decide +kernel
theorem dX6_append_5 : decode cX6_append 5 = .ok (.ifCond .ne 7, 3) := by decide +kernel
theorem dX6_append_8 : decode cX6_append 8 = .ok (.iconst 1, 1) := by decide +kernel
theorem dX6_append_9 : decode cX6_append 9 = .ok (.goto 37, 3) := by decide +kernel
theorem dX6_append_12 : decode cX6_append 12 = .ok (.iload_n 2, 1) := by decide +kernel
theorem dX6_append_13 : decode cX6_append 13 = .ok (.sipush (-9999), 3) := by decide +kernel
theorem dX6_append_16 : decode cX6_append 16 = .ok (.if_icmp .lt 10, 3) := by decide +kernel
theorem dX6_append_19 : decode cX6_append 19 = .ok (.iload_n 2, 1) := by decide +kernel
theorem dX6_append_20 : decode cX6_append 20 = .ok (.sipush 9999, 3) := by decide +kernel
theorem dX6_append_23 : decode cX6_append 23 = .ok (.if_icmp .le 7, 3) := by decide +kernel
theorem dX6_append_26 : decode cX6_append 26 = .ok (.iconst 2, 1) := by decide +kernel
theorem dX6_append_27 : decode cX6_append 27 = .ok (.goto 19, 3) := by decide +kernel
theorem dX6_append_30 : decode cX6_append 30 = .ok (.aload_n 0, 1) := by decide +kernel
theorem dX6_append_31 : decode cX6_append 31 = .ok (.getfield 13, 3) := by decide +kernel
theorem dX6_append_34 : decode cX6_append 34 = .ok (.iload_n 1, 1) := by decide +kernel
theorem dX6_append_35 : decode cX6_append 35 = .ok (.iaload, 1) := by decide +kernel
theorem dX6_append_36 : decode cX6_append 36 = .ok (.bipush 64, 2) := by decide +kernel
theorem dX6_append_38 : decode cX6_append 38 = .ok (.if_icmp .ne 7, 3) := by decide +kernel
theorem dX6_append_41 : decode cX6_append 41 = .ok (.iconst 3, 1) := by decide +kernel
theorem dX6_append_42 : decode cX6_append 42 = .ok (.goto 4, 3) := by decide +kernel
theorem dX6_append_45 : decode cX6_append 45 = .ok (.iconst 0, 1) := by decide +kernel
theorem dX6_append_46 : decode cX6_append 46 = .ok (.putfield 28, 3) := by decide +kernel
theorem dX6_append_49 : decode cX6_append 49 = .ok (.aload_n 0, 1) := by decide +kernel
theorem dX6_append_50 : decode cX6_append 50 = .ok (.getfield 28, 3) := by decide +kernel
theorem dX6_append_53 : decode cX6_append 53 = .ok (.ifCond .eq 5, 3) := by decide +kernel
theorem dX6_append_56 : decode cX6_append 56 = .ok (.iconst 0, 1) := by decide +kernel
theorem dX6_append_57 : decode cX6_append 57 = .ok (.ireturn, 1) := by decide +kernel
theorem dX6_append_58 : decode cX6_append 58 = .ok (.aload_n 0, 1) := by decide +kernel
theorem dX6_append_59 : decode cX6_append 59 = .ok (.getfield 7, 3) := by decide +kernel
theorem dX6_append_62 : decode cX6_append 62 = .ok (.bipush 64, 2) := by decide +kernel
theorem dX6_append_64 : decode cX6_append 64 = .ok (.iload_n 1, 1) := by decide +kernel
theorem dX6_append_65 : decode cX6_append 65 = .ok (.imul, 1) := by decide +kernel
theorem dX6_append_66 : decode cX6_append 66 = .ok (.aload_n 0, 1) := by decide +kernel
theorem dX6_append_67 : decode cX6_append 67 = .ok (.getfield 13, 3) := by decide +kernel
theorem dX6_append_70 : decode cX6_append 70 = .ok (.iload_n 1, 1) := by decide +kernel
theorem dX6_append_71 : decode cX6_append 71 = .ok (.iaload, 1) := by decide +kernel
theorem dX6_append_72 : decode cX6_append 72 = .ok (.iadd, 1) := by decide +kernel
theorem dX6_append_73 : decode cX6_append 73 = .ok (.iload_n 2, 1) := by decide +kernel
theorem dX6_append_74 : decode cX6_append 74 = .ok (.iastore, 1) := by decide +kernel
theorem dX6_append_75 : decode cX6_append 75 = .ok (.aload_n 0, 1) := by decide +kernel
theorem dX6_append_76 : decode cX6_append 76 = .ok (.getfield 13, 3) := by decide +kernel
theorem dX6_append_79 : decode cX6_append 79 = .ok (.iload_n 1, 1) := by decide +kernel
theorem dX6_append_80 : decode cX6_append 80 = .ok (.dup2, 1) := by decide +kernel
theorem dX6_append_81 : decode cX6_append 81 = .ok (.iaload, 1) := by decide +kernel
theorem dX6_append_82 : decode cX6_append 82 = .ok (.iconst 1, 1) := by decide +kernel
theorem dX6_append_83 : decode cX6_append 83 = .ok (.iadd, 1) := by decide +kernel
theorem dX6_append_84 : decode cX6_append 84 = .ok (.iastore, 1) := by decide +kernel
theorem dX6_append_85 : decode cX6_append 85 = .ok (.aload_n 0, 1) := by decide +kernel
theorem dX6_append_86 : decode cX6_append 86 = .ok (.getfield 13, 3) := by decide +kernel
theorem dX6_append_89 : decode cX6_append 89 = .ok (.iload_n 1, 1) := by decide +kernel
theorem dX6_append_90 : decode cX6_append 90 = .ok (.iaload, 1) := by decide +kernel
theorem dX6_append_91 : decode cX6_append 91 = .ok (.ireturn, 1) := by decide +kernel
set_option maxRecDepth 20000 in
theorem ggX6_clear_X6_isRow : GoodIn wsX6_clear wsX6_isRow := goodIn_r _ [6] (by decide +kernel) (by decide +kernel)
set_option maxRecDepth 20000 in
theorem gX6_clear_X6_isRow : GoodIn wsX6_clear (va_wsS RX6 43 yX6_isRow wsX6_isRow) := goodIn_app (goodIn_of _ (by decide +kernel)) ggX6_clear_X6_isRow
theorem dX6_clear_0 : decode cX6_clear 0 = .ok (.aload_n 0, 1) := by decide +kernel
theorem dX6_clear_1 : decode cX6_clear 1 = .ok (.iload_n 1, 1) := by decide +kernel
theorem dX6_clear_2 : decode cX6_clear 2 = .ok (.invokestatic 43, 3) := by decide +kernel
theorem dX6_clear_5 : decode cX6_clear 5 = .ok (.ifCond .eq 7, 3) := by decide +kernel
theorem dX6_clear_8 : decode cX6_clear 8 = .ok (.iconst 0, 1) := by decide +kernel
theorem dX6_clear_9 : decode cX6_clear 9 = .ok (.goto 4, 3) := by decide +kernel
theorem dX6_clear_12 : decode cX6_clear 12 = .ok (.iconst 1, 1) := by decide +kernel
theorem dX6_clear_13 : decode cX6_clear 13 = .ok (.putfield 28, 3) := by decide +kernel
theorem dX6_clear_16 : decode cX6_clear 16 = .ok (.aload_n 0, 1) := by decide +kernel
theorem dX6_clear_17 : decode cX6_clear 17 = .ok (.getfield 28, 3) := by decide +kernel
theorem dX6_clear_20 : decode cX6_clear 20 = .ok (.ifCond .eq 5, 3) := by decide +kernel
theorem dX6_clear_23 : decode cX6_clear 23 = .ok (.iconst 0, 1) := by decide +kernel
theorem dX6_clear_24 : decode cX6_clear 24 = .ok (.ireturn, 1) := by decide +kernel
theorem dX6_clear_25 : decode cX6_clear 25 = .ok (.aload_n 0, 1) := by decide +kernel
theorem dX6_clear_26 : decode cX6_clear 26 = .ok (.getfield 13, 3) := by decide +kernel
theorem dX6_clear_29 : decode cX6_clear 29 = .ok (.iload_n 1, 1) := by decide +kernel
theorem dX6_clear_30 : decode cX6_clear 30 = .ok (.iaload, 1) := by decide +kernel
theorem dX6_clear_31 : decode cX6_clear 31 = .ok (.istore_n 2, 1) := by decide +kernel
theorem dX6_clear_32 : decode cX6_clear 32 = .ok (.aload_n 0, 1) := by decide +kernel
theorem dX6_clear_33 : decode cX6_clear 33 = .ok (.getfield 13, 3) := by decide +kernel
theorem dX6_clear_36 : decode cX6_clear 36 = .ok (.iload_n 1, 1) := by decide +kernel
theorem dX6_clear_37 : decode cX6_clear 37 = .ok (.iconst 0, 1) := by decide +kernel
theorem dX6_clear_38 : decode cX6_clear 38 = .ok (.iastore, 1) := by decide +kernel
theorem dX6_clear_39 : decode cX6_clear 39 = .ok (.iload_n 2, 1) := by decide +kernel
theorem dX6_clear_40 : decode cX6_clear 40 = .ok (.ireturn, 1) := by decide +kernel
set_option maxRecDepth 20000 in
theorem ggX6_copy_X6_isRow : GoodIn wsX6_copy wsX6_isRow := goodIn_r _ [7] (by decide +kernel) (by decide +kernel)
set_option maxRecDepth 20000 in
theorem gX6_copy_X6_isRow : GoodIn wsX6_copy (va_wsS RX6 43 yX6_isRow wsX6_isRow) := goodIn_app (goodIn_of _ (by decide +kernel)) ggX6_copy_X6_isRow
theorem dX6_copy_0 : decode cX6_copy 0 = .ok (.aload_n 0, 1) := by decide +kernel
theorem dX6_copy_1 : decode cX6_copy 1 = .ok (.iload_n 1, 1) := by decide +kernel
theorem dX6_copy_2 : decode cX6_copy 2 = .ok (.invokestatic 43, 3) := by decide +kernel
theorem dX6_copy_5 : decode cX6_copy 5 = .ok (.ifCond .eq 14, 3) := by decide +kernel
theorem dX6_copy_8 : decode cX6_copy 8 = .ok (.iload_n 2, 1) := by decide +kernel
theorem dX6_copy_9 : decode cX6_copy 9 = .ok (.invokestatic 43, 3) := by decide +kernel
theorem dX6_copy_12 : decode cX6_copy 12 = .ok (.ifCond .eq 7, 3) := by decide +kernel
theorem dX6_copy_15 : decode cX6_copy 15 = .ok (.iconst 0, 1) := by decide +kernel
theorem dX6_copy_16 : decode cX6_copy 16 = .ok (.goto 4, 3) := by decide +kernel
theorem dX6_copy_19 : decode cX6_copy 19 = .ok (.iconst 1, 1) := by decide +kernel
theorem dX6_copy_20 : decode cX6_copy 20 = .ok (.putfield 28, 3) := by decide +kernel
theorem dX6_copy_23 : decode cX6_copy 23 = .ok (.aload_n 0, 1) := by decide +kernel
theorem dX6_copy_24 : decode cX6_copy 24 = .ok (.getfield 28, 3) := by decide +kernel
theorem dX6_copy_27 : decode cX6_copy 27 = .ok (.ifCond .eq 5, 3) := by decide +kernel
theorem dX6_copy_30 : decode cX6_copy 30 = .ok (.iconst 0, 1) := by decide +kernel
theorem dX6_copy_31 : decode cX6_copy 31 = .ok (.ireturn, 1) := by decide +kernel
theorem dX6_copy_32 : decode cX6_copy 32 = .ok (.iconst 0, 1) := by decide +kernel
theorem dX6_copy_33 : decode cX6_copy 33 = .ok (.istore_n 3, 1) := by decide +kernel
theorem dX6_copy_34 : decode cX6_copy 34 = .ok (.iload_n 3, 1) := by decide +kernel
theorem dX6_copy_35 : decode cX6_copy 35 = .ok (.aload_n 0, 1) := by decide +kernel
theorem dX6_copy_36 : decode cX6_copy 36 = .ok (.getfield 13, 3) := by decide +kernel
theorem dX6_copy_39 : decode cX6_copy 39 = .ok (.iload_n 1, 1) := by decide +kernel
theorem dX6_copy_40 : decode cX6_copy 40 = .ok (.iaload, 1) := by decide +kernel
theorem dX6_copy_41 : decode cX6_copy 41 = .ok (.if_icmp .ge 31, 3) := by decide +kernel
theorem dX6_copy_44 : decode cX6_copy 44 = .ok (.aload_n 0, 1) := by decide +kernel
theorem dX6_copy_45 : decode cX6_copy 45 = .ok (.getfield 7, 3) := by decide +kernel
theorem dX6_copy_48 : decode cX6_copy 48 = .ok (.bipush 64, 2) := by decide +kernel
theorem dX6_copy_50 : decode cX6_copy 50 = .ok (.iload_n 2, 1) := by decide +kernel
theorem dX6_copy_51 : decode cX6_copy 51 = .ok (.imul, 1) := by decide +kernel
theorem dX6_copy_52 : decode cX6_copy 52 = .ok (.iload_n 3, 1) := by decide +kernel
theorem dX6_copy_53 : decode cX6_copy 53 = .ok (.iadd, 1) := by decide +kernel
theorem dX6_copy_54 : decode cX6_copy 54 = .ok (.aload_n 0, 1) := by decide +kernel
theorem dX6_copy_55 : decode cX6_copy 55 = .ok (.getfield 7, 3) := by decide +kernel
theorem dX6_copy_58 : decode cX6_copy 58 = .ok (.bipush 64, 2) := by decide +kernel
theorem dX6_copy_60 : decode cX6_copy 60 = .ok (.iload_n 1, 1) := by decide +kernel
theorem dX6_copy_61 : decode cX6_copy 61 = .ok (.imul, 1) := by decide +kernel
theorem dX6_copy_62 : decode cX6_copy 62 = .ok (.iload_n 3, 1) := by decide +kernel
theorem dX6_copy_63 : decode cX6_copy 63 = .ok (.iadd, 1) := by decide +kernel
theorem dX6_copy_64 : decode cX6_copy 64 = .ok (.iaload, 1) := by decide +kernel
theorem dX6_copy_65 : decode cX6_copy 65 = .ok (.iastore, 1) := by decide +kernel
theorem dX6_copy_66 : decode cX6_copy 66 = .ok (.iinc 3 1, 3) := by decide +kernel
theorem dX6_copy_69 : decode cX6_copy 69 = .ok (.goto (-35), 3) := by decide +kernel
theorem dX6_copy_72 : decode cX6_copy 72 = .ok (.aload_n 0, 1) := by decide +kernel
theorem dX6_copy_73 : decode cX6_copy 73 = .ok (.getfield 13, 3) := by decide +kernel
theorem dX6_copy_76 : decode cX6_copy 76 = .ok (.iload_n 2, 1) := by decide +kernel
theorem dX6_copy_77 : decode cX6_copy 77 = .ok (.aload_n 0, 1) := by decide +kernel
theorem dX6_copy_78 : decode cX6_copy 78 = .ok (.getfield 13, 3) := by decide +kernel
theorem dX6_copy_81 : decode cX6_copy 81 = .ok (.iload_n 1, 1) := by decide +kernel
theorem dX6_copy_82 : decode cX6_copy 82 = .ok (.iaload, 1) := by decide +kernel
theorem dX6_copy_83 : decode cX6_copy 83 = .ok (.iastore, 1) := by decide +kernel
theorem dX6_copy_84 : decode cX6_copy 84 = .ok (.aload_n 0, 1) := by decide +kernel
theorem dX6_copy_85 : decode cX6_copy 85 = .ok (.getfield 13, 3) := by decide +kernel
theorem dX6_copy_88 : decode cX6_copy 88 = .ok (.iload_n 2, 1) := by decide +kernel
theorem dX6_copy_89 : decode cX6_copy 89 = .ok (.iaload, 1) := by decide +kernel
theorem dX6_copy_90 : decode cX6_copy 90 = .ok (.ireturn, 1) := by decide +kernel
set_option maxRecDepth 20000 in
theorem ggX6_length_X6_isRow : GoodIn wsX6_length wsX6_isRow := goodIn_r _ [6] (by decide +kernel) (by decide +kernel)
set_option maxRecDepth 20000 in
theorem gX6_length_X6_isRow : GoodIn wsX6_length (va_wsS RX6 43 yX6_isRow wsX6_isRow) := goodIn_app (goodIn_of _ (by decide +kernel)) ggX6_length_X6_isRow
theorem dX6_length_0 : decode cX6_length 0 = .ok (.aload_n 0, 1) := by decide +kernel
theorem dX6_length_1 : decode cX6_length 1 = .ok (.iload_n 1, 1) := by decide +kernel
theorem dX6_length_2 : decode cX6_length 2 = .ok (.invokestatic 43, 3) := by decide +kernel
theorem dX6_length_5 : decode cX6_length 5 = .ok (.ifCond .eq 7, 3) := by decide +kernel
theorem dX6_length_8 : decode cX6_length 8 = .ok (.iconst 0, 1) := by decide +kernel
theorem dX6_length_9 : decode cX6_length 9 = .ok (.goto 4, 3) := by decide +kernel
theorem dX6_length_12 : decode cX6_length 12 = .ok (.iconst 1, 1) := by decide +kernel
theorem dX6_length_13 : decode cX6_length 13 = .ok (.putfield 28, 3) := by decide +kernel
theorem dX6_length_16 : decode cX6_length 16 = .ok (.aload_n 0, 1) := by decide +kernel
theorem dX6_length_17 : decode cX6_length 17 = .ok (.getfield 28, 3) := by decide +kernel
theorem dX6_length_20 : decode cX6_length 20 = .ok (.ifCond .ne 12, 3) := by decide +kernel
theorem dX6_length_23 : decode cX6_length 23 = .ok (.aload_n 0, 1) := by decide +kernel
theorem dX6_length_24 : decode cX6_length 24 = .ok (.getfield 13, 3) := by decide +kernel
theorem dX6_length_27 : decode cX6_length 27 = .ok (.iload_n 1, 1) := by decide +kernel
theorem dX6_length_28 : decode cX6_length 28 = .ok (.iaload, 1) := by decide +kernel
theorem dX6_length_29 : decode cX6_length 29 = .ok (.goto 4, 3) := by decide +kernel
theorem dX6_length_32 : decode cX6_length 32 = .ok (.iconst 0, 1) := by decide +kernel
theorem dX6_length_33 : decode cX6_length 33 = .ok (.ireturn, 1) := by decide +kernel
set_option maxRecDepth 20000 in
theorem ggX6_at_X6_isRow : GoodIn wsX6_at wsX6_isRow := goodIn_r _ [7] (by decide +kernel) (by decide +kernel)
set_option maxRecDepth 20000 in
theorem gX6_at_X6_isRow : GoodIn wsX6_at (va_wsS RX6 43 yX6_isRow wsX6_isRow) := goodIn_app (goodIn_of _ (by decide +kernel)) ggX6_at_X6_isRow
theorem dX6_at_0 : decode cX6_at 0 = .ok (.aload_n 0, 1) := by decide +kernel
theorem dX6_at_1 : decode cX6_at 1 = .ok (.iload_n 1, 1) := by decide +kernel
theorem dX6_at_2 : decode cX6_at 2 = .ok (.invokestatic 43, 3) := by decide +kernel
theorem dX6_at_5 : decode cX6_at 5 = .ok (.ifCond .eq 21, 3) := by decide +kernel
theorem dX6_at_8 : decode cX6_at 8 = .ok (.iload_n 2, 1) := by decide +kernel
theorem dX6_at_9 : decode cX6_at 9 = .ok (.ifCond .lt 17, 3) := by decide +kernel
theorem dX6_at_12 : decode cX6_at 12 = .ok (.iload_n 2, 1) := by decide +kernel
theorem dX6_at_13 : decode cX6_at 13 = .ok (.aload_n 0, 1) := by decide +kernel
theorem dX6_at_14 : decode cX6_at 14 = .ok (.getfield 13, 3) := by decide +kernel
theorem dX6_at_17 : decode cX6_at 17 = .ok (.iload_n 1, 1) := by decide +kernel
theorem dX6_at_18 : decode cX6_at 18 = .ok (.iaload, 1) := by decide +kernel
theorem dX6_at_19 : decode cX6_at 19 = .ok (.if_icmp .ge 7, 3) := by decide +kernel
theorem dX6_at_22 : decode cX6_at 22 = .ok (.iconst 0, 1) := by decide +kernel
theorem dX6_at_23 : decode cX6_at 23 = .ok (.goto 4, 3) := by decide +kernel
theorem dX6_at_26 : decode cX6_at 26 = .ok (.iconst 1, 1) := by decide +kernel
theorem dX6_at_27 : decode cX6_at 27 = .ok (.putfield 28, 3) := by decide +kernel
theorem dX6_at_30 : decode cX6_at 30 = .ok (.aload_n 0, 1) := by decide +kernel
theorem dX6_at_31 : decode cX6_at 31 = .ok (.getfield 28, 3) := by decide +kernel
theorem dX6_at_34 : decode cX6_at 34 = .ok (.ifCond .ne 17, 3) := by decide +kernel
theorem dX6_at_37 : decode cX6_at 37 = .ok (.aload_n 0, 1) := by decide +kernel
theorem dX6_at_38 : decode cX6_at 38 = .ok (.getfield 7, 3) := by decide +kernel
theorem dX6_at_41 : decode cX6_at 41 = .ok (.bipush 64, 2) := by decide +kernel
theorem dX6_at_43 : decode cX6_at 43 = .ok (.iload_n 1, 1) := by decide +kernel
theorem dX6_at_44 : decode cX6_at 44 = .ok (.imul, 1) := by decide +kernel
theorem dX6_at_45 : decode cX6_at 45 = .ok (.iload_n 2, 1) := by decide +kernel
theorem dX6_at_46 : decode cX6_at 46 = .ok (.iadd, 1) := by decide +kernel
theorem dX6_at_47 : decode cX6_at 47 = .ok (.iaload, 1) := by decide +kernel
theorem dX6_at_48 : decode cX6_at 48 = .ok (.goto 4, 3) := by decide +kernel
theorem dX6_at_51 : decode cX6_at 51 = .ok (.iconst 0, 1) := by decide +kernel
theorem dX6_at_52 : decode cX6_at 52 = .ok (.ireturn, 1) := by decide +kernel
set_option maxRecDepth 20000 in
theorem ggX6_plan_X6_isPrime : GoodIn wsX6_plan wsX6_isPrime := goodIn_r _ [9] (by decide +kernel) (by decide +kernel)
set_option maxRecDepth 20000 in
theorem gX6_plan_X6_isPrime : GoodIn wsX6_plan (va_wsS RX6 47 yX6_isPrime wsX6_isPrime) := goodIn_app (goodIn_of _ (by decide +kernel)) ggX6_plan_X6_isPrime
set_option maxRecDepth 20000 in
theorem ggX6_plan_X6_isPrimitive : GoodIn wsX6_plan wsX6_isPrimitive := goodIn_r _ [12] (by decide +kernel) (by decide +kernel)
set_option maxRecDepth 20000 in
theorem gX6_plan_X6_isPrimitive : GoodIn wsX6_plan (va_wsS RX6 50 yX6_isPrimitive wsX6_isPrimitive) := goodIn_app (goodIn_of _ (by decide +kernel)) ggX6_plan_X6_isPrimitive
set_option maxRecDepth 20000 in
theorem ggX6_plan_X6_power : GoodIn wsX6_plan wsX6_power := goodIn_r _ [15] (by decide +kernel) (by decide +kernel)
set_option maxRecDepth 20000 in
theorem gX6_plan_X6_power : GoodIn wsX6_plan (va_wsS RX6 35 yX6_power wsX6_power) := goodIn_app (goodIn_of _ (by decide +kernel)) ggX6_plan_X6_power
theorem dX6_plan_0 : decode cX6_plan 0 = .ok (.iload_n 1, 1) := by decide +kernel
theorem dX6_plan_1 : decode cX6_plan 1 = .ok (.iconst 3, 1) := by decide +kernel
theorem dX6_plan_2 : decode cX6_plan 2 = .ok (.if_icmp .lt 40, 3) := by decide +kernel
theorem dX6_plan_5 : decode cX6_plan 5 = .ok (.iload_n 1, 1) := by decide +kernel
theorem dX6_plan_6 : decode cX6_plan 6 = .ok (.sipush 9973, 3) := by decide +kernel
theorem dX6_plan_9 : decode cX6_plan 9 = .ok (.if_icmp .gt 33, 3) := by decide +kernel
theorem dX6_plan_12 : decode cX6_plan 12 = .ok (.iload_n 1, 1) := by decide +kernel
theorem dX6_plan_13 : decode cX6_plan 13 = .ok (.invokestatic 47, 3) := by decide +kernel
theorem dX6_plan_16 : decode cX6_plan 16 = .ok (.ifCond .eq 26, 3) := by decide +kernel
theorem dX6_plan_19 : decode cX6_plan 19 = .ok (.iload_n 2, 1) := by decide +kernel
theorem dX6_plan_20 : decode cX6_plan 20 = .ok (.iconst 1, 1) := by decide +kernel
theorem dX6_plan_21 : decode cX6_plan 21 = .ok (.if_icmp .lt 21, 3) := by decide +kernel
theorem dX6_plan_24 : decode cX6_plan 24 = .ok (.iload_n 2, 1) := by decide +kernel
theorem dX6_plan_25 : decode cX6_plan 25 = .ok (.bipush 64, 2) := by decide +kernel
theorem dX6_plan_27 : decode cX6_plan 27 = .ok (.if_icmp .gt 15, 3) := by decide +kernel
theorem dX6_plan_30 : decode cX6_plan 30 = .ok (.iload_n 1, 1) := by decide +kernel
theorem dX6_plan_31 : decode cX6_plan 31 = .ok (.iconst 1, 1) := by decide +kernel
theorem dX6_plan_32 : decode cX6_plan 32 = .ok (.isub, 1) := by decide +kernel
theorem dX6_plan_33 : decode cX6_plan 33 = .ok (.iload_n 2, 1) := by decide +kernel
theorem dX6_plan_34 : decode cX6_plan 34 = .ok (.irem, 1) := by decide +kernel
theorem dX6_plan_35 : decode cX6_plan 35 = .ok (.ifCond .ne 7, 3) := by decide +kernel
theorem dX6_plan_38 : decode cX6_plan 38 = .ok (.iconst 1, 1) := by decide +kernel
theorem dX6_plan_39 : decode cX6_plan 39 = .ok (.goto 4, 3) := by decide +kernel
theorem dX6_plan_42 : decode cX6_plan 42 = .ok (.iconst 0, 1) := by decide +kernel
theorem dX6_plan_43 : decode cX6_plan 43 = .ok (.istore_n 3, 1) := by decide +kernel
theorem dX6_plan_44 : decode cX6_plan 44 = .ok (.aload_n 0, 1) := by decide +kernel
theorem dX6_plan_45 : decode cX6_plan 45 = .ok (.iload_n 3, 1) := by decide +kernel
theorem dX6_plan_46 : decode cX6_plan 46 = .ok (.ifCond .ne 7, 3) := by decide +kernel
theorem dX6_plan_49 : decode cX6_plan 49 = .ok (.iconst 1, 1) := by decide +kernel
theorem dX6_plan_50 : decode cX6_plan 50 = .ok (.goto 17, 3) := by decide +kernel
theorem dX6_plan_53 : decode cX6_plan 53 = .ok (.aload_n 0, 1) := by decide +kernel
theorem dX6_plan_54 : decode cX6_plan 54 = .ok (.getfield 32, 3) := by decide +kernel
theorem dX6_plan_57 : decode cX6_plan 57 = .ok (.bipush 8, 2) := by decide +kernel
theorem dX6_plan_59 : decode cX6_plan 59 = .ok (.if_icmp .ne 7, 3) := by decide +kernel
theorem dX6_plan_62 : decode cX6_plan 62 = .ok (.iconst 2, 1) := by decide +kernel
theorem dX6_plan_63 : decode cX6_plan 63 = .ok (.goto 4, 3) := by decide +kernel
theorem dX6_plan_66 : decode cX6_plan 66 = .ok (.iconst 0, 1) := by decide +kernel
theorem dX6_plan_67 : decode cX6_plan 67 = .ok (.putfield 28, 3) := by decide +kernel
theorem dX6_plan_70 : decode cX6_plan 70 = .ok (.aload_n 0, 1) := by decide +kernel
theorem dX6_plan_71 : decode cX6_plan 71 = .ok (.getfield 28, 3) := by decide +kernel
theorem dX6_plan_74 : decode cX6_plan 74 = .ok (.ifCond .eq 5, 3) := by decide +kernel
theorem dX6_plan_77 : decode cX6_plan 77 = .ok (.iconst 0, 1) := by decide +kernel
theorem dX6_plan_78 : decode cX6_plan 78 = .ok (.ireturn, 1) := by decide +kernel
theorem dX6_plan_79 : decode cX6_plan 79 = .ok (.iconst 1, 1) := by decide +kernel
theorem dX6_plan_80 : decode cX6_plan 80 = .ok (.istore 4, 2) := by decide +kernel
theorem dX6_plan_82 : decode cX6_plan 82 = .ok (.iload 4, 2) := by decide +kernel
theorem dX6_plan_84 : decode cX6_plan 84 = .ok (.iload_n 1, 1) := by decide +kernel
theorem dX6_plan_85 : decode cX6_plan 85 = .ok (.invokestatic 50, 3) := by decide +kernel
theorem dX6_plan_88 : decode cX6_plan 88 = .ok (.ifCond .ne 9, 3) := by decide +kernel
theorem dX6_plan_91 : decode cX6_plan 91 = .ok (.iinc 4 1, 3) := by decide +kernel
theorem dX6_plan_94 : decode cX6_plan 94 = .ok (.goto (-12), 3) := by decide +kernel
theorem dX6_plan_97 : decode cX6_plan 97 = .ok (.aload_n 0, 1) := by decide +kernel
theorem dX6_plan_98 : decode cX6_plan 98 = .ok (.getfield 16, 3) := by decide +kernel
theorem dX6_plan_101 : decode cX6_plan 101 = .ok (.aload_n 0, 1) := by decide +kernel
theorem dX6_plan_102 : decode cX6_plan 102 = .ok (.getfield 32, 3) := by decide +kernel
theorem dX6_plan_105 : decode cX6_plan 105 = .ok (.iload_n 1, 1) := by decide +kernel
theorem dX6_plan_106 : decode cX6_plan 106 = .ok (.iastore, 1) := by decide +kernel
theorem dX6_plan_107 : decode cX6_plan 107 = .ok (.aload_n 0, 1) := by decide +kernel
theorem dX6_plan_108 : decode cX6_plan 108 = .ok (.getfield 19, 3) := by decide +kernel
theorem dX6_plan_111 : decode cX6_plan 111 = .ok (.aload_n 0, 1) := by decide +kernel
theorem dX6_plan_112 : decode cX6_plan 112 = .ok (.getfield 32, 3) := by decide +kernel
theorem dX6_plan_115 : decode cX6_plan 115 = .ok (.iload_n 2, 1) := by decide +kernel
theorem dX6_plan_116 : decode cX6_plan 116 = .ok (.iastore, 1) := by decide +kernel
theorem dX6_plan_117 : decode cX6_plan 117 = .ok (.aload_n 0, 1) := by decide +kernel
theorem dX6_plan_118 : decode cX6_plan 118 = .ok (.getfield 22, 3) := by decide +kernel
theorem dX6_plan_121 : decode cX6_plan 121 = .ok (.aload_n 0, 1) := by decide +kernel
theorem dX6_plan_122 : decode cX6_plan 122 = .ok (.getfield 32, 3) := by decide +kernel
theorem dX6_plan_125 : decode cX6_plan 125 = .ok (.iload 4, 2) := by decide +kernel
theorem dX6_plan_127 : decode cX6_plan 127 = .ok (.iload_n 1, 1) := by decide +kernel
theorem dX6_plan_128 : decode cX6_plan 128 = .ok (.iconst 1, 1) := by decide +kernel
theorem dX6_plan_129 : decode cX6_plan 129 = .ok (.isub, 1) := by decide +kernel
theorem dX6_plan_130 : decode cX6_plan 130 = .ok (.iload_n 2, 1) := by decide +kernel
theorem dX6_plan_131 : decode cX6_plan 131 = .ok (.idiv, 1) := by decide +kernel
theorem dX6_plan_132 : decode cX6_plan 132 = .ok (.iload_n 1, 1) := by decide +kernel
theorem dX6_plan_133 : decode cX6_plan 133 = .ok (.invokestatic 35, 3) := by decide +kernel
theorem dX6_plan_136 : decode cX6_plan 136 = .ok (.iastore, 1) := by decide +kernel
theorem dX6_plan_137 : decode cX6_plan 137 = .ok (.aload_n 0, 1) := by decide +kernel
theorem dX6_plan_138 : decode cX6_plan 138 = .ok (.dup, 1) := by decide +kernel
theorem dX6_plan_139 : decode cX6_plan 139 = .ok (.getfield 32, 3) := by decide +kernel
theorem dX6_plan_142 : decode cX6_plan 142 = .ok (.iconst 1, 1) := by decide +kernel
theorem dX6_plan_143 : decode cX6_plan 143 = .ok (.iadd, 1) := by decide +kernel
theorem dX6_plan_144 : decode cX6_plan 144 = .ok (.putfield 32, 3) := by decide +kernel
theorem dX6_plan_147 : decode cX6_plan 147 = .ok (.aload_n 0, 1) := by decide +kernel
theorem dX6_plan_148 : decode cX6_plan 148 = .ok (.getfield 32, 3) := by decide +kernel
theorem dX6_plan_151 : decode cX6_plan 151 = .ok (.iconst 1, 1) := by decide +kernel
theorem dX6_plan_152 : decode cX6_plan 152 = .ok (.isub, 1) := by decide +kernel
theorem dX6_plan_153 : decode cX6_plan 153 = .ok (.ireturn, 1) := by decide +kernel
theorem dX6_plans_0 : decode cX6_plans 0 = .ok (.aload_n 0, 1) := by decide +kernel
theorem dX6_plans_1 : decode cX6_plans 1 = .ok (.iconst 0, 1) := by decide +kernel
theorem dX6_plans_2 : decode cX6_plans 2 = .ok (.putfield 28, 3) := by decide +kernel
theorem dX6_plans_5 : decode cX6_plans 5 = .ok (.aload_n 0, 1) := by decide +kernel
theorem dX6_plans_6 : decode cX6_plans 6 = .ok (.getfield 32, 3) := by decide +kernel
theorem dX6_plans_9 : decode cX6_plans 9 = .ok (.ireturn, 1) := by decide +kernel
set_option maxRecDepth 20000 in
theorem ggX6_root_X6_isPlan : GoodIn wsX6_root wsX6_isPlan := goodIn_r _ [7, 8, 9, 10, 11, 12, 13, 14, 15, 16] (by decide +kernel) (by decide +kernel)
set_option maxRecDepth 20000 in
theorem gX6_root_X6_isPlan : GoodIn wsX6_root (wsV RX6 54 RX6 yX6_isPlan wsX6_isPlan) := goodIn_app (goodIn_of _ (by decide +kernel)) ggX6_root_X6_isPlan
theorem dX6_root_0 : decode cX6_root 0 = .ok (.aload_n 0, 1) := by decide +kernel
theorem dX6_root_1 : decode cX6_root 1 = .ok (.aload_n 0, 1) := by decide +kernel
theorem dX6_root_2 : decode cX6_root 2 = .ok (.iload_n 1, 1) := by decide +kernel
theorem dX6_root_3 : decode cX6_root 3 = .ok (.invokevirtual 54, 3) := by decide +kernel
theorem dX6_root_6 : decode cX6_root 6 = .ok (.ifCond .eq 7, 3) := by decide +kernel
theorem dX6_root_9 : decode cX6_root 9 = .ok (.iconst 0, 1) := by decide +kernel
theorem dX6_root_10 : decode cX6_root 10 = .ok (.goto 4, 3) := by decide +kernel
theorem dX6_root_13 : decode cX6_root 13 = .ok (.iconst 1, 1) := by decide +kernel
theorem dX6_root_14 : decode cX6_root 14 = .ok (.putfield 28, 3) := by decide +kernel
theorem dX6_root_17 : decode cX6_root 17 = .ok (.aload_n 0, 1) := by decide +kernel
theorem dX6_root_18 : decode cX6_root 18 = .ok (.getfield 28, 3) := by decide +kernel
theorem dX6_root_21 : decode cX6_root 21 = .ok (.ifCond .ne 12, 3) := by decide +kernel
theorem dX6_root_24 : decode cX6_root 24 = .ok (.aload_n 0, 1) := by decide +kernel
theorem dX6_root_25 : decode cX6_root 25 = .ok (.getfield 22, 3) := by decide +kernel
theorem dX6_root_28 : decode cX6_root 28 = .ok (.iload_n 1, 1) := by decide +kernel
theorem dX6_root_29 : decode cX6_root 29 = .ok (.iaload, 1) := by decide +kernel
theorem dX6_root_30 : decode cX6_root 30 = .ok (.goto 4, 3) := by decide +kernel
theorem dX6_root_33 : decode cX6_root 33 = .ok (.iconst 0, 1) := by decide +kernel
theorem dX6_root_34 : decode cX6_root 34 = .ok (.ireturn, 1) := by decide +kernel
set_option maxRecDepth 20000 in
theorem ggX6_waySet_X6_isPrime : GoodIn wsX6_waySet wsX6_isPrime := goodIn_r _ [5] (by decide +kernel) (by decide +kernel)
set_option maxRecDepth 20000 in
theorem gX6_waySet_X6_isPrime : GoodIn wsX6_waySet (va_wsS RX6 47 yX6_isPrime wsX6_isPrime) := goodIn_app (goodIn_of _ (by decide +kernel)) ggX6_waySet_X6_isPrime
theorem dX6_waySet_0 : decode cX6_waySet 0 = .ok (.aload_n 0, 1) := by decide +kernel
theorem dX6_waySet_1 : decode cX6_waySet 1 = .ok (.getfield 19, 3) := by decide +kernel
theorem dX6_waySet_4 : decode cX6_waySet 4 = .ok (.iload_n 1, 1) := by decide +kernel
theorem dX6_waySet_5 : decode cX6_waySet 5 = .ok (.iaload, 1) := by decide +kernel
theorem dX6_waySet_6 : decode cX6_waySet 6 = .ok (.istore_n 2, 1) := by decide +kernel
theorem dX6_waySet_7 : decode cX6_waySet 7 = .ok (.iconst 0, 1) := by decide +kernel
theorem dX6_waySet_8 : decode cX6_waySet 8 = .ok (.istore_n 3, 1) := by decide +kernel
theorem dX6_waySet_9 : decode cX6_waySet 9 = .ok (.iconst 2, 1) := by decide +kernel
theorem dX6_waySet_10 : decode cX6_waySet 10 = .ok (.istore 4, 2) := by decide +kernel
theorem dX6_waySet_12 : decode cX6_waySet 12 = .ok (.iload 4, 2) := by decide +kernel
theorem dX6_waySet_14 : decode cX6_waySet 14 = .ok (.iload_n 2, 1) := by decide +kernel
theorem dX6_waySet_15 : decode cX6_waySet 15 = .ok (.if_icmp .gt 32, 3) := by decide +kernel
theorem dX6_waySet_18 : decode cX6_waySet 18 = .ok (.iload_n 3, 1) := by decide +kernel
theorem dX6_waySet_19 : decode cX6_waySet 19 = .ok (.iload_n 2, 1) := by decide +kernel
theorem dX6_waySet_20 : decode cX6_waySet 20 = .ok (.iload 4, 2) := by decide +kernel
theorem dX6_waySet_22 : decode cX6_waySet 22 = .ok (.irem, 1) := by decide +kernel
theorem dX6_waySet_23 : decode cX6_waySet 23 = .ok (.ifCond .ne 15, 3) := by decide +kernel
theorem dX6_waySet_26 : decode cX6_waySet 26 = .ok (.iload 4, 2) := by decide +kernel
theorem dX6_waySet_28 : decode cX6_waySet 28 = .ok (.invokestatic 47, 3) := by decide +kernel
theorem dX6_waySet_31 : decode cX6_waySet 31 = .ok (.ifCond .eq 7, 3) := by decide +kernel
theorem dX6_waySet_34 : decode cX6_waySet 34 = .ok (.iconst 1, 1) := by decide +kernel
theorem dX6_waySet_35 : decode cX6_waySet 35 = .ok (.goto 4, 3) := by decide +kernel
theorem dX6_waySet_38 : decode cX6_waySet 38 = .ok (.iconst 0, 1) := by decide +kernel
theorem dX6_waySet_39 : decode cX6_waySet 39 = .ok (.iadd, 1) := by decide +kernel
theorem dX6_waySet_40 : decode cX6_waySet 40 = .ok (.istore_n 3, 1) := by decide +kernel
theorem dX6_waySet_41 : decode cX6_waySet 41 = .ok (.iinc 4 1, 3) := by decide +kernel
theorem dX6_waySet_44 : decode cX6_waySet 44 = .ok (.goto (-32), 3) := by decide +kernel
theorem dX6_waySet_47 : decode cX6_waySet 47 = .ok (.bipush 19, 2) := by decide +kernel
theorem dX6_waySet_49 : decode cX6_waySet 49 = .ok (.iload_n 3, 1) := by decide +kernel
theorem dX6_waySet_50 : decode cX6_waySet 50 = .ok (.iconst 1, 1) := by decide +kernel
theorem dX6_waySet_51 : decode cX6_waySet 51 = .ok (.if_icmp .le 7, 3) := by decide +kernel
theorem dX6_waySet_54 : decode cX6_waySet 54 = .ok (.iconst 4, 1) := by decide +kernel
theorem dX6_waySet_55 : decode cX6_waySet 55 = .ok (.goto 4, 3) := by decide +kernel
theorem dX6_waySet_58 : decode cX6_waySet 58 = .ok (.iconst 0, 1) := by decide +kernel
theorem dX6_waySet_59 : decode cX6_waySet 59 = .ok (.iadd, 1) := by decide +kernel
theorem dX6_waySet_60 : decode cX6_waySet 60 = .ok (.iload_n 2, 1) := by decide +kernel
theorem dX6_waySet_61 : decode cX6_waySet 61 = .ok (.iconst 2, 1) := by decide +kernel
theorem dX6_waySet_62 : decode cX6_waySet 62 = .ok (.if_icmp .le 15, 3) := by decide +kernel
theorem dX6_waySet_65 : decode cX6_waySet 65 = .ok (.iload_n 2, 1) := by decide +kernel
theorem dX6_waySet_66 : decode cX6_waySet 66 = .ok (.invokestatic 47, 3) := by decide +kernel
theorem dX6_waySet_69 : decode cX6_waySet 69 = .ok (.ifCond .eq 8, 3) := by decide +kernel
theorem dX6_waySet_72 : decode cX6_waySet 72 = .ok (.bipush 8, 2) := by decide +kernel
theorem dX6_waySet_74 : decode cX6_waySet 74 = .ok (.goto 4, 3) := by decide +kernel
theorem dX6_waySet_77 : decode cX6_waySet 77 = .ok (.iconst 0, 1) := by decide +kernel
theorem dX6_waySet_78 : decode cX6_waySet 78 = .ok (.iadd, 1) := by decide +kernel
theorem dX6_waySet_79 : decode cX6_waySet 79 = .ok (.ireturn, 1) := by decide +kernel
set_option maxRecDepth 20000 in
theorem ggX6_ways_X6_isPlan : GoodIn wsX6_ways wsX6_isPlan := goodIn_r _ [6, 7, 16, 17, 18, 19, 20, 21, 22, 23] (by decide +kernel) (by decide +kernel)
set_option maxRecDepth 20000 in
theorem gX6_ways_X6_isPlan : GoodIn wsX6_ways (wsV RX6 54 RX6 yX6_isPlan wsX6_isPlan) := goodIn_app (goodIn_of _ (by decide +kernel)) ggX6_ways_X6_isPlan
set_option maxRecDepth 20000 in
theorem ggX6_ways_X6_waySet : GoodIn wsX6_ways wsX6_waySet := goodIn_r _ [11, 12, 13, 14, 5, 15, 16, 17, 18, 19, 20, 21, 22, 23] (by decide +kernel) (by decide +kernel)
set_option maxRecDepth 20000 in
theorem gX6_ways_X6_waySet : GoodIn wsX6_ways (wsV RX6 57 RX6 yX6_waySet wsX6_waySet) := goodIn_app (goodIn_of _ (by decide +kernel)) ggX6_ways_X6_waySet
theorem dX6_ways_0 : decode cX6_ways 0 = .ok (.aload_n 0, 1) := by decide +kernel
theorem dX6_ways_1 : decode cX6_ways 1 = .ok (.aload_n 0, 1) := by decide +kernel
theorem dX6_ways_2 : decode cX6_ways 2 = .ok (.iload_n 1, 1) := by decide +kernel
theorem dX6_ways_3 : decode cX6_ways 3 = .ok (.invokevirtual 54, 3) := by decide +kernel
theorem dX6_ways_6 : decode cX6_ways 6 = .ok (.ifCond .eq 7, 3) := by decide +kernel
theorem dX6_ways_9 : decode cX6_ways 9 = .ok (.iconst 0, 1) := by decide +kernel
theorem dX6_ways_10 : decode cX6_ways 10 = .ok (.goto 4, 3) := by decide +kernel
theorem dX6_ways_13 : decode cX6_ways 13 = .ok (.iconst 1, 1) := by decide +kernel
theorem dX6_ways_14 : decode cX6_ways 14 = .ok (.putfield 28, 3) := by decide +kernel
theorem dX6_ways_17 : decode cX6_ways 17 = .ok (.aload_n 0, 1) := by decide +kernel
theorem dX6_ways_18 : decode cX6_ways 18 = .ok (.getfield 28, 3) := by decide +kernel
theorem dX6_ways_21 : decode cX6_ways 21 = .ok (.ifCond .ne 11, 3) := by decide +kernel
theorem dX6_ways_24 : decode cX6_ways 24 = .ok (.aload_n 0, 1) := by decide +kernel
theorem dX6_ways_25 : decode cX6_ways 25 = .ok (.iload_n 1, 1) := by decide +kernel
theorem dX6_ways_26 : decode cX6_ways 26 = .ok (.invokevirtual 57, 3) := by decide +kernel
theorem dX6_ways_29 : decode cX6_ways 29 = .ok (.goto 4, 3) := by decide +kernel
theorem dX6_ways_32 : decode cX6_ways 32 = .ok (.iconst 0, 1) := by decide +kernel
theorem dX6_ways_33 : decode cX6_ways 33 = .ok (.ireturn, 1) := by decide +kernel
set_option maxRecDepth 20000 in
theorem ggX6_sumFor_X6_power : GoodIn wsX6_sumFor wsX6_power := goodIn_r _ [6] (by decide +kernel) (by decide +kernel)
set_option maxRecDepth 20000 in
theorem gX6_sumFor_X6_power : GoodIn wsX6_sumFor (va_wsS RX6 35 yX6_power wsX6_power) := goodIn_app (goodIn_of _ (by decide +kernel)) ggX6_sumFor_X6_power
set_option maxRecDepth 20000 in
theorem ggX6_sumFor_X6_restAt : GoodIn wsX6_sumFor wsX6_restAt := goodIn_r _ [10, 11, 12, 13, 14, 5, 15, 16, 17, 18, 19, 20, 21, 22, 23] (by decide +kernel) (by decide +kernel)
set_option maxRecDepth 20000 in
theorem gX6_sumFor_X6_restAt : GoodIn wsX6_sumFor (wsV RX6 61 RX6 yX6_restAt wsX6_restAt) := goodIn_app (goodIn_of _ (by decide +kernel)) ggX6_sumFor_X6_restAt
theorem dX6_sumFor_0 : decode cX6_sumFor 0 = .ok (.aload_n 0, 1) := by decide +kernel
theorem dX6_sumFor_1 : decode cX6_sumFor 1 = .ok (.getfield 16, 3) := by decide +kernel
theorem dX6_sumFor_4 : decode cX6_sumFor 4 = .ok (.iload_n 1, 1) := by decide +kernel
theorem dX6_sumFor_5 : decode cX6_sumFor 5 = .ok (.iaload, 1) := by decide +kernel
theorem dX6_sumFor_6 : decode cX6_sumFor 6 = .ok (.istore 5, 2) := by decide +kernel
theorem dX6_sumFor_8 : decode cX6_sumFor 8 = .ok (.iload 4, 2) := by decide +kernel
theorem dX6_sumFor_10 : decode cX6_sumFor 10 = .ok (.iload_n 3, 1) := by decide +kernel
theorem dX6_sumFor_11 : decode cX6_sumFor 11 = .ok (.iload 5, 2) := by decide +kernel
theorem dX6_sumFor_13 : decode cX6_sumFor 13 = .ok (.invokestatic 35, 3) := by decide +kernel
theorem dX6_sumFor_16 : decode cX6_sumFor 16 = .ok (.istore 6, 2) := by decide +kernel
theorem dX6_sumFor_18 : decode cX6_sumFor 18 = .ok (.iconst 1, 1) := by decide +kernel
theorem dX6_sumFor_19 : decode cX6_sumFor 19 = .ok (.istore 7, 2) := by decide +kernel
theorem dX6_sumFor_21 : decode cX6_sumFor 21 = .ok (.iconst 0, 1) := by decide +kernel
theorem dX6_sumFor_22 : decode cX6_sumFor 22 = .ok (.istore 8, 2) := by decide +kernel
theorem dX6_sumFor_24 : decode cX6_sumFor 24 = .ok (.iconst 0, 1) := by decide +kernel
theorem dX6_sumFor_25 : decode cX6_sumFor 25 = .ok (.istore 9, 2) := by decide +kernel
theorem dX6_sumFor_27 : decode cX6_sumFor 27 = .ok (.iload 9, 2) := by decide +kernel
theorem dX6_sumFor_29 : decode cX6_sumFor 29 = .ok (.aload_n 0, 1) := by decide +kernel
theorem dX6_sumFor_30 : decode cX6_sumFor 30 = .ok (.getfield 19, 3) := by decide +kernel
theorem dX6_sumFor_33 : decode cX6_sumFor 33 = .ok (.iload_n 1, 1) := by decide +kernel
theorem dX6_sumFor_34 : decode cX6_sumFor 34 = .ok (.iaload, 1) := by decide +kernel
theorem dX6_sumFor_35 : decode cX6_sumFor 35 = .ok (.if_icmp .ge 39, 3) := by decide +kernel
theorem dX6_sumFor_38 : decode cX6_sumFor 38 = .ok (.iload 8, 2) := by decide +kernel
theorem dX6_sumFor_40 : decode cX6_sumFor 40 = .ok (.aload_n 0, 1) := by decide +kernel
theorem dX6_sumFor_41 : decode cX6_sumFor 41 = .ok (.iload_n 2, 1) := by decide +kernel
theorem dX6_sumFor_42 : decode cX6_sumFor 42 = .ok (.iload 9, 2) := by decide +kernel
theorem dX6_sumFor_44 : decode cX6_sumFor 44 = .ok (.iload 5, 2) := by decide +kernel
theorem dX6_sumFor_46 : decode cX6_sumFor 46 = .ok (.invokevirtual 61, 3) := by decide +kernel
theorem dX6_sumFor_49 : decode cX6_sumFor 49 = .ok (.iload 7, 2) := by decide +kernel
theorem dX6_sumFor_51 : decode cX6_sumFor 51 = .ok (.imul, 1) := by decide +kernel
theorem dX6_sumFor_52 : decode cX6_sumFor 52 = .ok (.iadd, 1) := by decide +kernel
theorem dX6_sumFor_53 : decode cX6_sumFor 53 = .ok (.iload 5, 2) := by decide +kernel
theorem dX6_sumFor_55 : decode cX6_sumFor 55 = .ok (.irem, 1) := by decide +kernel
theorem dX6_sumFor_56 : decode cX6_sumFor 56 = .ok (.istore 8, 2) := by decide +kernel
theorem dX6_sumFor_58 : decode cX6_sumFor 58 = .ok (.iload 7, 2) := by decide +kernel
theorem dX6_sumFor_60 : decode cX6_sumFor 60 = .ok (.iload 6, 2) := by decide +kernel
theorem dX6_sumFor_62 : decode cX6_sumFor 62 = .ok (.imul, 1) := by decide +kernel
theorem dX6_sumFor_63 : decode cX6_sumFor 63 = .ok (.iload 5, 2) := by decide +kernel
theorem dX6_sumFor_65 : decode cX6_sumFor 65 = .ok (.irem, 1) := by decide +kernel
theorem dX6_sumFor_66 : decode cX6_sumFor 66 = .ok (.istore 7, 2) := by decide +kernel
theorem dX6_sumFor_68 : decode cX6_sumFor 68 = .ok (.iinc 9 1, 3) := by decide +kernel
theorem dX6_sumFor_71 : decode cX6_sumFor 71 = .ok (.goto (-44), 3) := by decide +kernel
theorem dX6_sumFor_74 : decode cX6_sumFor 74 = .ok (.iload 8, 2) := by decide +kernel
theorem dX6_sumFor_76 : decode cX6_sumFor 76 = .ok (.ireturn, 1) := by decide +kernel
set_option maxRecDepth 20000 in
theorem ggX6_transforms_X6_isPlan : GoodIn wsX6_transforms wsX6_isPlan := goodIn_r _ [11, 12, 45, 46, 47, 48, 49, 50, 51, 52] (by decide +kernel) (by decide +kernel)
set_option maxRecDepth 20000 in
theorem gX6_transforms_X6_isPlan : GoodIn wsX6_transforms (wsV RX6 54 RX6 yX6_isPlan wsX6_isPlan) := goodIn_app (goodIn_of _ (by decide +kernel)) ggX6_transforms_X6_isPlan
set_option maxRecDepth 20000 in
theorem ggX6_transforms_X6_isRow : GoodIn wsX6_transforms wsX6_isRow := goodIn_r _ [15] (by decide +kernel) (by decide +kernel)
set_option maxRecDepth 20000 in
theorem gX6_transforms_X6_isRow : GoodIn wsX6_transforms (va_wsS RX6 43 yX6_isRow wsX6_isRow) := goodIn_app (goodIn_of _ (by decide +kernel)) ggX6_transforms_X6_isRow
set_option maxRecDepth 20000 in
theorem ggX6_transforms_X6_waySet : GoodIn wsX6_transforms wsX6_waySet := goodIn_r _ [19, 3, 20, 21, 10, 22, 45, 46, 47, 48, 49, 50, 51, 52] (by decide +kernel) (by decide +kernel)
set_option maxRecDepth 20000 in
theorem gX6_transforms_X6_waySet : GoodIn wsX6_transforms (wsV RX6 57 RX6 yX6_waySet wsX6_waySet) := goodIn_app (goodIn_of _ (by decide +kernel)) ggX6_transforms_X6_waySet
set_option maxRecDepth 20000 in
theorem ggX6_transforms_X6_inverse : GoodIn wsX6_transforms wsX6_inverse := goodIn_r _ [25, 26, 27, 10, 28] (by decide +kernel) (by decide +kernel)
set_option maxRecDepth 20000 in
theorem gX6_transforms_X6_inverse : GoodIn wsX6_transforms (va_wsS RX6 64 yX6_inverse wsX6_inverse) := goodIn_app (goodIn_of _ (by decide +kernel)) ggX6_transforms_X6_inverse
set_option maxRecDepth 20000 in
theorem ggX6_transforms_X6_sumFor : GoodIn wsX6_transforms wsX6_sumFor := goodIn_r _ [32, 4, 3, 26, 27, 10, 28, 33, 34, 35, 36, 2, 37, 38, 39, 40, 45, 46, 47, 48, 49, 50, 51, 52] (by decide +kernel) (by decide +kernel)
set_option maxRecDepth 20000 in
theorem gX6_transforms_X6_sumFor : GoodIn wsX6_transforms (wsV RX6 67 RX6 yX6_sumFor wsX6_sumFor) := goodIn_app (goodIn_of _ (by decide +kernel)) ggX6_transforms_X6_sumFor
set_option maxRecDepth 20000 in
theorem ggX6_transforms_X6_put : GoodIn wsX6_transforms wsX6_put := goodIn_r _ [44, 37, 6, 2, 45, 46, 47, 48, 49, 50, 51, 52] (by decide +kernel) (by decide +kernel)
set_option maxRecDepth 20000 in
theorem gX6_transforms_X6_put : GoodIn wsX6_transforms (wsV RX6 71 RX6 yX6_put wsX6_put) := goodIn_app (goodIn_of _ (by decide +kernel)) ggX6_transforms_X6_put
theorem dX6_transforms_0 : decode cX6_transforms 0 = .ok (.aload_n 0, 1) := by decide +kernel
theorem dX6_transforms_1 : decode cX6_transforms 1 = .ok (.iload_n 1, 1) := by decide +kernel
theorem dX6_transforms_2 : decode cX6_transforms 2 = .ok (.invokevirtual 54, 3) := by decide +kernel
theorem dX6_transforms_5 : decode cX6_transforms 5 = .ok (.ifCond .eq 10, 3) := by decide +kernel
theorem dX6_transforms_8 : decode cX6_transforms 8 = .ok (.iload_n 2, 1) := by decide +kernel
theorem dX6_transforms_9 : decode cX6_transforms 9 = .ok (.invokestatic 43, 3) := by decide +kernel
theorem dX6_transforms_12 : decode cX6_transforms 12 = .ok (.ifCond .ne 10, 3) := by decide +kernel
theorem dX6_transforms_15 : decode cX6_transforms 15 = .ok (.aload_n 0, 1) := by decide +kernel
theorem dX6_transforms_16 : decode cX6_transforms 16 = .ok (.iconst 1, 1) := by decide +kernel
theorem dX6_transforms_17 : decode cX6_transforms 17 = .ok (.putfield 28, 3) := by decide +kernel
theorem dX6_transforms_20 : decode cX6_transforms 20 = .ok (.iconst 0, 1) := by decide +kernel
theorem dX6_transforms_21 : decode cX6_transforms 21 = .ok (.ireturn, 1) := by decide +kernel
theorem dX6_transforms_22 : decode cX6_transforms 22 = .ok (.iload_n 3, 1) := by decide +kernel
theorem dX6_transforms_23 : decode cX6_transforms 23 = .ok (.ifCond .lt 25, 3) := by decide +kernel
theorem dX6_transforms_26 : decode cX6_transforms 26 = .ok (.iload_n 3, 1) := by decide +kernel
theorem dX6_transforms_27 : decode cX6_transforms 27 = .ok (.iconst 4, 1) := by decide +kernel
theorem dX6_transforms_28 : decode cX6_transforms 28 = .ok (.if_icmp .gt 20, 3) := by decide +kernel
theorem dX6_transforms_31 : decode cX6_transforms 31 = .ok (.aload_n 0, 1) := by decide +kernel
theorem dX6_transforms_32 : decode cX6_transforms 32 = .ok (.iload_n 1, 1) := by decide +kernel
theorem dX6_transforms_33 : decode cX6_transforms 33 = .ok (.invokevirtual 57, 3) := by decide +kernel
theorem dX6_transforms_36 : decode cX6_transforms 36 = .ok (.iload_n 3, 1) := by decide +kernel
theorem dX6_transforms_37 : decode cX6_transforms 37 = .ok (.ishr, 1) := by decide +kernel
theorem dX6_transforms_38 : decode cX6_transforms 38 = .ok (.iconst 1, 1) := by decide +kernel
theorem dX6_transforms_39 : decode cX6_transforms 39 = .ok (.iand, 1) := by decide +kernel
theorem dX6_transforms_40 : decode cX6_transforms 40 = .ok (.iconst 1, 1) := by decide +kernel
theorem dX6_transforms_41 : decode cX6_transforms 41 = .ok (.if_icmp .ne 7, 3) := by decide +kernel
theorem dX6_transforms_44 : decode cX6_transforms 44 = .ok (.iconst 1, 1) := by decide +kernel
theorem dX6_transforms_45 : decode cX6_transforms 45 = .ok (.goto 4, 3) := by decide +kernel
theorem dX6_transforms_48 : decode cX6_transforms 48 = .ok (.iconst 0, 1) := by decide +kernel
theorem dX6_transforms_49 : decode cX6_transforms 49 = .ok (.istore 5, 2) := by decide +kernel
theorem dX6_transforms_51 : decode cX6_transforms 51 = .ok (.aload_n 0, 1) := by decide +kernel
theorem dX6_transforms_52 : decode cX6_transforms 52 = .ok (.iload 5, 2) := by decide +kernel
theorem dX6_transforms_54 : decode cX6_transforms 54 = .ok (.ifCond .ne 7, 3) := by decide +kernel
theorem dX6_transforms_57 : decode cX6_transforms 57 = .ok (.iconst 2, 1) := by decide +kernel
theorem dX6_transforms_58 : decode cX6_transforms 58 = .ok (.goto 23, 3) := by decide +kernel
theorem dX6_transforms_61 : decode cX6_transforms 61 = .ok (.aload_n 0, 1) := by decide +kernel
theorem dX6_transforms_62 : decode cX6_transforms 62 = .ok (.getfield 13, 3) := by decide +kernel
theorem dX6_transforms_65 : decode cX6_transforms 65 = .ok (.iload_n 2, 1) := by decide +kernel
theorem dX6_transforms_66 : decode cX6_transforms 66 = .ok (.iaload, 1) := by decide +kernel
theorem dX6_transforms_67 : decode cX6_transforms 67 = .ok (.aload_n 0, 1) := by decide +kernel
theorem dX6_transforms_68 : decode cX6_transforms 68 = .ok (.getfield 19, 3) := by decide +kernel
theorem dX6_transforms_71 : decode cX6_transforms 71 = .ok (.iload_n 1, 1) := by decide +kernel
theorem dX6_transforms_72 : decode cX6_transforms 72 = .ok (.iaload, 1) := by decide +kernel
theorem dX6_transforms_73 : decode cX6_transforms 73 = .ok (.if_icmp .le 7, 3) := by decide +kernel
theorem dX6_transforms_76 : decode cX6_transforms 76 = .ok (.iconst 3, 1) := by decide +kernel
theorem dX6_transforms_77 : decode cX6_transforms 77 = .ok (.goto 4, 3) := by decide +kernel
theorem dX6_transforms_80 : decode cX6_transforms 80 = .ok (.iconst 0, 1) := by decide +kernel
theorem dX6_transforms_81 : decode cX6_transforms 81 = .ok (.putfield 28, 3) := by decide +kernel
theorem dX6_transforms_84 : decode cX6_transforms 84 = .ok (.aload_n 0, 1) := by decide +kernel
theorem dX6_transforms_85 : decode cX6_transforms 85 = .ok (.getfield 28, 3) := by decide +kernel
theorem dX6_transforms_88 : decode cX6_transforms 88 = .ok (.ifCond .eq 5, 3) := by decide +kernel
theorem dX6_transforms_91 : decode cX6_transforms 91 = .ok (.iconst 0, 1) := by decide +kernel
theorem dX6_transforms_92 : decode cX6_transforms 92 = .ok (.ireturn, 1) := by decide +kernel
theorem dX6_transforms_93 : decode cX6_transforms 93 = .ok (.aload_n 0, 1) := by decide +kernel
theorem dX6_transforms_94 : decode cX6_transforms 94 = .ok (.getfield 16, 3) := by decide +kernel
theorem dX6_transforms_97 : decode cX6_transforms 97 = .ok (.iload_n 1, 1) := by decide +kernel
theorem dX6_transforms_98 : decode cX6_transforms 98 = .ok (.iaload, 1) := by decide +kernel
theorem dX6_transforms_99 : decode cX6_transforms 99 = .ok (.istore 6, 2) := by decide +kernel
theorem dX6_transforms_101 : decode cX6_transforms 101 = .ok (.iload 4, 2) := by decide +kernel
theorem dX6_transforms_103 : decode cX6_transforms 103 = .ok (.ifCond .eq 17, 3) := by decide +kernel
theorem dX6_transforms_106 : decode cX6_transforms 106 = .ok (.aload_n 0, 1) := by decide +kernel
theorem dX6_transforms_107 : decode cX6_transforms 107 = .ok (.getfield 22, 3) := by decide +kernel
theorem dX6_transforms_110 : decode cX6_transforms 110 = .ok (.iload_n 1, 1) := by decide +kernel
theorem dX6_transforms_111 : decode cX6_transforms 111 = .ok (.iaload, 1) := by decide +kernel
theorem dX6_transforms_112 : decode cX6_transforms 112 = .ok (.iload 6, 2) := by decide +kernel
theorem dX6_transforms_114 : decode cX6_transforms 114 = .ok (.invokestatic 64, 3) := by decide +kernel
theorem dX6_transforms_117 : decode cX6_transforms 117 = .ok (.goto 9, 3) := by decide +kernel
theorem dX6_transforms_120 : decode cX6_transforms 120 = .ok (.aload_n 0, 1) := by decide +kernel
theorem dX6_transforms_121 : decode cX6_transforms 121 = .ok (.getfield 22, 3) := by decide +kernel
theorem dX6_transforms_124 : decode cX6_transforms 124 = .ok (.iload_n 1, 1) := by decide +kernel
theorem dX6_transforms_125 : decode cX6_transforms 125 = .ok (.iaload, 1) := by decide +kernel
theorem dX6_transforms_126 : decode cX6_transforms 126 = .ok (.istore 7, 2) := by decide +kernel
theorem dX6_transforms_128 : decode cX6_transforms 128 = .ok (.iload 4, 2) := by decide +kernel
theorem dX6_transforms_130 : decode cX6_transforms 130 = .ok (.ifCond .eq 17, 3) := by decide +kernel
theorem dX6_transforms_133 : decode cX6_transforms 133 = .ok (.aload_n 0, 1) := by decide +kernel
theorem dX6_transforms_134 : decode cX6_transforms 134 = .ok (.getfield 19, 3) := by decide +kernel
theorem dX6_transforms_137 : decode cX6_transforms 137 = .ok (.iload_n 1, 1) := by decide +kernel
theorem dX6_transforms_138 : decode cX6_transforms 138 = .ok (.iaload, 1) := by decide +kernel
theorem dX6_transforms_139 : decode cX6_transforms 139 = .ok (.iload 6, 2) := by decide +kernel
theorem dX6_transforms_141 : decode cX6_transforms 141 = .ok (.invokestatic 64, 3) := by decide +kernel
theorem dX6_transforms_144 : decode cX6_transforms 144 = .ok (.goto 4, 3) := by decide +kernel
theorem dX6_transforms_147 : decode cX6_transforms 147 = .ok (.iconst 1, 1) := by decide +kernel
theorem dX6_transforms_148 : decode cX6_transforms 148 = .ok (.istore 8, 2) := by decide +kernel
theorem dX6_transforms_150 : decode cX6_transforms 150 = .ok (.iconst 0, 1) := by decide +kernel
theorem dX6_transforms_151 : decode cX6_transforms 151 = .ok (.istore 9, 2) := by decide +kernel
theorem dX6_transforms_153 : decode cX6_transforms 153 = .ok (.iload 9, 2) := by decide +kernel
theorem dX6_transforms_155 : decode cX6_transforms 155 = .ok (.aload_n 0, 1) := by decide +kernel
theorem dX6_transforms_156 : decode cX6_transforms 156 = .ok (.getfield 19, 3) := by decide +kernel
theorem dX6_transforms_159 : decode cX6_transforms 159 = .ok (.iload_n 1, 1) := by decide +kernel
theorem dX6_transforms_160 : decode cX6_transforms 160 = .ok (.iaload, 1) := by decide +kernel
theorem dX6_transforms_161 : decode cX6_transforms 161 = .ok (.if_icmp .ge 32, 3) := by decide +kernel
theorem dX6_transforms_164 : decode cX6_transforms 164 = .ok (.aload_n 0, 1) := by decide +kernel
theorem dX6_transforms_165 : decode cX6_transforms 165 = .ok (.getfield 25, 3) := by decide +kernel
theorem dX6_transforms_168 : decode cX6_transforms 168 = .ok (.iload 9, 2) := by decide +kernel
theorem dX6_transforms_170 : decode cX6_transforms 170 = .ok (.aload_n 0, 1) := by decide +kernel
theorem dX6_transforms_171 : decode cX6_transforms 171 = .ok (.iload_n 1, 1) := by decide +kernel
theorem dX6_transforms_172 : decode cX6_transforms 172 = .ok (.iload_n 2, 1) := by decide +kernel
theorem dX6_transforms_173 : decode cX6_transforms 173 = .ok (.iload 9, 2) := by decide +kernel
theorem dX6_transforms_175 : decode cX6_transforms 175 = .ok (.iload 7, 2) := by decide +kernel
theorem dX6_transforms_177 : decode cX6_transforms 177 = .ok (.invokevirtual 67, 3) := by decide +kernel
theorem dX6_transforms_180 : decode cX6_transforms 180 = .ok (.iload 8, 2) := by decide +kernel
theorem dX6_transforms_182 : decode cX6_transforms 182 = .ok (.imul, 1) := by decide +kernel
theorem dX6_transforms_183 : decode cX6_transforms 183 = .ok (.iload 6, 2) := by decide +kernel
theorem dX6_transforms_185 : decode cX6_transforms 185 = .ok (.irem, 1) := by decide +kernel
theorem dX6_transforms_186 : decode cX6_transforms 186 = .ok (.iastore, 1) := by decide +kernel
theorem dX6_transforms_187 : decode cX6_transforms 187 = .ok (.iinc 9 1, 3) := by decide +kernel
theorem dX6_transforms_190 : decode cX6_transforms 190 = .ok (.goto (-37), 3) := by decide +kernel
theorem dX6_transforms_193 : decode cX6_transforms 193 = .ok (.aload_n 0, 1) := by decide +kernel
theorem dX6_transforms_194 : decode cX6_transforms 194 = .ok (.iload_n 2, 1) := by decide +kernel
theorem dX6_transforms_195 : decode cX6_transforms 195 = .ok (.aload_n 0, 1) := by decide +kernel
theorem dX6_transforms_196 : decode cX6_transforms 196 = .ok (.getfield 19, 3) := by decide +kernel
theorem dX6_transforms_199 : decode cX6_transforms 199 = .ok (.iload_n 1, 1) := by decide +kernel
theorem dX6_transforms_200 : decode cX6_transforms 200 = .ok (.iaload, 1) := by decide +kernel
theorem dX6_transforms_201 : decode cX6_transforms 201 = .ok (.invokevirtual 71, 3) := by decide +kernel
theorem dX6_transforms_204 : decode cX6_transforms 204 = .ok (.istore 9, 2) := by decide +kernel
theorem dX6_transforms_206 : decode cX6_transforms 206 = .ok (.aload_n 0, 1) := by decide +kernel
theorem dX6_transforms_207 : decode cX6_transforms 207 = .ok (.getfield 25, 3) := by decide +kernel
theorem dX6_transforms_210 : decode cX6_transforms 210 = .ok (.iconst 0, 1) := by decide +kernel
theorem dX6_transforms_211 : decode cX6_transforms 211 = .ok (.iaload, 1) := by decide +kernel
theorem dX6_transforms_212 : decode cX6_transforms 212 = .ok (.ireturn, 1) := by decide +kernel
set_option maxRecDepth 20000 in
theorem ggX6_forward_X6_transforms : GoodIn wsX6_forward wsX6_transforms := goodIn_r _ [5, 6, 7, 8, 9, 10, 11, 12, 13, 14, 4, 15, 16, 17, 18, 19, 20, 21, 22, 23, 24, 25, 26, 27, 28, 29, 30, 31, 32, 33, 34, 35, 36, 37, 38, 39, 40, 41, 42, 43, 44, 45, 46, 47, 48, 49, 50, 51, 52, 53, 54, 55, 56] (by decide +kernel) (by decide +kernel)
set_option maxRecDepth 20000 in
theorem gX6_forward_X6_transforms : GoodIn wsX6_forward (wsV RX6 74 RX6 yX6_transforms wsX6_transforms) := goodIn_app (goodIn_of _ (by decide +kernel)) ggX6_forward_X6_transforms
theorem dX6_forward_0 : decode cX6_forward 0 = .ok (.aload_n 0, 1) := by decide +kernel
theorem dX6_forward_1 : decode cX6_forward 1 = .ok (.iload_n 1, 1) := by decide +kernel
theorem dX6_forward_2 : decode cX6_forward 2 = .ok (.iload_n 2, 1) := by decide +kernel
theorem dX6_forward_3 : decode cX6_forward 3 = .ok (.iload_n 3, 1) := by decide +kernel
theorem dX6_forward_4 : decode cX6_forward 4 = .ok (.iconst 0, 1) := by decide +kernel
theorem dX6_forward_5 : decode cX6_forward 5 = .ok (.invokevirtual 74, 3) := by decide +kernel
theorem dX6_forward_8 : decode cX6_forward 8 = .ok (.ireturn, 1) := by decide +kernel
set_option maxRecDepth 20000 in
theorem ggX6_backward_X6_transforms : GoodIn wsX6_backward wsX6_transforms := goodIn_r _ [5, 6, 7, 8, 9, 10, 11, 12, 13, 14, 4, 15, 16, 17, 18, 19, 20, 21, 22, 23, 24, 25, 26, 27, 28, 29, 30, 31, 32, 33, 34, 35, 36, 37, 38, 39, 40, 41, 42, 43, 44, 45, 46, 47, 48, 49, 50, 51, 52, 53, 54, 55, 56] (by decide +kernel) (by decide +kernel)
set_option maxRecDepth 20000 in
theorem gX6_backward_X6_transforms : GoodIn wsX6_backward (wsV RX6 74 RX6 yX6_transforms wsX6_transforms) := goodIn_app (goodIn_of _ (by decide +kernel)) ggX6_backward_X6_transforms
theorem dX6_backward_0 : decode cX6_backward 0 = .ok (.aload_n 0, 1) := by decide +kernel
theorem dX6_backward_1 : decode cX6_backward 1 = .ok (.iload_n 1, 1) := by decide +kernel
theorem dX6_backward_2 : decode cX6_backward 2 = .ok (.iload_n 2, 1) := by decide +kernel
theorem dX6_backward_3 : decode cX6_backward 3 = .ok (.iload_n 3, 1) := by decide +kernel
theorem dX6_backward_4 : decode cX6_backward 4 = .ok (.iconst 1, 1) := by decide +kernel
theorem dX6_backward_5 : decode cX6_backward 5 = .ok (.invokevirtual 74, 3) := by decide +kernel
theorem dX6_backward_8 : decode cX6_backward 8 = .ok (.ireturn, 1) := by decide +kernel
set_option maxRecDepth 20000 in
theorem ggX6_sum_X6_isPlan : GoodIn wsX6_sum wsX6_isPlan := goodIn_r _ [9, 10, 30, 31, 32, 33, 34, 35, 36, 37] (by decide +kernel) (by decide +kernel)
set_option maxRecDepth 20000 in
theorem gX6_sum_X6_isPlan : GoodIn wsX6_sum (wsV RX6 54 RX6 yX6_isPlan wsX6_isPlan) := goodIn_app (goodIn_of _ (by decide +kernel)) ggX6_sum_X6_isPlan
set_option maxRecDepth 20000 in
theorem ggX6_sum_X6_isRow : GoodIn wsX6_sum wsX6_isRow := goodIn_r _ [13] (by decide +kernel) (by decide +kernel)
set_option maxRecDepth 20000 in
theorem gX6_sum_X6_isRow : GoodIn wsX6_sum (va_wsS RX6 43 yX6_isRow wsX6_isRow) := goodIn_app (goodIn_of _ (by decide +kernel)) ggX6_sum_X6_isRow
set_option maxRecDepth 20000 in
theorem ggX6_sum_X6_sumFor : GoodIn wsX6_sum wsX6_sumFor := goodIn_r _ [17, 18, 1, 19, 20, 8, 21, 22, 23, 24, 25, 2, 26, 27, 28, 29, 30, 31, 32, 33, 34, 35, 36, 37] (by decide +kernel) (by decide +kernel)
set_option maxRecDepth 20000 in
theorem gX6_sum_X6_sumFor : GoodIn wsX6_sum (wsV RX6 67 RX6 yX6_sumFor wsX6_sumFor) := goodIn_app (goodIn_of _ (by decide +kernel)) ggX6_sum_X6_sumFor
theorem dX6_sum_0 : decode cX6_sum 0 = .ok (.aload_n 0, 1) := by decide +kernel
theorem dX6_sum_1 : decode cX6_sum 1 = .ok (.aload_n 0, 1) := by decide +kernel
theorem dX6_sum_2 : decode cX6_sum 2 = .ok (.iload_n 1, 1) := by decide +kernel
theorem dX6_sum_3 : decode cX6_sum 3 = .ok (.invokevirtual 54, 3) := by decide +kernel
theorem dX6_sum_6 : decode cX6_sum 6 = .ok (.ifCond .eq 24, 3) := by decide +kernel
theorem dX6_sum_9 : decode cX6_sum 9 = .ok (.iload_n 2, 1) := by decide +kernel
theorem dX6_sum_10 : decode cX6_sum 10 = .ok (.invokestatic 43, 3) := by decide +kernel
theorem dX6_sum_13 : decode cX6_sum 13 = .ok (.ifCond .eq 17, 3) := by decide +kernel
theorem dX6_sum_16 : decode cX6_sum 16 = .ok (.iload_n 3, 1) := by decide +kernel
theorem dX6_sum_17 : decode cX6_sum 17 = .ok (.ifCond .lt 13, 3) := by decide +kernel
theorem dX6_sum_20 : decode cX6_sum 20 = .ok (.iload_n 3, 1) := by decide +kernel
theorem dX6_sum_21 : decode cX6_sum 21 = .ok (.aload_n 0, 1) := by decide +kernel
theorem dX6_sum_22 : decode cX6_sum 22 = .ok (.getfield 19, 3) := by decide +kernel
theorem dX6_sum_25 : decode cX6_sum 25 = .ok (.iload_n 1, 1) := by decide +kernel
theorem dX6_sum_26 : decode cX6_sum 26 = .ok (.iaload, 1) := by decide +kernel
theorem dX6_sum_27 : decode cX6_sum 27 = .ok (.if_icmp .lt 7, 3) := by decide +kernel
theorem dX6_sum_30 : decode cX6_sum 30 = .ok (.iconst 1, 1) := by decide +kernel
theorem dX6_sum_31 : decode cX6_sum 31 = .ok (.goto 23, 3) := by decide +kernel
theorem dX6_sum_34 : decode cX6_sum 34 = .ok (.aload_n 0, 1) := by decide +kernel
theorem dX6_sum_35 : decode cX6_sum 35 = .ok (.getfield 13, 3) := by decide +kernel
theorem dX6_sum_38 : decode cX6_sum 38 = .ok (.iload_n 2, 1) := by decide +kernel
theorem dX6_sum_39 : decode cX6_sum 39 = .ok (.iaload, 1) := by decide +kernel
theorem dX6_sum_40 : decode cX6_sum 40 = .ok (.aload_n 0, 1) := by decide +kernel
theorem dX6_sum_41 : decode cX6_sum 41 = .ok (.getfield 19, 3) := by decide +kernel
theorem dX6_sum_44 : decode cX6_sum 44 = .ok (.iload_n 1, 1) := by decide +kernel
theorem dX6_sum_45 : decode cX6_sum 45 = .ok (.iaload, 1) := by decide +kernel
theorem dX6_sum_46 : decode cX6_sum 46 = .ok (.if_icmp .le 7, 3) := by decide +kernel
theorem dX6_sum_49 : decode cX6_sum 49 = .ok (.iconst 2, 1) := by decide +kernel
theorem dX6_sum_50 : decode cX6_sum 50 = .ok (.goto 4, 3) := by decide +kernel
theorem dX6_sum_53 : decode cX6_sum 53 = .ok (.iconst 0, 1) := by decide +kernel
theorem dX6_sum_54 : decode cX6_sum 54 = .ok (.putfield 28, 3) := by decide +kernel
theorem dX6_sum_57 : decode cX6_sum 57 = .ok (.aload_n 0, 1) := by decide +kernel
theorem dX6_sum_58 : decode cX6_sum 58 = .ok (.getfield 28, 3) := by decide +kernel
theorem dX6_sum_61 : decode cX6_sum 61 = .ok (.ifCond .ne 19, 3) := by decide +kernel
theorem dX6_sum_64 : decode cX6_sum 64 = .ok (.aload_n 0, 1) := by decide +kernel
theorem dX6_sum_65 : decode cX6_sum 65 = .ok (.iload_n 1, 1) := by decide +kernel
theorem dX6_sum_66 : decode cX6_sum 66 = .ok (.iload_n 2, 1) := by decide +kernel
theorem dX6_sum_67 : decode cX6_sum 67 = .ok (.iload_n 3, 1) := by decide +kernel
theorem dX6_sum_68 : decode cX6_sum 68 = .ok (.aload_n 0, 1) := by decide +kernel
theorem dX6_sum_69 : decode cX6_sum 69 = .ok (.getfield 22, 3) := by decide +kernel
theorem dX6_sum_72 : decode cX6_sum 72 = .ok (.iload_n 1, 1) := by decide +kernel
theorem dX6_sum_73 : decode cX6_sum 73 = .ok (.iaload, 1) := by decide +kernel
theorem dX6_sum_74 : decode cX6_sum 74 = .ok (.invokevirtual 67, 3) := by decide +kernel
theorem dX6_sum_77 : decode cX6_sum 77 = .ok (.goto 4, 3) := by decide +kernel
theorem dX6_sum_80 : decode cX6_sum 80 = .ok (.iconst 0, 1) := by decide +kernel
theorem dX6_sum_81 : decode cX6_sum 81 = .ok (.ireturn, 1) := by decide +kernel
set_option maxRecDepth 20000 in
theorem ggX6_roundAt_X6_restAt : GoodIn wsX6_roundAt wsX6_restAt := goodIn_r _ [7, 8, 9, 10, 11, 6, 12, 13, 14, 15, 16, 17, 18, 19, 20] (by decide +kernel) (by decide +kernel)
set_option maxRecDepth 20000 in
theorem gX6_roundAt_X6_restAt : GoodIn wsX6_roundAt (wsV RX6 61 RX6 yX6_restAt wsX6_restAt) := goodIn_app (goodIn_of _ (by decide +kernel)) ggX6_roundAt_X6_restAt
theorem dX6_roundAt_0 : decode cX6_roundAt 0 = .ok (.aload_n 0, 1) := by decide +kernel
theorem dX6_roundAt_1 : decode cX6_roundAt 1 = .ok (.getfield 16, 3) := by decide +kernel
theorem dX6_roundAt_4 : decode cX6_roundAt 4 = .ok (.iload_n 1, 1) := by decide +kernel
theorem dX6_roundAt_5 : decode cX6_roundAt 5 = .ok (.iaload, 1) := by decide +kernel
theorem dX6_roundAt_6 : decode cX6_roundAt 6 = .ok (.istore 5, 2) := by decide +kernel
theorem dX6_roundAt_8 : decode cX6_roundAt 8 = .ok (.aload_n 0, 1) := by decide +kernel
theorem dX6_roundAt_9 : decode cX6_roundAt 9 = .ok (.getfield 19, 3) := by decide +kernel
theorem dX6_roundAt_12 : decode cX6_roundAt 12 = .ok (.iload_n 1, 1) := by decide +kernel
theorem dX6_roundAt_13 : decode cX6_roundAt 13 = .ok (.iaload, 1) := by decide +kernel
theorem dX6_roundAt_14 : decode cX6_roundAt 14 = .ok (.istore 6, 2) := by decide +kernel
theorem dX6_roundAt_16 : decode cX6_roundAt 16 = .ok (.iconst 0, 1) := by decide +kernel
theorem dX6_roundAt_17 : decode cX6_roundAt 17 = .ok (.istore 7, 2) := by decide +kernel
theorem dX6_roundAt_19 : decode cX6_roundAt 19 = .ok (.iconst 0, 1) := by decide +kernel
theorem dX6_roundAt_20 : decode cX6_roundAt 20 = .ok (.istore 8, 2) := by decide +kernel
theorem dX6_roundAt_22 : decode cX6_roundAt 22 = .ok (.iload 8, 2) := by decide +kernel
theorem dX6_roundAt_24 : decode cX6_roundAt 24 = .ok (.iload 6, 2) := by decide +kernel
theorem dX6_roundAt_26 : decode cX6_roundAt 26 = .ok (.if_icmp .ge 45, 3) := by decide +kernel
theorem dX6_roundAt_29 : decode cX6_roundAt 29 = .ok (.iload 7, 2) := by decide +kernel
theorem dX6_roundAt_31 : decode cX6_roundAt 31 = .ok (.aload_n 0, 1) := by decide +kernel
theorem dX6_roundAt_32 : decode cX6_roundAt 32 = .ok (.iload_n 2, 1) := by decide +kernel
theorem dX6_roundAt_33 : decode cX6_roundAt 33 = .ok (.iload 8, 2) := by decide +kernel
theorem dX6_roundAt_35 : decode cX6_roundAt 35 = .ok (.iload 5, 2) := by decide +kernel
theorem dX6_roundAt_37 : decode cX6_roundAt 37 = .ok (.invokevirtual 61, 3) := by decide +kernel
theorem dX6_roundAt_40 : decode cX6_roundAt 40 = .ok (.aload_n 0, 1) := by decide +kernel
theorem dX6_roundAt_41 : decode cX6_roundAt 41 = .ok (.iload_n 3, 1) := by decide +kernel
theorem dX6_roundAt_42 : decode cX6_roundAt 42 = .ok (.iload 4, 2) := by decide +kernel
theorem dX6_roundAt_44 : decode cX6_roundAt 44 = .ok (.iload 8, 2) := by decide +kernel
theorem dX6_roundAt_46 : decode cX6_roundAt 46 = .ok (.isub, 1) := by decide +kernel
theorem dX6_roundAt_47 : decode cX6_roundAt 47 = .ok (.iload 6, 2) := by decide +kernel
theorem dX6_roundAt_49 : decode cX6_roundAt 49 = .ok (.iadd, 1) := by decide +kernel
theorem dX6_roundAt_50 : decode cX6_roundAt 50 = .ok (.iload 6, 2) := by decide +kernel
theorem dX6_roundAt_52 : decode cX6_roundAt 52 = .ok (.irem, 1) := by decide +kernel
theorem dX6_roundAt_53 : decode cX6_roundAt 53 = .ok (.iload 5, 2) := by decide +kernel
theorem dX6_roundAt_55 : decode cX6_roundAt 55 = .ok (.invokevirtual 61, 3) := by decide +kernel
theorem dX6_roundAt_58 : decode cX6_roundAt 58 = .ok (.imul, 1) := by decide +kernel
theorem dX6_roundAt_59 : decode cX6_roundAt 59 = .ok (.iadd, 1) := by decide +kernel
theorem dX6_roundAt_60 : decode cX6_roundAt 60 = .ok (.iload 5, 2) := by decide +kernel
theorem dX6_roundAt_62 : decode cX6_roundAt 62 = .ok (.irem, 1) := by decide +kernel
theorem dX6_roundAt_63 : decode cX6_roundAt 63 = .ok (.istore 7, 2) := by decide +kernel
theorem dX6_roundAt_65 : decode cX6_roundAt 65 = .ok (.iinc 8 1, 3) := by decide +kernel
theorem dX6_roundAt_68 : decode cX6_roundAt 68 = .ok (.goto (-46), 3) := by decide +kernel
theorem dX6_roundAt_71 : decode cX6_roundAt 71 = .ok (.iload 7, 2) := by decide +kernel
theorem dX6_roundAt_73 : decode cX6_roundAt 73 = .ok (.ireturn, 1) := by decide +kernel
set_option maxRecDepth 20000 in
theorem ggX6_areRight_X6_isPlan : GoodIn wsX6_areRight wsX6_isPlan := goodIn_r _ [8, 9, 13, 14, 15, 16, 17, 18, 19, 20] (by decide +kernel) (by decide +kernel)
set_option maxRecDepth 20000 in
theorem gX6_areRight_X6_isPlan : GoodIn wsX6_areRight (wsV RX6 54 RX6 yX6_isPlan wsX6_isPlan) := goodIn_app (goodIn_of _ (by decide +kernel)) ggX6_areRight_X6_isPlan
set_option maxRecDepth 20000 in
theorem ggX6_areRight_X6_isRow : GoodIn wsX6_areRight wsX6_isRow := goodIn_r _ [12] (by decide +kernel) (by decide +kernel)
set_option maxRecDepth 20000 in
theorem gX6_areRight_X6_isRow : GoodIn wsX6_areRight (va_wsS RX6 43 yX6_isRow wsX6_isRow) := goodIn_app (goodIn_of _ (by decide +kernel)) ggX6_areRight_X6_isRow
theorem dX6_areRight_0 : decode cX6_areRight 0 = .ok (.aload_n 0, 1) := by decide +kernel
theorem dX6_areRight_1 : decode cX6_areRight 1 = .ok (.iload_n 1, 1) := by decide +kernel
theorem dX6_areRight_2 : decode cX6_areRight 2 = .ok (.invokevirtual 54, 3) := by decide +kernel
theorem dX6_areRight_5 : decode cX6_areRight 5 = .ok (.ifCond .eq 26, 3) := by decide +kernel
theorem dX6_areRight_8 : decode cX6_areRight 8 = .ok (.iload_n 2, 1) := by decide +kernel
theorem dX6_areRight_9 : decode cX6_areRight 9 = .ok (.invokestatic 43, 3) := by decide +kernel
theorem dX6_areRight_12 : decode cX6_areRight 12 = .ok (.ifCond .eq 19, 3) := by decide +kernel
theorem dX6_areRight_15 : decode cX6_areRight 15 = .ok (.iload_n 3, 1) := by decide +kernel
theorem dX6_areRight_16 : decode cX6_areRight 16 = .ok (.invokestatic 43, 3) := by decide +kernel
theorem dX6_areRight_19 : decode cX6_areRight 19 = .ok (.ifCond .eq 12, 3) := by decide +kernel
theorem dX6_areRight_22 : decode cX6_areRight 22 = .ok (.iload 4, 2) := by decide +kernel
theorem dX6_areRight_24 : decode cX6_areRight 24 = .ok (.ifCond .lt 7, 3) := by decide +kernel
theorem dX6_areRight_27 : decode cX6_areRight 27 = .ok (.iconst 1, 1) := by decide +kernel
theorem dX6_areRight_28 : decode cX6_areRight 28 = .ok (.goto 4, 3) := by decide +kernel
theorem dX6_areRight_31 : decode cX6_areRight 31 = .ok (.iconst 0, 1) := by decide +kernel
theorem dX6_areRight_32 : decode cX6_areRight 32 = .ok (.istore 5, 2) := by decide +kernel
theorem dX6_areRight_34 : decode cX6_areRight 34 = .ok (.aload_n 0, 1) := by decide +kernel
theorem dX6_areRight_35 : decode cX6_areRight 35 = .ok (.iload 5, 2) := by decide +kernel
theorem dX6_areRight_37 : decode cX6_areRight 37 = .ok (.ifCond .ne 7, 3) := by decide +kernel
theorem dX6_areRight_40 : decode cX6_areRight 40 = .ok (.iconst 1, 1) := by decide +kernel
theorem dX6_areRight_41 : decode cX6_areRight 41 = .ok (.goto 38, 3) := by decide +kernel
theorem dX6_areRight_44 : decode cX6_areRight 44 = .ok (.aload_n 0, 1) := by decide +kernel
theorem dX6_areRight_45 : decode cX6_areRight 45 = .ok (.getfield 13, 3) := by decide +kernel
theorem dX6_areRight_48 : decode cX6_areRight 48 = .ok (.iload_n 2, 1) := by decide +kernel
theorem dX6_areRight_49 : decode cX6_areRight 49 = .ok (.iaload, 1) := by decide +kernel
theorem dX6_areRight_50 : decode cX6_areRight 50 = .ok (.aload_n 0, 1) := by decide +kernel
theorem dX6_areRight_51 : decode cX6_areRight 51 = .ok (.getfield 19, 3) := by decide +kernel
theorem dX6_areRight_54 : decode cX6_areRight 54 = .ok (.iload_n 1, 1) := by decide +kernel
theorem dX6_areRight_55 : decode cX6_areRight 55 = .ok (.iaload, 1) := by decide +kernel
theorem dX6_areRight_56 : decode cX6_areRight 56 = .ok (.if_icmp .gt 18, 3) := by decide +kernel
theorem dX6_areRight_59 : decode cX6_areRight 59 = .ok (.aload_n 0, 1) := by decide +kernel
theorem dX6_areRight_60 : decode cX6_areRight 60 = .ok (.getfield 13, 3) := by decide +kernel
theorem dX6_areRight_63 : decode cX6_areRight 63 = .ok (.iload_n 3, 1) := by decide +kernel
theorem dX6_areRight_64 : decode cX6_areRight 64 = .ok (.iaload, 1) := by decide +kernel
theorem dX6_areRight_65 : decode cX6_areRight 65 = .ok (.aload_n 0, 1) := by decide +kernel
theorem dX6_areRight_66 : decode cX6_areRight 66 = .ok (.getfield 19, 3) := by decide +kernel
theorem dX6_areRight_69 : decode cX6_areRight 69 = .ok (.iload_n 1, 1) := by decide +kernel
theorem dX6_areRight_70 : decode cX6_areRight 70 = .ok (.iaload, 1) := by decide +kernel
theorem dX6_areRight_71 : decode cX6_areRight 71 = .ok (.if_icmp .le 7, 3) := by decide +kernel
theorem dX6_areRight_74 : decode cX6_areRight 74 = .ok (.iconst 2, 1) := by decide +kernel
theorem dX6_areRight_75 : decode cX6_areRight 75 = .ok (.goto 4, 3) := by decide +kernel
theorem dX6_areRight_78 : decode cX6_areRight 78 = .ok (.iconst 0, 1) := by decide +kernel
theorem dX6_areRight_79 : decode cX6_areRight 79 = .ok (.putfield 28, 3) := by decide +kernel
theorem dX6_areRight_82 : decode cX6_areRight 82 = .ok (.aload_n 0, 1) := by decide +kernel
theorem dX6_areRight_83 : decode cX6_areRight 83 = .ok (.getfield 28, 3) := by decide +kernel
theorem dX6_areRight_86 : decode cX6_areRight 86 = .ok (.ifCond .ne 7, 3) := by decide +kernel
theorem dX6_areRight_89 : decode cX6_areRight 89 = .ok (.iconst 1, 1) := by decide +kernel
theorem dX6_areRight_90 : decode cX6_areRight 90 = .ok (.goto 4, 3) := by decide +kernel
theorem dX6_areRight_93 : decode cX6_areRight 93 = .ok (.iconst 0, 1) := by decide +kernel
theorem dX6_areRight_94 : decode cX6_areRight 94 = .ok (.ireturn, 1) := by decide +kernel
set_option maxRecDepth 20000 in
theorem ggX6_convolve_X6_isRow : GoodIn wsX6_convolve wsX6_isRow := goodIn_r _ [6] (by decide +kernel) (by decide +kernel)
set_option maxRecDepth 20000 in
theorem gX6_convolve_X6_isRow : GoodIn wsX6_convolve (va_wsS RX6 43 yX6_isRow wsX6_isRow) := goodIn_app (goodIn_of _ (by decide +kernel)) ggX6_convolve_X6_isRow
set_option maxRecDepth 20000 in
theorem ggX6_convolve_X6_areRight : GoodIn wsX6_convolve wsX6_areRight := goodIn_r _ [10, 11, 1, 12, 13, 14, 15, 5, 16, 17, 3, 4, 6, 35, 36, 37, 38, 39, 40, 41, 42] (by decide +kernel) (by decide +kernel)
set_option maxRecDepth 20000 in
theorem gX6_convolve_X6_areRight : GoodIn wsX6_convolve (wsV RX6 78 RX6 yX6_areRight wsX6_areRight) := goodIn_app (goodIn_of _ (by decide +kernel)) ggX6_convolve_X6_areRight
set_option maxRecDepth 20000 in
theorem ggX6_convolve_X6_roundAt : GoodIn wsX6_convolve wsX6_roundAt := goodIn_r _ [21, 22, 1, 23, 24, 25, 5, 26, 11, 27, 28, 29, 30, 35, 36, 37, 38, 39, 40, 41, 42] (by decide +kernel) (by decide +kernel)
set_option maxRecDepth 20000 in
theorem gX6_convolve_X6_roundAt : GoodIn wsX6_convolve (wsV RX6 82 RX6 yX6_roundAt wsX6_roundAt) := goodIn_app (goodIn_of _ (by decide +kernel)) ggX6_convolve_X6_roundAt
set_option maxRecDepth 20000 in
theorem ggX6_convolve_X6_put : GoodIn wsX6_convolve wsX6_put := goodIn_r _ [34, 27, 2, 11, 35, 36, 37, 38, 39, 40, 41, 42] (by decide +kernel) (by decide +kernel)
set_option maxRecDepth 20000 in
theorem gX6_convolve_X6_put : GoodIn wsX6_convolve (wsV RX6 71 RX6 yX6_put wsX6_put) := goodIn_app (goodIn_of _ (by decide +kernel)) ggX6_convolve_X6_put
theorem dX6_convolve_0 : decode cX6_convolve 0 = .ok (.aload_n 0, 1) := by decide +kernel
theorem dX6_convolve_1 : decode cX6_convolve 1 = .ok (.iload_n 1, 1) := by decide +kernel
theorem dX6_convolve_2 : decode cX6_convolve 2 = .ok (.iload_n 2, 1) := by decide +kernel
theorem dX6_convolve_3 : decode cX6_convolve 3 = .ok (.iload_n 3, 1) := by decide +kernel
theorem dX6_convolve_4 : decode cX6_convolve 4 = .ok (.iload 4, 2) := by decide +kernel
theorem dX6_convolve_6 : decode cX6_convolve 6 = .ok (.invokestatic 43, 3) := by decide +kernel
theorem dX6_convolve_9 : decode cX6_convolve 9 = .ok (.ifCond .eq 7, 3) := by decide +kernel
theorem dX6_convolve_12 : decode cX6_convolve 12 = .ok (.iconst 0, 1) := by decide +kernel
theorem dX6_convolve_13 : decode cX6_convolve 13 = .ok (.goto 4, 3) := by decide +kernel
theorem dX6_convolve_16 : decode cX6_convolve 16 = .ok (.iconst (-1), 1) := by decide +kernel
theorem dX6_convolve_17 : decode cX6_convolve 17 = .ok (.invokevirtual 78, 3) := by decide +kernel
theorem dX6_convolve_20 : decode cX6_convolve 20 = .ok (.ifCond .ne 5, 3) := by decide +kernel
theorem dX6_convolve_23 : decode cX6_convolve 23 = .ok (.iconst 0, 1) := by decide +kernel
theorem dX6_convolve_24 : decode cX6_convolve 24 = .ok (.ireturn, 1) := by decide +kernel
theorem dX6_convolve_25 : decode cX6_convolve 25 = .ok (.iconst 0, 1) := by decide +kernel
theorem dX6_convolve_26 : decode cX6_convolve 26 = .ok (.istore 5, 2) := by decide +kernel
theorem dX6_convolve_28 : decode cX6_convolve 28 = .ok (.iload 5, 2) := by decide +kernel
theorem dX6_convolve_30 : decode cX6_convolve 30 = .ok (.aload_n 0, 1) := by decide +kernel
theorem dX6_convolve_31 : decode cX6_convolve 31 = .ok (.getfield 19, 3) := by decide +kernel
theorem dX6_convolve_34 : decode cX6_convolve 34 = .ok (.iload_n 1, 1) := by decide +kernel
theorem dX6_convolve_35 : decode cX6_convolve 35 = .ok (.iaload, 1) := by decide +kernel
theorem dX6_convolve_36 : decode cX6_convolve 36 = .ok (.if_icmp .ge 25, 3) := by decide +kernel
theorem dX6_convolve_39 : decode cX6_convolve 39 = .ok (.aload_n 0, 1) := by decide +kernel
theorem dX6_convolve_40 : decode cX6_convolve 40 = .ok (.getfield 25, 3) := by decide +kernel
theorem dX6_convolve_43 : decode cX6_convolve 43 = .ok (.iload 5, 2) := by decide +kernel
theorem dX6_convolve_45 : decode cX6_convolve 45 = .ok (.aload_n 0, 1) := by decide +kernel
theorem dX6_convolve_46 : decode cX6_convolve 46 = .ok (.iload_n 1, 1) := by decide +kernel
theorem dX6_convolve_47 : decode cX6_convolve 47 = .ok (.iload_n 2, 1) := by decide +kernel
theorem dX6_convolve_48 : decode cX6_convolve 48 = .ok (.iload_n 3, 1) := by decide +kernel
theorem dX6_convolve_49 : decode cX6_convolve 49 = .ok (.iload 5, 2) := by decide +kernel
theorem dX6_convolve_51 : decode cX6_convolve 51 = .ok (.invokevirtual 82, 3) := by decide +kernel
theorem dX6_convolve_54 : decode cX6_convolve 54 = .ok (.iastore, 1) := by decide +kernel
theorem dX6_convolve_55 : decode cX6_convolve 55 = .ok (.iinc 5 1, 3) := by decide +kernel
theorem dX6_convolve_58 : decode cX6_convolve 58 = .ok (.goto (-30), 3) := by decide +kernel
theorem dX6_convolve_61 : decode cX6_convolve 61 = .ok (.aload_n 0, 1) := by decide +kernel
theorem dX6_convolve_62 : decode cX6_convolve 62 = .ok (.iload 4, 2) := by decide +kernel
theorem dX6_convolve_64 : decode cX6_convolve 64 = .ok (.aload_n 0, 1) := by decide +kernel
theorem dX6_convolve_65 : decode cX6_convolve 65 = .ok (.getfield 19, 3) := by decide +kernel
theorem dX6_convolve_68 : decode cX6_convolve 68 = .ok (.iload_n 1, 1) := by decide +kernel
theorem dX6_convolve_69 : decode cX6_convolve 69 = .ok (.iaload, 1) := by decide +kernel
theorem dX6_convolve_70 : decode cX6_convolve 70 = .ok (.invokevirtual 71, 3) := by decide +kernel
theorem dX6_convolve_73 : decode cX6_convolve 73 = .ok (.ireturn, 1) := by decide +kernel
set_option maxRecDepth 20000 in
theorem ggX6_convolved_X6_isPlan : GoodIn wsX6_convolved wsX6_isPlan := goodIn_r _ [6, 7, 30, 31, 32, 33, 34, 35, 36, 37] (by decide +kernel) (by decide +kernel)
set_option maxRecDepth 20000 in
theorem gX6_convolved_X6_isPlan : GoodIn wsX6_convolved (wsV RX6 54 RX6 yX6_isPlan wsX6_isPlan) := goodIn_app (goodIn_of _ (by decide +kernel)) ggX6_convolved_X6_isPlan
set_option maxRecDepth 20000 in
theorem ggX6_convolved_X6_areRight : GoodIn wsX6_convolved wsX6_areRight := goodIn_r _ [11, 12, 1, 13, 2, 3, 4, 5, 6, 7, 14, 15, 16, 30, 31, 32, 33, 34, 35, 36, 37] (by decide +kernel) (by decide +kernel)
set_option maxRecDepth 20000 in
theorem gX6_convolved_X6_areRight : GoodIn wsX6_convolved (wsV RX6 78 RX6 yX6_areRight wsX6_areRight) := goodIn_app (goodIn_of _ (by decide +kernel)) ggX6_convolved_X6_areRight
set_option maxRecDepth 20000 in
theorem ggX6_convolved_X6_roundAt : GoodIn wsX6_convolved wsX6_roundAt := goodIn_r _ [20, 21, 1, 22, 23, 24, 5, 25, 12, 26, 27, 28, 29, 30, 31, 32, 33, 34, 35, 36, 37] (by decide +kernel) (by decide +kernel)
set_option maxRecDepth 20000 in
theorem gX6_convolved_X6_roundAt : GoodIn wsX6_convolved (wsV RX6 82 RX6 yX6_roundAt wsX6_roundAt) := goodIn_app (goodIn_of _ (by decide +kernel)) ggX6_convolved_X6_roundAt
theorem dX6_convolved_0 : decode cX6_convolved 0 = .ok (.aload_n 0, 1) := by decide +kernel
theorem dX6_convolved_1 : decode cX6_convolved 1 = .ok (.iload_n 1, 1) := by decide +kernel
theorem dX6_convolved_2 : decode cX6_convolved 2 = .ok (.invokevirtual 54, 3) := by decide +kernel
theorem dX6_convolved_5 : decode cX6_convolved 5 = .ok (.ifCond .eq 23, 3) := by decide +kernel
theorem dX6_convolved_8 : decode cX6_convolved 8 = .ok (.iload 4, 2) := by decide +kernel
theorem dX6_convolved_10 : decode cX6_convolved 10 = .ok (.ifCond .lt 18, 3) := by decide +kernel
theorem dX6_convolved_13 : decode cX6_convolved 13 = .ok (.iload 4, 2) := by decide +kernel
theorem dX6_convolved_15 : decode cX6_convolved 15 = .ok (.aload_n 0, 1) := by decide +kernel
theorem dX6_convolved_16 : decode cX6_convolved 16 = .ok (.getfield 19, 3) := by decide +kernel
theorem dX6_convolved_19 : decode cX6_convolved 19 = .ok (.iload_n 1, 1) := by decide +kernel
theorem dX6_convolved_20 : decode cX6_convolved 20 = .ok (.iaload, 1) := by decide +kernel
theorem dX6_convolved_21 : decode cX6_convolved 21 = .ok (.if_icmp .ge 7, 3) := by decide +kernel
theorem dX6_convolved_24 : decode cX6_convolved 24 = .ok (.iconst 1, 1) := by decide +kernel
theorem dX6_convolved_25 : decode cX6_convolved 25 = .ok (.goto 4, 3) := by decide +kernel
theorem dX6_convolved_28 : decode cX6_convolved 28 = .ok (.iconst 0, 1) := by decide +kernel
theorem dX6_convolved_29 : decode cX6_convolved 29 = .ok (.istore 5, 2) := by decide +kernel
theorem dX6_convolved_31 : decode cX6_convolved 31 = .ok (.aload_n 0, 1) := by decide +kernel
theorem dX6_convolved_32 : decode cX6_convolved 32 = .ok (.iload_n 1, 1) := by decide +kernel
theorem dX6_convolved_33 : decode cX6_convolved 33 = .ok (.iload_n 2, 1) := by decide +kernel
theorem dX6_convolved_34 : decode cX6_convolved 34 = .ok (.iload_n 3, 1) := by decide +kernel
theorem dX6_convolved_35 : decode cX6_convolved 35 = .ok (.iload 5, 2) := by decide +kernel
theorem dX6_convolved_37 : decode cX6_convolved 37 = .ok (.ifCond .eq 7, 3) := by decide +kernel
theorem dX6_convolved_40 : decode cX6_convolved 40 = .ok (.iconst 0, 1) := by decide +kernel
theorem dX6_convolved_41 : decode cX6_convolved 41 = .ok (.goto 4, 3) := by decide +kernel
theorem dX6_convolved_44 : decode cX6_convolved 44 = .ok (.iconst (-1), 1) := by decide +kernel
theorem dX6_convolved_45 : decode cX6_convolved 45 = .ok (.invokevirtual 78, 3) := by decide +kernel
theorem dX6_convolved_48 : decode cX6_convolved 48 = .ok (.ifCond .eq 15, 3) := by decide +kernel
theorem dX6_convolved_51 : decode cX6_convolved 51 = .ok (.aload_n 0, 1) := by decide +kernel
theorem dX6_convolved_52 : decode cX6_convolved 52 = .ok (.iload_n 1, 1) := by decide +kernel
theorem dX6_convolved_53 : decode cX6_convolved 53 = .ok (.iload_n 2, 1) := by decide +kernel
theorem dX6_convolved_54 : decode cX6_convolved 54 = .ok (.iload_n 3, 1) := by decide +kernel
theorem dX6_convolved_55 : decode cX6_convolved 55 = .ok (.iload 4, 2) := by decide +kernel
theorem dX6_convolved_57 : decode cX6_convolved 57 = .ok (.invokevirtual 82, 3) := by decide +kernel
theorem dX6_convolved_60 : decode cX6_convolved 60 = .ok (.goto 4, 3) := by decide +kernel
theorem dX6_convolved_63 : decode cX6_convolved 63 = .ok (.iconst 0, 1) := by decide +kernel
theorem dX6_convolved_64 : decode cX6_convolved 64 = .ok (.ireturn, 1) := by decide +kernel
theorem dX6_isWithin_0 : decode cX6_isWithin 0 = .ok (.iconst 1, 1) := by decide +kernel
theorem dX6_isWithin_1 : decode cX6_isWithin 1 = .ok (.istore 4, 2) := by decide +kernel
theorem dX6_isWithin_3 : decode cX6_isWithin 3 = .ok (.iconst 0, 1) := by decide +kernel
theorem dX6_isWithin_4 : decode cX6_isWithin 4 = .ok (.istore 5, 2) := by decide +kernel
theorem dX6_isWithin_6 : decode cX6_isWithin 6 = .ok (.iload 5, 2) := by decide +kernel
theorem dX6_isWithin_8 : decode cX6_isWithin 8 = .ok (.aload_n 0, 1) := by decide +kernel
theorem dX6_isWithin_9 : decode cX6_isWithin 9 = .ok (.getfield 13, 3) := by decide +kernel
theorem dX6_isWithin_12 : decode cX6_isWithin 12 = .ok (.iload_n 1, 1) := by decide +kernel
theorem dX6_isWithin_13 : decode cX6_isWithin 13 = .ok (.iaload, 1) := by decide +kernel
theorem dX6_isWithin_14 : decode cX6_isWithin 14 = .ok (.if_icmp .ge 53, 3) := by decide +kernel
theorem dX6_isWithin_17 : decode cX6_isWithin 17 = .ok (.iload 4, 2) := by decide +kernel
theorem dX6_isWithin_19 : decode cX6_isWithin 19 = .ok (.ifCond .eq 39, 3) := by decide +kernel
theorem dX6_isWithin_22 : decode cX6_isWithin 22 = .ok (.aload_n 0, 1) := by decide +kernel
theorem dX6_isWithin_23 : decode cX6_isWithin 23 = .ok (.getfield 7, 3) := by decide +kernel
theorem dX6_isWithin_26 : decode cX6_isWithin 26 = .ok (.bipush 64, 2) := by decide +kernel
theorem dX6_isWithin_28 : decode cX6_isWithin 28 = .ok (.iload_n 1, 1) := by decide +kernel
theorem dX6_isWithin_29 : decode cX6_isWithin 29 = .ok (.imul, 1) := by decide +kernel
theorem dX6_isWithin_30 : decode cX6_isWithin 30 = .ok (.iload 5, 2) := by decide +kernel
theorem dX6_isWithin_32 : decode cX6_isWithin 32 = .ok (.iadd, 1) := by decide +kernel
theorem dX6_isWithin_33 : decode cX6_isWithin 33 = .ok (.iaload, 1) := by decide +kernel
theorem dX6_isWithin_34 : decode cX6_isWithin 34 = .ok (.iload_n 2, 1) := by decide +kernel
theorem dX6_isWithin_35 : decode cX6_isWithin 35 = .ok (.if_icmp .lt 23, 3) := by decide +kernel
theorem dX6_isWithin_38 : decode cX6_isWithin 38 = .ok (.aload_n 0, 1) := by decide +kernel
theorem dX6_isWithin_39 : decode cX6_isWithin 39 = .ok (.getfield 7, 3) := by decide +kernel
theorem dX6_isWithin_42 : decode cX6_isWithin 42 = .ok (.bipush 64, 2) := by decide +kernel
theorem dX6_isWithin_44 : decode cX6_isWithin 44 = .ok (.iload_n 1, 1) := by decide +kernel
theorem dX6_isWithin_45 : decode cX6_isWithin 45 = .ok (.imul, 1) := by decide +kernel
theorem dX6_isWithin_46 : decode cX6_isWithin 46 = .ok (.iload 5, 2) := by decide +kernel
theorem dX6_isWithin_48 : decode cX6_isWithin 48 = .ok (.iadd, 1) := by decide +kernel
theorem dX6_isWithin_49 : decode cX6_isWithin 49 = .ok (.iaload, 1) := by decide +kernel
theorem dX6_isWithin_50 : decode cX6_isWithin 50 = .ok (.iload_n 3, 1) := by decide +kernel
theorem dX6_isWithin_51 : decode cX6_isWithin 51 = .ok (.if_icmp .gt 7, 3) := by decide +kernel
theorem dX6_isWithin_54 : decode cX6_isWithin 54 = .ok (.iconst 1, 1) := by decide +kernel
theorem dX6_isWithin_55 : decode cX6_isWithin 55 = .ok (.goto 4, 3) := by decide +kernel
theorem dX6_isWithin_58 : decode cX6_isWithin 58 = .ok (.iconst 0, 1) := by decide +kernel
theorem dX6_isWithin_59 : decode cX6_isWithin 59 = .ok (.istore 4, 2) := by decide +kernel
theorem dX6_isWithin_61 : decode cX6_isWithin 61 = .ok (.iinc 5 1, 3) := by decide +kernel
theorem dX6_isWithin_64 : decode cX6_isWithin 64 = .ok (.goto (-58), 3) := by decide +kernel
theorem dX6_isWithin_67 : decode cX6_isWithin 67 = .ok (.iload 4, 2) := by decide +kernel
theorem dX6_isWithin_69 : decode cX6_isWithin 69 = .ok (.ireturn, 1) := by decide +kernel
theorem dX6_lineAt_0 : decode cX6_lineAt 0 = .ok (.iconst 0, 1) := by decide +kernel
theorem dX6_lineAt_1 : decode cX6_lineAt 1 = .ok (.istore 4, 2) := by decide +kernel
theorem dX6_lineAt_3 : decode cX6_lineAt 3 = .ok (.iconst 0, 1) := by decide +kernel
theorem dX6_lineAt_4 : decode cX6_lineAt 4 = .ok (.istore 5, 2) := by decide +kernel
theorem dX6_lineAt_6 : decode cX6_lineAt 6 = .ok (.iload 5, 2) := by decide +kernel
theorem dX6_lineAt_8 : decode cX6_lineAt 8 = .ok (.aload_n 0, 1) := by decide +kernel
theorem dX6_lineAt_9 : decode cX6_lineAt 9 = .ok (.getfield 13, 3) := by decide +kernel
theorem dX6_lineAt_12 : decode cX6_lineAt 12 = .ok (.iload_n 1, 1) := by decide +kernel
theorem dX6_lineAt_13 : decode cX6_lineAt 13 = .ok (.iaload, 1) := by decide +kernel
theorem dX6_lineAt_14 : decode cX6_lineAt 14 = .ok (.if_icmp .ge 65, 3) := by decide +kernel
theorem dX6_lineAt_17 : decode cX6_lineAt 17 = .ok (.iload_n 3, 1) := by decide +kernel
theorem dX6_lineAt_18 : decode cX6_lineAt 18 = .ok (.iload 5, 2) := by decide +kernel
theorem dX6_lineAt_20 : decode cX6_lineAt 20 = .ok (.isub, 1) := by decide +kernel
theorem dX6_lineAt_21 : decode cX6_lineAt 21 = .ok (.istore 6, 2) := by decide +kernel
theorem dX6_lineAt_23 : decode cX6_lineAt 23 = .ok (.iload 4, 2) := by decide +kernel
theorem dX6_lineAt_25 : decode cX6_lineAt 25 = .ok (.iload 6, 2) := by decide +kernel
theorem dX6_lineAt_27 : decode cX6_lineAt 27 = .ok (.ifCond .lt 42, 3) := by decide +kernel
theorem dX6_lineAt_30 : decode cX6_lineAt 30 = .ok (.iload 6, 2) := by decide +kernel
theorem dX6_lineAt_32 : decode cX6_lineAt 32 = .ok (.aload_n 0, 1) := by decide +kernel
theorem dX6_lineAt_33 : decode cX6_lineAt 33 = .ok (.getfield 13, 3) := by decide +kernel
theorem dX6_lineAt_36 : decode cX6_lineAt 36 = .ok (.iload_n 2, 1) := by decide +kernel
theorem dX6_lineAt_37 : decode cX6_lineAt 37 = .ok (.iaload, 1) := by decide +kernel
theorem dX6_lineAt_38 : decode cX6_lineAt 38 = .ok (.if_icmp .ge 31, 3) := by decide +kernel
theorem dX6_lineAt_41 : decode cX6_lineAt 41 = .ok (.aload_n 0, 1) := by decide +kernel
theorem dX6_lineAt_42 : decode cX6_lineAt 42 = .ok (.getfield 7, 3) := by decide +kernel
theorem dX6_lineAt_45 : decode cX6_lineAt 45 = .ok (.bipush 64, 2) := by decide +kernel
theorem dX6_lineAt_47 : decode cX6_lineAt 47 = .ok (.iload_n 1, 1) := by decide +kernel
theorem dX6_lineAt_48 : decode cX6_lineAt 48 = .ok (.imul, 1) := by decide +kernel
theorem dX6_lineAt_49 : decode cX6_lineAt 49 = .ok (.iload 5, 2) := by decide +kernel
theorem dX6_lineAt_51 : decode cX6_lineAt 51 = .ok (.iadd, 1) := by decide +kernel
theorem dX6_lineAt_52 : decode cX6_lineAt 52 = .ok (.iaload, 1) := by decide +kernel
theorem dX6_lineAt_53 : decode cX6_lineAt 53 = .ok (.aload_n 0, 1) := by decide +kernel
theorem dX6_lineAt_54 : decode cX6_lineAt 54 = .ok (.getfield 7, 3) := by decide +kernel
theorem dX6_lineAt_57 : decode cX6_lineAt 57 = .ok (.bipush 64, 2) := by decide +kernel
theorem dX6_lineAt_59 : decode cX6_lineAt 59 = .ok (.iload_n 2, 1) := by decide +kernel
theorem dX6_lineAt_60 : decode cX6_lineAt 60 = .ok (.imul, 1) := by decide +kernel
theorem dX6_lineAt_61 : decode cX6_lineAt 61 = .ok (.iload 6, 2) := by decide +kernel
theorem dX6_lineAt_63 : decode cX6_lineAt 63 = .ok (.iadd, 1) := by decide +kernel
theorem dX6_lineAt_64 : decode cX6_lineAt 64 = .ok (.iaload, 1) := by decide +kernel
theorem dX6_lineAt_65 : decode cX6_lineAt 65 = .ok (.imul, 1) := by decide +kernel
theorem dX6_lineAt_66 : decode cX6_lineAt 66 = .ok (.goto 4, 3) := by decide +kernel
theorem dX6_lineAt_69 : decode cX6_lineAt 69 = .ok (.iconst 0, 1) := by decide +kernel
theorem dX6_lineAt_70 : decode cX6_lineAt 70 = .ok (.iadd, 1) := by decide +kernel
theorem dX6_lineAt_71 : decode cX6_lineAt 71 = .ok (.istore 4, 2) := by decide +kernel
theorem dX6_lineAt_73 : decode cX6_lineAt 73 = .ok (.iinc 5 1, 3) := by decide +kernel
theorem dX6_lineAt_76 : decode cX6_lineAt 76 = .ok (.goto (-70), 3) := by decide +kernel
theorem dX6_lineAt_79 : decode cX6_lineAt 79 = .ok (.iload 4, 2) := by decide +kernel
theorem dX6_lineAt_81 : decode cX6_lineAt 81 = .ok (.ireturn, 1) := by decide +kernel
set_option maxRecDepth 20000 in
theorem ggX6_filter_X6_isRow : GoodIn wsX6_filter wsX6_isRow := goodIn_r _ [7] (by decide +kernel) (by decide +kernel)
set_option maxRecDepth 20000 in
theorem gX6_filter_X6_isRow : GoodIn wsX6_filter (va_wsS RX6 43 yX6_isRow wsX6_isRow) := goodIn_app (goodIn_of _ (by decide +kernel)) ggX6_filter_X6_isRow
set_option maxRecDepth 20000 in
theorem ggX6_filter_X6_isWithin : GoodIn wsX6_filter wsX6_isWithin := goodIn_r _ [11, 2, 12, 21, 22, 23, 24, 25, 26, 27, 28] (by decide +kernel) (by decide +kernel)
set_option maxRecDepth 20000 in
theorem gX6_filter_X6_isWithin : GoodIn wsX6_filter (wsV RX6 85 RX6 yX6_isWithin wsX6_isWithin) := goodIn_app (goodIn_of _ (by decide +kernel)) ggX6_filter_X6_isWithin
set_option maxRecDepth 20000 in
theorem ggX6_filter_X6_lineAt : GoodIn wsX6_filter wsX6_lineAt := goodIn_r _ [16, 2, 12, 21, 22, 23, 24, 25, 26, 27, 28] (by decide +kernel) (by decide +kernel)
set_option maxRecDepth 20000 in
theorem gX6_filter_X6_lineAt : GoodIn wsX6_filter (wsV RX6 89 RX6 yX6_lineAt wsX6_lineAt) := goodIn_app (goodIn_of _ (by decide +kernel)) ggX6_filter_X6_lineAt
set_option maxRecDepth 20000 in
theorem ggX6_filter_X6_put : GoodIn wsX6_filter wsX6_put := goodIn_r _ [20, 12, 3, 2, 21, 22, 23, 24, 25, 26, 27, 28] (by decide +kernel) (by decide +kernel)
set_option maxRecDepth 20000 in
theorem gX6_filter_X6_put : GoodIn wsX6_filter (wsV RX6 71 RX6 yX6_put wsX6_put) := goodIn_app (goodIn_of _ (by decide +kernel)) ggX6_filter_X6_put
theorem dX6_filter_0 : decode cX6_filter 0 = .ok (.iload_n 1, 1) := by decide +kernel
theorem dX6_filter_1 : decode cX6_filter 1 = .ok (.invokestatic 43, 3) := by decide +kernel
theorem dX6_filter_4 : decode cX6_filter 4 = .ok (.ifCond .eq 17, 3) := by decide +kernel
theorem dX6_filter_7 : decode cX6_filter 7 = .ok (.iload_n 2, 1) := by decide +kernel
theorem dX6_filter_8 : decode cX6_filter 8 = .ok (.invokestatic 43, 3) := by decide +kernel
theorem dX6_filter_11 : decode cX6_filter 11 = .ok (.ifCond .eq 10, 3) := by decide +kernel
theorem dX6_filter_14 : decode cX6_filter 14 = .ok (.iload_n 3, 1) := by decide +kernel
theorem dX6_filter_15 : decode cX6_filter 15 = .ok (.invokestatic 43, 3) := by decide +kernel
theorem dX6_filter_18 : decode cX6_filter 18 = .ok (.ifCond .ne 10, 3) := by decide +kernel
theorem dX6_filter_21 : decode cX6_filter 21 = .ok (.aload_n 0, 1) := by decide +kernel
theorem dX6_filter_22 : decode cX6_filter 22 = .ok (.iconst 1, 1) := by decide +kernel
theorem dX6_filter_23 : decode cX6_filter 23 = .ok (.putfield 28, 3) := by decide +kernel
theorem dX6_filter_26 : decode cX6_filter 26 = .ok (.iconst 0, 1) := by decide +kernel
theorem dX6_filter_27 : decode cX6_filter 27 = .ok (.ireturn, 1) := by decide +kernel
theorem dX6_filter_28 : decode cX6_filter 28 = .ok (.aload_n 0, 1) := by decide +kernel
theorem dX6_filter_29 : decode cX6_filter 29 = .ok (.iload_n 1, 1) := by decide +kernel
theorem dX6_filter_30 : decode cX6_filter 30 = .ok (.bipush (-99), 2) := by decide +kernel
theorem dX6_filter_32 : decode cX6_filter 32 = .ok (.bipush 99, 2) := by decide +kernel
theorem dX6_filter_34 : decode cX6_filter 34 = .ok (.invokevirtual 85, 3) := by decide +kernel
theorem dX6_filter_37 : decode cX6_filter 37 = .ok (.ifCond .eq 19, 3) := by decide +kernel
theorem dX6_filter_40 : decode cX6_filter 40 = .ok (.aload_n 0, 1) := by decide +kernel
theorem dX6_filter_41 : decode cX6_filter 41 = .ok (.iload_n 2, 1) := by decide +kernel
theorem dX6_filter_42 : decode cX6_filter 42 = .ok (.bipush (-99), 2) := by decide +kernel
theorem dX6_filter_44 : decode cX6_filter 44 = .ok (.bipush 99, 2) := by decide +kernel
theorem dX6_filter_46 : decode cX6_filter 46 = .ok (.invokevirtual 85, 3) := by decide +kernel
theorem dX6_filter_49 : decode cX6_filter 49 = .ok (.ifCond .eq 7, 3) := by decide +kernel
theorem dX6_filter_52 : decode cX6_filter 52 = .ok (.iconst 1, 1) := by decide +kernel
theorem dX6_filter_53 : decode cX6_filter 53 = .ok (.goto 4, 3) := by decide +kernel
theorem dX6_filter_56 : decode cX6_filter 56 = .ok (.iconst 0, 1) := by decide +kernel
theorem dX6_filter_57 : decode cX6_filter 57 = .ok (.istore 6, 2) := by decide +kernel
theorem dX6_filter_59 : decode cX6_filter 59 = .ok (.aload_n 0, 1) := by decide +kernel
theorem dX6_filter_60 : decode cX6_filter 60 = .ok (.getfield 13, 3) := by decide +kernel
theorem dX6_filter_63 : decode cX6_filter 63 = .ok (.iload_n 1, 1) := by decide +kernel
theorem dX6_filter_64 : decode cX6_filter 64 = .ok (.iaload, 1) := by decide +kernel
theorem dX6_filter_65 : decode cX6_filter 65 = .ok (.aload_n 0, 1) := by decide +kernel
theorem dX6_filter_66 : decode cX6_filter 66 = .ok (.getfield 13, 3) := by decide +kernel
theorem dX6_filter_69 : decode cX6_filter 69 = .ok (.iload_n 2, 1) := by decide +kernel
theorem dX6_filter_70 : decode cX6_filter 70 = .ok (.iaload, 1) := by decide +kernel
theorem dX6_filter_71 : decode cX6_filter 71 = .ok (.iadd, 1) := by decide +kernel
theorem dX6_filter_72 : decode cX6_filter 72 = .ok (.iconst 1, 1) := by decide +kernel
theorem dX6_filter_73 : decode cX6_filter 73 = .ok (.isub, 1) := by decide +kernel
theorem dX6_filter_74 : decode cX6_filter 74 = .ok (.istore 7, 2) := by decide +kernel
theorem dX6_filter_76 : decode cX6_filter 76 = .ok (.aload_n 0, 1) := by decide +kernel
theorem dX6_filter_77 : decode cX6_filter 77 = .ok (.iload 4, 2) := by decide +kernel
theorem dX6_filter_79 : decode cX6_filter 79 = .ok (.iconst 1, 1) := by decide +kernel
theorem dX6_filter_80 : decode cX6_filter 80 = .ok (.if_icmp .lt 15, 3) := by decide +kernel
theorem dX6_filter_83 : decode cX6_filter 83 = .ok (.iload 4, 2) := by decide +kernel
theorem dX6_filter_85 : decode cX6_filter 85 = .ok (.bipush 32, 2) := by decide +kernel
theorem dX6_filter_87 : decode cX6_filter 87 = .ok (.if_icmp .gt 8, 3) := by decide +kernel
theorem dX6_filter_90 : decode cX6_filter 90 = .ok (.iload 6, 2) := by decide +kernel
theorem dX6_filter_92 : decode cX6_filter 92 = .ok (.ifCond .ne 7, 3) := by decide +kernel
theorem dX6_filter_95 : decode cX6_filter 95 = .ok (.iconst 2, 1) := by decide +kernel
theorem dX6_filter_96 : decode cX6_filter 96 = .ok (.goto 33, 3) := by decide +kernel
theorem dX6_filter_99 : decode cX6_filter 99 = .ok (.aload_n 0, 1) := by decide +kernel
theorem dX6_filter_100 : decode cX6_filter 100 = .ok (.getfield 13, 3) := by decide +kernel
theorem dX6_filter_103 : decode cX6_filter 103 = .ok (.iload_n 1, 1) := by decide +kernel
theorem dX6_filter_104 : decode cX6_filter 104 = .ok (.iaload, 1) := by decide +kernel
theorem dX6_filter_105 : decode cX6_filter 105 = .ok (.ifCond .eq 19, 3) := by decide +kernel
theorem dX6_filter_108 : decode cX6_filter 108 = .ok (.aload_n 0, 1) := by decide +kernel
theorem dX6_filter_109 : decode cX6_filter 109 = .ok (.getfield 13, 3) := by decide +kernel
theorem dX6_filter_112 : decode cX6_filter 112 = .ok (.iload_n 2, 1) := by decide +kernel
theorem dX6_filter_113 : decode cX6_filter 113 = .ok (.iaload, 1) := by decide +kernel
theorem dX6_filter_114 : decode cX6_filter 114 = .ok (.ifCond .eq 10, 3) := by decide +kernel
theorem dX6_filter_117 : decode cX6_filter 117 = .ok (.iload 7, 2) := by decide +kernel
theorem dX6_filter_119 : decode cX6_filter 119 = .ok (.bipush 64, 2) := by decide +kernel
theorem dX6_filter_121 : decode cX6_filter 121 = .ok (.if_icmp .le 7, 3) := by decide +kernel
theorem dX6_filter_124 : decode cX6_filter 124 = .ok (.iconst 3, 1) := by decide +kernel
theorem dX6_filter_125 : decode cX6_filter 125 = .ok (.goto 4, 3) := by decide +kernel
theorem dX6_filter_128 : decode cX6_filter 128 = .ok (.iconst 0, 1) := by decide +kernel
theorem dX6_filter_129 : decode cX6_filter 129 = .ok (.putfield 28, 3) := by decide +kernel
theorem dX6_filter_132 : decode cX6_filter 132 = .ok (.aload_n 0, 1) := by decide +kernel
theorem dX6_filter_133 : decode cX6_filter 133 = .ok (.getfield 28, 3) := by decide +kernel
theorem dX6_filter_136 : decode cX6_filter 136 = .ok (.ifCond .eq 5, 3) := by decide +kernel
theorem dX6_filter_139 : decode cX6_filter 139 = .ok (.iconst 0, 1) := by decide +kernel
theorem dX6_filter_140 : decode cX6_filter 140 = .ok (.ireturn, 1) := by decide +kernel
theorem dX6_filter_141 : decode cX6_filter 141 = .ok (.iconst 0, 1) := by decide +kernel
theorem dX6_filter_142 : decode cX6_filter 142 = .ok (.istore 8, 2) := by decide +kernel
theorem dX6_filter_144 : decode cX6_filter 144 = .ok (.iload 8, 2) := by decide +kernel
theorem dX6_filter_146 : decode cX6_filter 146 = .ok (.iload 7, 2) := by decide +kernel
theorem dX6_filter_148 : decode cX6_filter 148 = .ok (.if_icmp .ge 24, 3) := by decide +kernel
theorem dX6_filter_151 : decode cX6_filter 151 = .ok (.aload_n 0, 1) := by decide +kernel
theorem dX6_filter_152 : decode cX6_filter 152 = .ok (.getfield 25, 3) := by decide +kernel
theorem dX6_filter_155 : decode cX6_filter 155 = .ok (.iload 8, 2) := by decide +kernel
theorem dX6_filter_157 : decode cX6_filter 157 = .ok (.aload_n 0, 1) := by decide +kernel
theorem dX6_filter_158 : decode cX6_filter 158 = .ok (.iload_n 1, 1) := by decide +kernel
theorem dX6_filter_159 : decode cX6_filter 159 = .ok (.iload_n 2, 1) := by decide +kernel
theorem dX6_filter_160 : decode cX6_filter 160 = .ok (.iload 8, 2) := by decide +kernel
theorem dX6_filter_162 : decode cX6_filter 162 = .ok (.invokevirtual 89, 3) := by decide +kernel
theorem dX6_filter_165 : decode cX6_filter 165 = .ok (.iastore, 1) := by decide +kernel
theorem dX6_filter_166 : decode cX6_filter 166 = .ok (.iinc 8 1, 3) := by decide +kernel
theorem dX6_filter_169 : decode cX6_filter 169 = .ok (.goto (-25), 3) := by decide +kernel
theorem dX6_filter_172 : decode cX6_filter 172 = .ok (.aload_n 0, 1) := by decide +kernel
theorem dX6_filter_173 : decode cX6_filter 173 = .ok (.iload_n 3, 1) := by decide +kernel
theorem dX6_filter_174 : decode cX6_filter 174 = .ok (.iload 7, 2) := by decide +kernel
theorem dX6_filter_176 : decode cX6_filter 176 = .ok (.invokevirtual 71, 3) := by decide +kernel
theorem dX6_filter_179 : decode cX6_filter 179 = .ok (.ireturn, 1) := by decide +kernel
set_option maxRecDepth 20000 in
theorem ggX6_multiply_X6_isRow : GoodIn wsX6_multiply wsX6_isRow := goodIn_r _ [7] (by decide +kernel) (by decide +kernel)
set_option maxRecDepth 20000 in
theorem gX6_multiply_X6_isRow : GoodIn wsX6_multiply (va_wsS RX6 43 yX6_isRow wsX6_isRow) := goodIn_app (goodIn_of _ (by decide +kernel)) ggX6_multiply_X6_isRow
set_option maxRecDepth 20000 in
theorem ggX6_multiply_X6_isWithin : GoodIn wsX6_multiply wsX6_isWithin := goodIn_r _ [11, 2, 12, 21, 22, 23, 24, 25, 26, 27, 28] (by decide +kernel) (by decide +kernel)
set_option maxRecDepth 20000 in
theorem gX6_multiply_X6_isWithin : GoodIn wsX6_multiply (wsV RX6 85 RX6 yX6_isWithin wsX6_isWithin) := goodIn_app (goodIn_of _ (by decide +kernel)) ggX6_multiply_X6_isWithin
set_option maxRecDepth 20000 in
theorem ggX6_multiply_X6_lineAt : GoodIn wsX6_multiply wsX6_lineAt := goodIn_r _ [16, 2, 12, 21, 22, 23, 24, 25, 26, 27, 28] (by decide +kernel) (by decide +kernel)
set_option maxRecDepth 20000 in
theorem gX6_multiply_X6_lineAt : GoodIn wsX6_multiply (wsV RX6 89 RX6 yX6_lineAt wsX6_lineAt) := goodIn_app (goodIn_of _ (by decide +kernel)) ggX6_multiply_X6_lineAt
set_option maxRecDepth 20000 in
theorem ggX6_multiply_X6_put : GoodIn wsX6_multiply wsX6_put := goodIn_r _ [20, 12, 3, 2, 21, 22, 23, 24, 25, 26, 27, 28] (by decide +kernel) (by decide +kernel)
set_option maxRecDepth 20000 in
theorem gX6_multiply_X6_put : GoodIn wsX6_multiply (wsV RX6 71 RX6 yX6_put wsX6_put) := goodIn_app (goodIn_of _ (by decide +kernel)) ggX6_multiply_X6_put
theorem dX6_multiply_0 : decode cX6_multiply 0 = .ok (.iload_n 1, 1) := by decide +kernel
theorem dX6_multiply_1 : decode cX6_multiply 1 = .ok (.invokestatic 43, 3) := by decide +kernel
theorem dX6_multiply_4 : decode cX6_multiply 4 = .ok (.ifCond .eq 17, 3) := by decide +kernel
theorem dX6_multiply_7 : decode cX6_multiply 7 = .ok (.iload_n 2, 1) := by decide +kernel
theorem dX6_multiply_8 : decode cX6_multiply 8 = .ok (.invokestatic 43, 3) := by decide +kernel
theorem dX6_multiply_11 : decode cX6_multiply 11 = .ok (.ifCond .eq 10, 3) := by decide +kernel
theorem dX6_multiply_14 : decode cX6_multiply 14 = .ok (.iload_n 3, 1) := by decide +kernel
theorem dX6_multiply_15 : decode cX6_multiply 15 = .ok (.invokestatic 43, 3) := by decide +kernel
theorem dX6_multiply_18 : decode cX6_multiply 18 = .ok (.ifCond .ne 10, 3) := by decide +kernel
theorem dX6_multiply_21 : decode cX6_multiply 21 = .ok (.aload_n 0, 1) := by decide +kernel
theorem dX6_multiply_22 : decode cX6_multiply 22 = .ok (.iconst 1, 1) := by decide +kernel
theorem dX6_multiply_23 : decode cX6_multiply 23 = .ok (.putfield 28, 3) := by decide +kernel
theorem dX6_multiply_26 : decode cX6_multiply 26 = .ok (.iconst 0, 1) := by decide +kernel
theorem dX6_multiply_27 : decode cX6_multiply 27 = .ok (.ireturn, 1) := by decide +kernel
theorem dX6_multiply_28 : decode cX6_multiply 28 = .ok (.aload_n 0, 1) := by decide +kernel
theorem dX6_multiply_29 : decode cX6_multiply 29 = .ok (.getfield 13, 3) := by decide +kernel
theorem dX6_multiply_32 : decode cX6_multiply 32 = .ok (.iload_n 1, 1) := by decide +kernel
theorem dX6_multiply_33 : decode cX6_multiply 33 = .ok (.iaload, 1) := by decide +kernel
theorem dX6_multiply_34 : decode cX6_multiply 34 = .ok (.aload_n 0, 1) := by decide +kernel
theorem dX6_multiply_35 : decode cX6_multiply 35 = .ok (.getfield 13, 3) := by decide +kernel
theorem dX6_multiply_38 : decode cX6_multiply 38 = .ok (.iload_n 2, 1) := by decide +kernel
theorem dX6_multiply_39 : decode cX6_multiply 39 = .ok (.iaload, 1) := by decide +kernel
theorem dX6_multiply_40 : decode cX6_multiply 40 = .ok (.iadd, 1) := by decide +kernel
theorem dX6_multiply_41 : decode cX6_multiply 41 = .ok (.istore 4, 2) := by decide +kernel
theorem dX6_multiply_43 : decode cX6_multiply 43 = .ok (.aload_n 0, 1) := by decide +kernel
theorem dX6_multiply_44 : decode cX6_multiply 44 = .ok (.aload_n 0, 1) := by decide +kernel
theorem dX6_multiply_45 : decode cX6_multiply 45 = .ok (.iload_n 1, 1) := by decide +kernel
theorem dX6_multiply_46 : decode cX6_multiply 46 = .ok (.iconst 0, 1) := by decide +kernel
theorem dX6_multiply_47 : decode cX6_multiply 47 = .ok (.bipush 9, 2) := by decide +kernel
theorem dX6_multiply_49 : decode cX6_multiply 49 = .ok (.invokevirtual 85, 3) := by decide +kernel
theorem dX6_multiply_52 : decode cX6_multiply 52 = .ok (.ifCond .eq 14, 3) := by decide +kernel
theorem dX6_multiply_55 : decode cX6_multiply 55 = .ok (.aload_n 0, 1) := by decide +kernel
theorem dX6_multiply_56 : decode cX6_multiply 56 = .ok (.iload_n 2, 1) := by decide +kernel
theorem dX6_multiply_57 : decode cX6_multiply 57 = .ok (.iconst 0, 1) := by decide +kernel
theorem dX6_multiply_58 : decode cX6_multiply 58 = .ok (.bipush 9, 2) := by decide +kernel
theorem dX6_multiply_60 : decode cX6_multiply 60 = .ok (.invokevirtual 85, 3) := by decide +kernel
theorem dX6_multiply_63 : decode cX6_multiply 63 = .ok (.ifCond .ne 7, 3) := by decide +kernel
theorem dX6_multiply_66 : decode cX6_multiply 66 = .ok (.iconst 2, 1) := by decide +kernel
theorem dX6_multiply_67 : decode cX6_multiply 67 = .ok (.goto 33, 3) := by decide +kernel
theorem dX6_multiply_70 : decode cX6_multiply 70 = .ok (.aload_n 0, 1) := by decide +kernel
theorem dX6_multiply_71 : decode cX6_multiply 71 = .ok (.getfield 13, 3) := by decide +kernel
theorem dX6_multiply_74 : decode cX6_multiply 74 = .ok (.iload_n 1, 1) := by decide +kernel
theorem dX6_multiply_75 : decode cX6_multiply 75 = .ok (.iaload, 1) := by decide +kernel
theorem dX6_multiply_76 : decode cX6_multiply 76 = .ok (.ifCond .eq 19, 3) := by decide +kernel
theorem dX6_multiply_79 : decode cX6_multiply 79 = .ok (.aload_n 0, 1) := by decide +kernel
theorem dX6_multiply_80 : decode cX6_multiply 80 = .ok (.getfield 13, 3) := by decide +kernel
theorem dX6_multiply_83 : decode cX6_multiply 83 = .ok (.iload_n 2, 1) := by decide +kernel
theorem dX6_multiply_84 : decode cX6_multiply 84 = .ok (.iaload, 1) := by decide +kernel
theorem dX6_multiply_85 : decode cX6_multiply 85 = .ok (.ifCond .eq 10, 3) := by decide +kernel
theorem dX6_multiply_88 : decode cX6_multiply 88 = .ok (.iload 4, 2) := by decide +kernel
theorem dX6_multiply_90 : decode cX6_multiply 90 = .ok (.bipush 64, 2) := by decide +kernel
theorem dX6_multiply_92 : decode cX6_multiply 92 = .ok (.if_icmp .le 7, 3) := by decide +kernel
theorem dX6_multiply_95 : decode cX6_multiply 95 = .ok (.iconst 3, 1) := by decide +kernel
theorem dX6_multiply_96 : decode cX6_multiply 96 = .ok (.goto 4, 3) := by decide +kernel
theorem dX6_multiply_99 : decode cX6_multiply 99 = .ok (.iconst 0, 1) := by decide +kernel
theorem dX6_multiply_100 : decode cX6_multiply 100 = .ok (.putfield 28, 3) := by decide +kernel
theorem dX6_multiply_103 : decode cX6_multiply 103 = .ok (.aload_n 0, 1) := by decide +kernel
theorem dX6_multiply_104 : decode cX6_multiply 104 = .ok (.getfield 28, 3) := by decide +kernel
theorem dX6_multiply_107 : decode cX6_multiply 107 = .ok (.ifCond .eq 5, 3) := by decide +kernel
theorem dX6_multiply_110 : decode cX6_multiply 110 = .ok (.iconst 0, 1) := by decide +kernel
theorem dX6_multiply_111 : decode cX6_multiply 111 = .ok (.ireturn, 1) := by decide +kernel
theorem dX6_multiply_112 : decode cX6_multiply 112 = .ok (.iconst 0, 1) := by decide +kernel
theorem dX6_multiply_113 : decode cX6_multiply 113 = .ok (.istore 5, 2) := by decide +kernel
theorem dX6_multiply_115 : decode cX6_multiply 115 = .ok (.iconst 0, 1) := by decide +kernel
theorem dX6_multiply_116 : decode cX6_multiply 116 = .ok (.istore 6, 2) := by decide +kernel
theorem dX6_multiply_118 : decode cX6_multiply 118 = .ok (.iload 6, 2) := by decide +kernel
theorem dX6_multiply_120 : decode cX6_multiply 120 = .ok (.iload 4, 2) := by decide +kernel
theorem dX6_multiply_122 : decode cX6_multiply 122 = .ok (.if_icmp .ge 41, 3) := by decide +kernel
theorem dX6_multiply_125 : decode cX6_multiply 125 = .ok (.iload 5, 2) := by decide +kernel
theorem dX6_multiply_127 : decode cX6_multiply 127 = .ok (.aload_n 0, 1) := by decide +kernel
theorem dX6_multiply_128 : decode cX6_multiply 128 = .ok (.iload_n 1, 1) := by decide +kernel
theorem dX6_multiply_129 : decode cX6_multiply 129 = .ok (.iload_n 2, 1) := by decide +kernel
theorem dX6_multiply_130 : decode cX6_multiply 130 = .ok (.iload 6, 2) := by decide +kernel
theorem dX6_multiply_132 : decode cX6_multiply 132 = .ok (.invokevirtual 89, 3) := by decide +kernel
theorem dX6_multiply_135 : decode cX6_multiply 135 = .ok (.iadd, 1) := by decide +kernel
theorem dX6_multiply_136 : decode cX6_multiply 136 = .ok (.istore 5, 2) := by decide +kernel
theorem dX6_multiply_138 : decode cX6_multiply 138 = .ok (.aload_n 0, 1) := by decide +kernel
theorem dX6_multiply_139 : decode cX6_multiply 139 = .ok (.getfield 25, 3) := by decide +kernel
theorem dX6_multiply_142 : decode cX6_multiply 142 = .ok (.iload 6, 2) := by decide +kernel
theorem dX6_multiply_144 : decode cX6_multiply 144 = .ok (.iload 5, 2) := by decide +kernel
theorem dX6_multiply_146 : decode cX6_multiply 146 = .ok (.bipush 10, 2) := by decide +kernel
theorem dX6_multiply_148 : decode cX6_multiply 148 = .ok (.irem, 1) := by decide +kernel
theorem dX6_multiply_149 : decode cX6_multiply 149 = .ok (.iastore, 1) := by decide +kernel
theorem dX6_multiply_150 : decode cX6_multiply 150 = .ok (.iload 5, 2) := by decide +kernel
theorem dX6_multiply_152 : decode cX6_multiply 152 = .ok (.bipush 10, 2) := by decide +kernel
theorem dX6_multiply_154 : decode cX6_multiply 154 = .ok (.idiv, 1) := by decide +kernel
theorem dX6_multiply_155 : decode cX6_multiply 155 = .ok (.istore 5, 2) := by decide +kernel
theorem dX6_multiply_157 : decode cX6_multiply 157 = .ok (.iinc 6 1, 3) := by decide +kernel
theorem dX6_multiply_160 : decode cX6_multiply 160 = .ok (.goto (-42), 3) := by decide +kernel
theorem dX6_multiply_163 : decode cX6_multiply 163 = .ok (.iload 4, 2) := by decide +kernel
theorem dX6_multiply_165 : decode cX6_multiply 165 = .ok (.iconst 1, 1) := by decide +kernel
theorem dX6_multiply_166 : decode cX6_multiply 166 = .ok (.if_icmp .le 21, 3) := by decide +kernel
theorem dX6_multiply_169 : decode cX6_multiply 169 = .ok (.aload_n 0, 1) := by decide +kernel
theorem dX6_multiply_170 : decode cX6_multiply 170 = .ok (.getfield 25, 3) := by decide +kernel
theorem dX6_multiply_173 : decode cX6_multiply 173 = .ok (.iload 4, 2) := by decide +kernel
theorem dX6_multiply_175 : decode cX6_multiply 175 = .ok (.iconst 1, 1) := by decide +kernel
theorem dX6_multiply_176 : decode cX6_multiply 176 = .ok (.isub, 1) := by decide +kernel
theorem dX6_multiply_177 : decode cX6_multiply 177 = .ok (.iaload, 1) := by decide +kernel
theorem dX6_multiply_178 : decode cX6_multiply 178 = .ok (.ifCond .ne 9, 3) := by decide +kernel
theorem dX6_multiply_181 : decode cX6_multiply 181 = .ok (.iinc 4 (-1), 3) := by decide +kernel
theorem dX6_multiply_184 : decode cX6_multiply 184 = .ok (.goto (-21), 3) := by decide +kernel
theorem dX6_multiply_187 : decode cX6_multiply 187 = .ok (.aload_n 0, 1) := by decide +kernel
theorem dX6_multiply_188 : decode cX6_multiply 188 = .ok (.iload_n 3, 1) := by decide +kernel
theorem dX6_multiply_189 : decode cX6_multiply 189 = .ok (.iload 4, 2) := by decide +kernel
theorem dX6_multiply_191 : decode cX6_multiply 191 = .ok (.invokevirtual 71, 3) := by decide +kernel
theorem dX6_multiply_194 : decode cX6_multiply 194 = .ok (.ireturn, 1) := by decide +kernel
theorem dJ9_max_7cf53_0 : decode cJ9_max_7cf53 0 = .ok (.iload_n 0, 1) := by decide +kernel
theorem dJ9_max_7cf53_1 : decode cJ9_max_7cf53 1 = .ok (.iload_n 1, 1) := by decide +kernel
theorem dJ9_max_7cf53_2 : decode cJ9_max_7cf53 2 = .ok (.if_icmp .lt 7, 3) := by decide +kernel
theorem dJ9_max_7cf53_5 : decode cJ9_max_7cf53 5 = .ok (.iload_n 0, 1) := by decide +kernel
theorem dJ9_max_7cf53_6 : decode cJ9_max_7cf53 6 = .ok (.goto 4, 3) := by decide +kernel
theorem dJ9_max_7cf53_9 : decode cJ9_max_7cf53 9 = .ok (.iload_n 1, 1) := by decide +kernel
theorem dJ9_max_7cf53_10 : decode cJ9_max_7cf53 10 = .ok (.ireturn, 1) := by decide +kernel
theorem dJ9_min_7cf53_0 : decode cJ9_min_7cf53 0 = .ok (.iload_n 0, 1) := by decide +kernel
theorem dJ9_min_7cf53_1 : decode cJ9_min_7cf53 1 = .ok (.iload_n 1, 1) := by decide +kernel
theorem dJ9_min_7cf53_2 : decode cJ9_min_7cf53 2 = .ok (.if_icmp .gt 7, 3) := by decide +kernel
theorem dJ9_min_7cf53_5 : decode cJ9_min_7cf53 5 = .ok (.iload_n 0, 1) := by decide +kernel
theorem dJ9_min_7cf53_6 : decode cJ9_min_7cf53 6 = .ok (.goto 4, 3) := by decide +kernel
theorem dJ9_min_7cf53_9 : decode cJ9_min_7cf53 9 = .ok (.iload_n 1, 1) := by decide +kernel
theorem dJ9_min_7cf53_10 : decode cJ9_min_7cf53 10 = .ok (.ireturn, 1) := by decide +kernel
theorem dJ7_fill_53178_0 : decode cJ7_fill_53178 0 = .ok (.iconst 0, 1) := by decide +kernel
theorem dJ7_fill_53178_1 : decode cJ7_fill_53178 1 = .ok (.istore_n 2, 1) := by decide +kernel
theorem dJ7_fill_53178_2 : decode cJ7_fill_53178 2 = .ok (.aload_n 0, 1) := by decide +kernel
theorem dJ7_fill_53178_3 : decode cJ7_fill_53178 3 = .ok (.arraylength, 1) := by decide +kernel
theorem dJ7_fill_53178_4 : decode cJ7_fill_53178 4 = .ok (.istore_n 3, 1) := by decide +kernel
theorem dJ7_fill_53178_5 : decode cJ7_fill_53178 5 = .ok (.iload_n 2, 1) := by decide +kernel
theorem dJ7_fill_53178_6 : decode cJ7_fill_53178 6 = .ok (.iload_n 3, 1) := by decide +kernel
theorem dJ7_fill_53178_7 : decode cJ7_fill_53178 7 = .ok (.if_icmp .ge 13, 3) := by decide +kernel
theorem dJ7_fill_53178_10 : decode cJ7_fill_53178 10 = .ok (.aload_n 0, 1) := by decide +kernel
theorem dJ7_fill_53178_11 : decode cJ7_fill_53178 11 = .ok (.iload_n 2, 1) := by decide +kernel
theorem dJ7_fill_53178_12 : decode cJ7_fill_53178 12 = .ok (.iload_n 1, 1) := by decide +kernel
theorem dJ7_fill_53178_13 : decode cJ7_fill_53178 13 = .ok (.iastore, 1) := by decide +kernel
theorem dJ7_fill_53178_14 : decode cJ7_fill_53178 14 = .ok (.iinc 2 1, 3) := by decide +kernel
theorem dJ7_fill_53178_17 : decode cJ7_fill_53178 17 = .ok (.goto (-12), 3) := by decide +kernel
theorem dJ7_fill_53178_20 : decode cJ7_fill_53178 20 = .ok (.return_, 1) := by decide +kernel
set_option maxRecDepth 20000 in
theorem ggL_append_X5_append : GoodIn wsL_append wsX5_append := goodIn_ca (goodIn_ca (goodIn_ca (goodIn_r _ [8, 9, 10, 11, 12, 13, 14, 15, 7, 16, 17, 18, 19, 20, 21, 22, 23, 24, 25, 26, 27, 28, 29, 30, 31, 32, 33, 34, 35, 36, 37, 38, 39] (by decide +kernel) (by decide +kernel)) (goodIn_sub (fun _ h => List.mem_cons_of_mem _ (List.mem_append_left _ (List.mem_append_left _ (List.mem_append_right _ h)))) (by decide +kernel))) (goodIn_sub (fun _ h => List.mem_cons_of_mem _ (List.mem_append_left _ (List.mem_append_right _ h))) (by decide +kernel))) (goodIn_sub (fun _ h => List.mem_cons_of_mem _ (List.mem_append_right _ h)) (by decide +kernel))
set_option maxRecDepth 20000 in
theorem gL_append_X5_append : GoodIn wsL_append (wsV RL 7 RX5 yX5_append wsX5_append) := goodIn_app (goodIn_of _ (by decide +kernel)) ggL_append_X5_append

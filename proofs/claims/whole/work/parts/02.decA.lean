theorem dJ6_compare_7cf53_0 : decode cJ6_compare_7cf53 0 = .ok (.iload_n 0, 1) := by decide +kernel
theorem dJ6_compare_7cf53_1 : decode cJ6_compare_7cf53 1 = .ok (.iload_n 1, 1) := by decide +kernel
theorem dJ6_compare_7cf53_2 : decode cJ6_compare_7cf53 2 = .ok (.if_icmp .ge 7, 3) := by decide +kernel
theorem dJ6_compare_7cf53_5 : decode cJ6_compare_7cf53 5 = .ok (.iconst (-1), 1) := by decide +kernel
theorem dJ6_compare_7cf53_6 : decode cJ6_compare_7cf53 6 = .ok (.goto 13, 3) := by decide +kernel
theorem dJ6_compare_7cf53_9 : decode cJ6_compare_7cf53 9 = .ok (.iload_n 0, 1) := by decide +kernel
theorem dJ6_compare_7cf53_10 : decode cJ6_compare_7cf53 10 = .ok (.iload_n 1, 1) := by decide +kernel
theorem dJ6_compare_7cf53_11 : decode cJ6_compare_7cf53 11 = .ok (.if_icmp .ne 7, 3) := by decide +kernel
theorem dJ6_compare_7cf53_14 : decode cJ6_compare_7cf53 14 = .ok (.iconst 0, 1) := by decide +kernel
theorem dJ6_compare_7cf53_15 : decode cJ6_compare_7cf53 15 = .ok (.goto 4, 3) := by decide +kernel
theorem dJ6_compare_7cf53_18 : decode cJ6_compare_7cf53 18 = .ok (.iconst 1, 1) := by decide +kernel
theorem dJ6_compare_7cf53_19 : decode cJ6_compare_7cf53 19 = .ok (.ireturn, 1) := by decide +kernel
theorem dJ9_max_7cf53_0 : decode cJ9_max_7cf53 0 = .ok (.iload_n 0, 1) := by decide +kernel
theorem dJ9_max_7cf53_1 : decode cJ9_max_7cf53 1 = .ok (.iload_n 1, 1) := by decide +kernel
theorem dJ9_max_7cf53_2 : decode cJ9_max_7cf53 2 = .ok (.if_icmp .lt 7, 3) := by decide +kernel
theorem dJ9_max_7cf53_5 : decode cJ9_max_7cf53 5 = .ok (.iload_n 0, 1) := by decide +kernel
theorem dJ9_max_7cf53_6 : decode cJ9_max_7cf53 6 = .ok (.goto 4, 3) := by decide +kernel
theorem dJ9_max_7cf53_9 : decode cJ9_max_7cf53 9 = .ok (.iload_n 1, 1) := by decide +kernel
theorem dJ9_max_7cf53_10 : decode cJ9_max_7cf53 10 = .ok (.ireturn, 1) := by decide +kernel
theorem dJ9_min_7cf53_0 : decode cJ9_min_7cf53 0 = .ok (.iload_n 0, 1) := by decide +kernel
theorem dJ9_min_7cf53_1 : decode cJ9_min_7cf53 1 = .ok (.iload_n 1, 1) := by decide +kernel
theorem dJ9_min_7cf53_2 : decode cJ9_min_7cf53 2 = .ok (.if_icmp .gt 7, 3) := by decide +kernel
theorem dJ9_min_7cf53_5 : decode cJ9_min_7cf53 5 = .ok (.iload_n 0, 1) := by decide +kernel
theorem dJ9_min_7cf53_6 : decode cJ9_min_7cf53 6 = .ok (.goto 4, 3) := by decide +kernel
theorem dJ9_min_7cf53_9 : decode cJ9_min_7cf53 9 = .ok (.iload_n 1, 1) := by decide +kernel
theorem dJ9_min_7cf53_10 : decode cJ9_min_7cf53 10 = .ok (.ireturn, 1) := by decide +kernel
theorem dX0_init_0 : decode cX0_init 0 = .ok (.aload_n 0, 1) := by decide +kernel
theorem dX0_init_1 : decode cX0_init 1 = .ok (.invokespecial 3, 3) := by decide +kernel
theorem dX0_init_4 : decode cX0_init 4 = .ok (.aload_n 0, 1) := by decide +kernel
theorem dX0_init_5 : decode cX0_init 5 = .ok (.bipush 6, 2) := by decide +kernel
theorem dX0_init_7 : decode cX0_init 7 = .ok (.anewarray 9, 3) := by decide +kernel
theorem dX0_init_10 : decode cX0_init 10 = .ok (.putfield 11, 3) := by decide +kernel
theorem dX0_init_13 : decode cX0_init 13 = .ok (.aload_n 0, 1) := by decide +kernel
theorem dX0_init_14 : decode cX0_init 14 = .ok (.iconst 4, 1) := by decide +kernel
theorem dX0_init_15 : decode cX0_init 15 = .ok (.anewarray 9, 3) := by decide +kernel
theorem dX0_init_18 : decode cX0_init 18 = .ok (.putfield 17, 3) := by decide +kernel
theorem dX0_init_21 : decode cX0_init 21 = .ok (.aload_n 0, 1) := by decide +kernel
theorem dX0_init_22 : decode cX0_init 22 = .ok (.bipush 6, 2) := by decide +kernel
theorem dX0_init_24 : decode cX0_init 24 = .ok (.anewarray 9, 3) := by decide +kernel
theorem dX0_init_27 : decode cX0_init 27 = .ok (.putfield 20, 3) := by decide +kernel
theorem dX0_init_30 : decode cX0_init 30 = .ok (.aload_n 0, 1) := by decide +kernel
theorem dX0_init_31 : decode cX0_init 31 = .ok (.getfield 11, 3) := by decide +kernel
theorem dX0_init_34 : decode cX0_init 34 = .ok (.invokestatic 23, 3) := by decide +kernel
theorem dX0_init_37 : decode cX0_init 37 = .ok (.aload_n 0, 1) := by decide +kernel
theorem dX0_init_38 : decode cX0_init 38 = .ok (.getfield 17, 3) := by decide +kernel
theorem dX0_init_41 : decode cX0_init 41 = .ok (.invokestatic 23, 3) := by decide +kernel
theorem dX0_init_44 : decode cX0_init 44 = .ok (.aload_n 0, 1) := by decide +kernel
theorem dX0_init_45 : decode cX0_init 45 = .ok (.getfield 20, 3) := by decide +kernel
theorem dX0_init_48 : decode cX0_init 48 = .ok (.invokestatic 23, 3) := by decide +kernel
theorem dX0_init_51 : decode cX0_init 51 = .ok (.aload_n 0, 1) := by decide +kernel
theorem dX0_init_52 : decode cX0_init 52 = .ok (.iconst 2, 1) := by decide +kernel
theorem dX0_init_53 : decode cX0_init 53 = .ok (.invokevirtual 27, 3) := by decide +kernel
theorem dX0_init_56 : decode cX0_init 56 = .ok (.return_, 1) := by decide +kernel
theorem dX0_makeRows_0 : decode cX0_makeRows 0 = .ok (.iconst 0, 1) := by decide +kernel
theorem dX0_makeRows_1 : decode cX0_makeRows 1 = .ok (.istore_n 1, 1) := by decide +kernel
theorem dX0_makeRows_2 : decode cX0_makeRows 2 = .ok (.iload_n 1, 1) := by decide +kernel
theorem dX0_makeRows_3 : decode cX0_makeRows 3 = .ok (.aload_n 0, 1) := by decide +kernel
theorem dX0_makeRows_4 : decode cX0_makeRows 4 = .ok (.arraylength, 1) := by decide +kernel
theorem dX0_makeRows_5 : decode cX0_makeRows 5 = .ok (.if_icmp .ge 21, 3) := by decide +kernel
theorem dX0_makeRows_8 : decode cX0_makeRows 8 = .ok (.aload_n 0, 1) := by decide +kernel
theorem dX0_makeRows_9 : decode cX0_makeRows 9 = .ok (.iload_n 1, 1) := by decide +kernel
theorem dX0_makeRows_10 : decode cX0_makeRows 10 = .ok (.new 9, 3) := by decide +kernel
theorem dX0_makeRows_13 : decode cX0_makeRows 13 = .ok (.dup, 1) := by decide +kernel
theorem dX0_makeRows_14 : decode cX0_makeRows 14 = .ok (.bipush 8, 2) := by decide +kernel
theorem dX0_makeRows_16 : decode cX0_makeRows 16 = .ok (.invokespecial 31, 3) := by decide +kernel
theorem dX0_makeRows_19 : decode cX0_makeRows 19 = .ok (.aastore, 1) := by decide +kernel
theorem dX0_makeRows_20 : decode cX0_makeRows 20 = .ok (.iinc 1 1, 3) := by decide +kernel
theorem dX0_makeRows_23 : decode cX0_makeRows 23 = .ok (.goto (-21), 3) := by decide +kernel
theorem dX0_makeRows_26 : decode cX0_makeRows 26 = .ok (.return_, 1) := by decide +kernel
theorem dX0_begin_0 : decode cX0_begin 0 = .ok (.aload_n 0, 1) := by decide +kernel
theorem dX0_begin_1 : decode cX0_begin 1 = .ok (.iload_n 1, 1) := by decide +kernel
theorem dX0_begin_2 : decode cX0_begin 2 = .ok (.putfield 33, 3) := by decide +kernel
theorem dX0_begin_5 : decode cX0_begin 5 = .ok (.iconst 0, 1) := by decide +kernel
theorem dX0_begin_6 : decode cX0_begin 6 = .ok (.istore_n 2, 1) := by decide +kernel
theorem dX0_begin_7 : decode cX0_begin 7 = .ok (.iload_n 2, 1) := by decide +kernel
theorem dX0_begin_8 : decode cX0_begin 8 = .ok (.aload_n 0, 1) := by decide +kernel
theorem dX0_begin_9 : decode cX0_begin 9 = .ok (.getfield 11, 3) := by decide +kernel
theorem dX0_begin_12 : decode cX0_begin 12 = .ok (.arraylength, 1) := by decide +kernel
theorem dX0_begin_13 : decode cX0_begin 13 = .ok (.if_icmp .ge 21, 3) := by decide +kernel
theorem dX0_begin_16 : decode cX0_begin 16 = .ok (.aload_n 0, 1) := by decide +kernel
theorem dX0_begin_17 : decode cX0_begin 17 = .ok (.getfield 11, 3) := by decide +kernel
theorem dX0_begin_20 : decode cX0_begin 20 = .ok (.iload_n 2, 1) := by decide +kernel
theorem dX0_begin_21 : decode cX0_begin 21 = .ok (.aaload, 1) := by decide +kernel
theorem dX0_begin_22 : decode cX0_begin 22 = .ok (.bipush 10, 2) := by decide +kernel
theorem dX0_begin_24 : decode cX0_begin 24 = .ok (.iconst 1, 1) := by decide +kernel
theorem dX0_begin_25 : decode cX0_begin 25 = .ok (.invokevirtual 37, 3) := by decide +kernel
theorem dX0_begin_28 : decode cX0_begin 28 = .ok (.iinc 2 1, 3) := by decide +kernel
theorem dX0_begin_31 : decode cX0_begin 31 = .ok (.goto (-24), 3) := by decide +kernel
theorem dX0_begin_34 : decode cX0_begin 34 = .ok (.iconst 0, 1) := by decide +kernel
theorem dX0_begin_35 : decode cX0_begin 35 = .ok (.istore_n 2, 1) := by decide +kernel
theorem dX0_begin_36 : decode cX0_begin 36 = .ok (.iload_n 2, 1) := by decide +kernel
theorem dX0_begin_37 : decode cX0_begin 37 = .ok (.aload_n 0, 1) := by decide +kernel
theorem dX0_begin_38 : decode cX0_begin 38 = .ok (.getfield 17, 3) := by decide +kernel
theorem dX0_begin_41 : decode cX0_begin 41 = .ok (.arraylength, 1) := by decide +kernel
theorem dX0_begin_42 : decode cX0_begin 42 = .ok (.if_icmp .ge 20, 3) := by decide +kernel
theorem dX0_begin_45 : decode cX0_begin 45 = .ok (.aload_n 0, 1) := by decide +kernel
theorem dX0_begin_46 : decode cX0_begin 46 = .ok (.getfield 17, 3) := by decide +kernel
theorem dX0_begin_49 : decode cX0_begin 49 = .ok (.iload_n 2, 1) := by decide +kernel
theorem dX0_begin_50 : decode cX0_begin 50 = .ok (.aaload, 1) := by decide +kernel
theorem dX0_begin_51 : decode cX0_begin 51 = .ok (.iconst 0, 1) := by decide +kernel
theorem dX0_begin_52 : decode cX0_begin 52 = .ok (.iconst 1, 1) := by decide +kernel
theorem dX0_begin_53 : decode cX0_begin 53 = .ok (.invokevirtual 37, 3) := by decide +kernel
theorem dX0_begin_56 : decode cX0_begin 56 = .ok (.iinc 2 1, 3) := by decide +kernel
theorem dX0_begin_59 : decode cX0_begin 59 = .ok (.goto (-23), 3) := by decide +kernel
theorem dX0_begin_62 : decode cX0_begin 62 = .ok (.aload_n 0, 1) := by decide +kernel
theorem dX0_begin_63 : decode cX0_begin 63 = .ok (.iconst 0, 1) := by decide +kernel
theorem dX0_begin_64 : decode cX0_begin 64 = .ok (.putfield 41, 3) := by decide +kernel
theorem dX0_begin_67 : decode cX0_begin 67 = .ok (.return_, 1) := by decide +kernel
theorem dX0_setTo_0 : decode cX0_setTo 0 = .ok (.aload_n 0, 1) := by decide +kernel
theorem dX0_setTo_1 : decode cX0_setTo 1 = .ok (.aload_n 1, 1) := by decide +kernel
theorem dX0_setTo_2 : decode cX0_setTo 2 = .ok (.getfield 33, 3) := by decide +kernel
theorem dX0_setTo_5 : decode cX0_setTo 5 = .ok (.putfield 33, 3) := by decide +kernel
theorem dX0_setTo_8 : decode cX0_setTo 8 = .ok (.aload_n 1, 1) := by decide +kernel
theorem dX0_setTo_9 : decode cX0_setTo 9 = .ok (.getfield 11, 3) := by decide +kernel
theorem dX0_setTo_12 : decode cX0_setTo 12 = .ok (.aload_n 0, 1) := by decide +kernel
theorem dX0_setTo_13 : decode cX0_setTo 13 = .ok (.getfield 11, 3) := by decide +kernel
theorem dX0_setTo_16 : decode cX0_setTo 16 = .ok (.invokestatic 44, 3) := by decide +kernel
theorem dX0_setTo_19 : decode cX0_setTo 19 = .ok (.aload_n 1, 1) := by decide +kernel
theorem dX0_setTo_20 : decode cX0_setTo 20 = .ok (.getfield 17, 3) := by decide +kernel
theorem dX0_setTo_23 : decode cX0_setTo 23 = .ok (.aload_n 0, 1) := by decide +kernel
theorem dX0_setTo_24 : decode cX0_setTo 24 = .ok (.getfield 17, 3) := by decide +kernel
theorem dX0_setTo_27 : decode cX0_setTo 27 = .ok (.invokestatic 44, 3) := by decide +kernel
theorem dX0_setTo_30 : decode cX0_setTo 30 = .ok (.aload_n 1, 1) := by decide +kernel
theorem dX0_setTo_31 : decode cX0_setTo 31 = .ok (.getfield 20, 3) := by decide +kernel
theorem dX0_setTo_34 : decode cX0_setTo 34 = .ok (.aload_n 0, 1) := by decide +kernel
theorem dX0_setTo_35 : decode cX0_setTo 35 = .ok (.getfield 20, 3) := by decide +kernel
theorem dX0_setTo_38 : decode cX0_setTo 38 = .ok (.invokestatic 44, 3) := by decide +kernel
theorem dX0_setTo_41 : decode cX0_setTo 41 = .ok (.aload_n 0, 1) := by decide +kernel
theorem dX0_setTo_42 : decode cX0_setTo 42 = .ok (.aload_n 1, 1) := by decide +kernel
theorem dX0_setTo_43 : decode cX0_setTo 43 = .ok (.getfield 41, 3) := by decide +kernel
theorem dX0_setTo_46 : decode cX0_setTo 46 = .ok (.putfield 41, 3) := by decide +kernel
theorem dX0_setTo_49 : decode cX0_setTo 49 = .ok (.return_, 1) := by decide +kernel
theorem dX0_copyRows_0 : decode cX0_copyRows 0 = .ok (.iconst 0, 1) := by decide +kernel
theorem dX0_copyRows_1 : decode cX0_copyRows 1 = .ok (.istore_n 2, 1) := by decide +kernel
theorem dX0_copyRows_2 : decode cX0_copyRows 2 = .ok (.iload_n 2, 1) := by decide +kernel
theorem dX0_copyRows_3 : decode cX0_copyRows 3 = .ok (.aload_n 0, 1) := by decide +kernel
theorem dX0_copyRows_4 : decode cX0_copyRows 4 = .ok (.arraylength, 1) := by decide +kernel
theorem dX0_copyRows_5 : decode cX0_copyRows 5 = .ok (.if_icmp .ge 24, 3) := by decide +kernel
theorem dX0_copyRows_8 : decode cX0_copyRows 8 = .ok (.iload_n 2, 1) := by decide +kernel
theorem dX0_copyRows_9 : decode cX0_copyRows 9 = .ok (.aload_n 1, 1) := by decide +kernel
theorem dX0_copyRows_10 : decode cX0_copyRows 10 = .ok (.arraylength, 1) := by decide +kernel
theorem dX0_copyRows_11 : decode cX0_copyRows 11 = .ok (.if_icmp .ge 18, 3) := by decide +kernel
theorem dX0_copyRows_14 : decode cX0_copyRows 14 = .ok (.aload_n 1, 1) := by decide +kernel
theorem dX0_copyRows_15 : decode cX0_copyRows 15 = .ok (.iload_n 2, 1) := by decide +kernel
theorem dX0_copyRows_16 : decode cX0_copyRows 16 = .ok (.aaload, 1) := by decide +kernel
theorem dX0_copyRows_17 : decode cX0_copyRows 17 = .ok (.aload_n 0, 1) := by decide +kernel
theorem dX0_copyRows_18 : decode cX0_copyRows 18 = .ok (.iload_n 2, 1) := by decide +kernel
theorem dX0_copyRows_19 : decode cX0_copyRows 19 = .ok (.aaload, 1) := by decide +kernel
theorem dX0_copyRows_20 : decode cX0_copyRows 20 = .ok (.invokevirtual 48, 3) := by decide +kernel
theorem dX0_copyRows_23 : decode cX0_copyRows 23 = .ok (.iinc 2 1, 3) := by decide +kernel
theorem dX0_copyRows_26 : decode cX0_copyRows 26 = .ok (.goto (-24), 3) := by decide +kernel
theorem dX0_copyRows_29 : decode cX0_copyRows 29 = .ok (.return_, 1) := by decide +kernel
theorem dX1_init_0 : decode cX1_init 0 = .ok (.aload_n 0, 1) := by decide +kernel
theorem dX1_init_1 : decode cX1_init 1 = .ok (.invokespecial 3, 3) := by decide +kernel
theorem dX1_init_4 : decode cX1_init 4 = .ok (.aload_n 0, 1) := by decide +kernel
theorem dX1_init_5 : decode cX1_init 5 = .ok (.iconst 4, 1) := by decide +kernel
theorem dX1_init_6 : decode cX1_init 6 = .ok (.newarray .int, 2) := by decide +kernel
theorem dX1_init_8 : decode cX1_init 8 = .ok (.putfield 9, 3) := by decide +kernel
theorem dX1_init_11 : decode cX1_init 11 = .ok (.aload_n 0, 1) := by decide +kernel
theorem dX1_init_12 : decode cX1_init 12 = .ok (.iconst 4, 1) := by decide +kernel
theorem dX1_init_13 : decode cX1_init 13 = .ok (.newarray .int, 2) := by decide +kernel
theorem dX1_init_15 : decode cX1_init 15 = .ok (.putfield 15, 3) := by decide +kernel
theorem dX1_init_18 : decode cX1_init 18 = .ok (.aload_n 0, 1) := by decide +kernel
theorem dX1_init_19 : decode cX1_init 19 = .ok (.iconst 4, 1) := by decide +kernel
theorem dX1_init_20 : decode cX1_init 20 = .ok (.newarray .int, 2) := by decide +kernel
theorem dX1_init_22 : decode cX1_init 22 = .ok (.putfield 18, 3) := by decide +kernel
theorem dX1_init_25 : decode cX1_init 25 = .ok (.return_, 1) := by decide +kernel
theorem dX1_isMatch_0 : decode cX1_isMatch 0 = .ok (.aload_n 0, 1) := by decide +kernel
theorem dX1_isMatch_1 : decode cX1_isMatch 1 = .ok (.aload_n 1, 1) := by decide +kernel
theorem dX1_isMatch_2 : decode cX1_isMatch 2 = .ok (.aload_n 2, 1) := by decide +kernel
theorem dX1_isMatch_3 : decode cX1_isMatch 3 = .ok (.iload_n 3, 1) := by decide +kernel
theorem dX1_isMatch_4 : decode cX1_isMatch 4 = .ok (.iconst 0, 1) := by decide +kernel
theorem dX1_isMatch_5 : decode cX1_isMatch 5 = .ok (.iconst 0, 1) := by decide +kernel
theorem dX1_isMatch_6 : decode cX1_isMatch 6 = .ok (.invokevirtual 21, 3) := by decide +kernel
theorem dX1_isMatch_9 : decode cX1_isMatch 9 = .ok (.ireturn, 1) := by decide +kernel
theorem dX1_isMatchBefore_0 : decode cX1_isMatchBefore 0 = .ok (.aload_n 2, 1) := by decide +kernel
theorem dX1_isMatchBefore_1 : decode cX1_isMatchBefore 1 = .ok (.getfield 25, 3) := by decide +kernel
theorem dX1_isMatchBefore_4 : decode cX1_isMatchBefore 4 = .ok (.aload_n 0, 1) := by decide +kernel
theorem dX1_isMatchBefore_5 : decode cX1_isMatchBefore 5 = .ok (.aload_n 1, 1) := by decide +kernel
theorem dX1_isMatchBefore_6 : decode cX1_isMatchBefore 6 = .ok (.iload_n 3, 1) := by decide +kernel
theorem dX1_isMatchBefore_7 : decode cX1_isMatchBefore 7 = .ok (.invokevirtual 31, 3) := by decide +kernel
theorem dX1_isMatchBefore_10 : decode cX1_isMatchBefore 10 = .ok (.isub, 1) := by decide +kernel
theorem dX1_isMatchBefore_11 : decode cX1_isMatchBefore 11 = .ok (.iload 4, 2) := by decide +kernel
theorem dX1_isMatchBefore_13 : decode cX1_isMatchBefore 13 = .ok (.isub, 1) := by decide +kernel
theorem dX1_isMatchBefore_14 : decode cX1_isMatchBefore 14 = .ok (.istore 6, 2) := by decide +kernel
theorem dX1_isMatchBefore_16 : decode cX1_isMatchBefore 16 = .ok (.aload_n 0, 1) := by decide +kernel
theorem dX1_isMatchBefore_17 : decode cX1_isMatchBefore 17 = .ok (.iload 5, 2) := by decide +kernel
theorem dX1_isMatchBefore_19 : decode cX1_isMatchBefore 19 = .ok (.iload 4, 2) := by decide +kernel
theorem dX1_isMatchBefore_21 : decode cX1_isMatchBefore 21 = .ok (.isub, 1) := by decide +kernel
theorem dX1_isMatchBefore_22 : decode cX1_isMatchBefore 22 = .ok (.putfield 35, 3) := by decide +kernel
theorem dX1_isMatchBefore_25 : decode cX1_isMatchBefore 25 = .ok (.aload_n 0, 1) := by decide +kernel
theorem dX1_isMatchBefore_26 : decode cX1_isMatchBefore 26 = .ok (.iload 6, 2) := by decide +kernel
theorem dX1_isMatchBefore_28 : decode cX1_isMatchBefore 28 = .ok (.invokevirtual 38, 3) := by decide +kernel
theorem dX1_isMatchBefore_31 : decode cX1_isMatchBefore 31 = .ok (.ifCond .eq 21, 3) := by decide +kernel
theorem dX1_isMatchBefore_34 : decode cX1_isMatchBefore 34 = .ok (.aload_n 0, 1) := by decide +kernel
theorem dX1_isMatchBefore_35 : decode cX1_isMatchBefore 35 = .ok (.aload_n 1, 1) := by decide +kernel
theorem dX1_isMatchBefore_36 : decode cX1_isMatchBefore 36 = .ok (.iconst 0, 1) := by decide +kernel
theorem dX1_isMatchBefore_37 : decode cX1_isMatchBefore 37 = .ok (.aload_n 2, 1) := by decide +kernel
theorem dX1_isMatchBefore_38 : decode cX1_isMatchBefore 38 = .ok (.iconst 0, 1) := by decide +kernel
theorem dX1_isMatchBefore_39 : decode cX1_isMatchBefore 39 = .ok (.iload 6, 2) := by decide +kernel
theorem dX1_isMatchBefore_41 : decode cX1_isMatchBefore 41 = .ok (.iconst 1, 1) := by decide +kernel
theorem dX1_isMatchBefore_42 : decode cX1_isMatchBefore 42 = .ok (.invokevirtual 42, 3) := by decide +kernel
theorem dX1_isMatchBefore_45 : decode cX1_isMatchBefore 45 = .ok (.ifCond .le 7, 3) := by decide +kernel
theorem dX1_isMatchBefore_48 : decode cX1_isMatchBefore 48 = .ok (.iconst 1, 1) := by decide +kernel
theorem dX1_isMatchBefore_49 : decode cX1_isMatchBefore 49 = .ok (.goto 4, 3) := by decide +kernel
theorem dX1_isMatchBefore_52 : decode cX1_isMatchBefore 52 = .ok (.iconst 0, 1) := by decide +kernel
theorem dX1_isMatchBefore_53 : decode cX1_isMatchBefore 53 = .ok (.ireturn, 1) := by decide +kernel
theorem dX1_countAll_0 : decode cX1_countAll 0 = .ok (.aload_n 2, 1) := by decide +kernel
theorem dX1_countAll_1 : decode cX1_countAll 1 = .ok (.getfield 25, 3) := by decide +kernel
theorem dX1_countAll_4 : decode cX1_countAll 4 = .ok (.aload_n 0, 1) := by decide +kernel
theorem dX1_countAll_5 : decode cX1_countAll 5 = .ok (.aload_n 1, 1) := by decide +kernel
theorem dX1_countAll_6 : decode cX1_countAll 6 = .ok (.iload_n 3, 1) := by decide +kernel
theorem dX1_countAll_7 : decode cX1_countAll 7 = .ok (.invokevirtual 31, 3) := by decide +kernel
theorem dX1_countAll_10 : decode cX1_countAll 10 = .ok (.isub, 1) := by decide +kernel
theorem dX1_countAll_11 : decode cX1_countAll 11 = .ok (.istore 4, 2) := by decide +kernel
theorem dX1_countAll_13 : decode cX1_countAll 13 = .ok (.aload_n 0, 1) := by decide +kernel
theorem dX1_countAll_14 : decode cX1_countAll 14 = .ok (.iconst 0, 1) := by decide +kernel
theorem dX1_countAll_15 : decode cX1_countAll 15 = .ok (.putfield 35, 3) := by decide +kernel
theorem dX1_countAll_18 : decode cX1_countAll 18 = .ok (.aload_n 0, 1) := by decide +kernel
theorem dX1_countAll_19 : decode cX1_countAll 19 = .ok (.iload 4, 2) := by decide +kernel
theorem dX1_countAll_21 : decode cX1_countAll 21 = .ok (.invokevirtual 38, 3) := by decide +kernel
theorem dX1_countAll_24 : decode cX1_countAll 24 = .ok (.ifCond .eq 18, 3) := by decide +kernel
theorem dX1_countAll_27 : decode cX1_countAll 27 = .ok (.aload_n 0, 1) := by decide +kernel
theorem dX1_countAll_28 : decode cX1_countAll 28 = .ok (.aload_n 1, 1) := by decide +kernel
theorem dX1_countAll_29 : decode cX1_countAll 29 = .ok (.iconst 0, 1) := by decide +kernel
theorem dX1_countAll_30 : decode cX1_countAll 30 = .ok (.aload_n 2, 1) := by decide +kernel
theorem dX1_countAll_31 : decode cX1_countAll 31 = .ok (.iconst 0, 1) := by decide +kernel
theorem dX1_countAll_32 : decode cX1_countAll 32 = .ok (.iload 4, 2) := by decide +kernel
theorem dX1_countAll_34 : decode cX1_countAll 34 = .ok (.ldc 48, 2) := by decide +kernel
theorem dX1_countAll_36 : decode cX1_countAll 36 = .ok (.invokevirtual 42, 3) := by decide +kernel
theorem dX1_countAll_39 : decode cX1_countAll 39 = .ok (.goto 4, 3) := by decide +kernel
theorem dX1_countAll_42 : decode cX1_countAll 42 = .ok (.iconst 0, 1) := by decide +kernel
theorem dX1_countAll_43 : decode cX1_countAll 43 = .ok (.ireturn, 1) := by decide +kernel
theorem dX1_writeImage_0 : decode cX1_writeImage 0 = .ok (.aload_n 3, 1) := by decide +kernel
theorem dX1_writeImage_1 : decode cX1_writeImage 1 = .ok (.invokevirtual 49, 3) := by decide +kernel
theorem dX1_writeImage_4 : decode cX1_writeImage 4 = .ok (.iload_n 1, 1) := by decide +kernel
theorem dX1_writeImage_5 : decode cX1_writeImage 5 = .ok (.invokestatic 52, 3) := by decide +kernel
theorem dX1_writeImage_8 : decode cX1_writeImage 8 = .ok (.ifCond .ne 4, 3) := by decide +kernel
theorem dX1_writeImage_11 : decode cX1_writeImage 11 = .ok (.return_, 1) := by decide +kernel
theorem dX1_writeImage_12 : decode cX1_writeImage 12 = .ok (.iconst 0, 1) := by decide +kernel
theorem dX1_writeImage_13 : decode cX1_writeImage 13 = .ok (.istore 4, 2) := by decide +kernel
theorem dX1_writeImage_15 : decode cX1_writeImage 15 = .ok (.iload 4, 2) := by decide +kernel
theorem dX1_writeImage_17 : decode cX1_writeImage 17 = .ok (.aload_n 0, 1) := by decide +kernel
theorem dX1_writeImage_18 : decode cX1_writeImage 18 = .ok (.getfield 15, 3) := by decide +kernel
theorem dX1_writeImage_21 : decode cX1_writeImage 21 = .ok (.iload_n 1, 1) := by decide +kernel
theorem dX1_writeImage_22 : decode cX1_writeImage 22 = .ok (.iaload, 1) := by decide +kernel
theorem dX1_writeImage_23 : decode cX1_writeImage 23 = .ok (.if_icmp .ge 27, 3) := by decide +kernel
theorem dX1_writeImage_26 : decode cX1_writeImage 26 = .ok (.aload_n 3, 1) := by decide +kernel
theorem dX1_writeImage_27 : decode cX1_writeImage 27 = .ok (.aload_n 2, 1) := by decide +kernel
theorem dX1_writeImage_28 : decode cX1_writeImage 28 = .ok (.aload_n 0, 1) := by decide +kernel
theorem dX1_writeImage_29 : decode cX1_writeImage 29 = .ok (.getfield 9, 3) := by decide +kernel
theorem dX1_writeImage_32 : decode cX1_writeImage 32 = .ok (.iload_n 1, 1) := by decide +kernel
theorem dX1_writeImage_33 : decode cX1_writeImage 33 = .ok (.iaload, 1) := by decide +kernel
theorem dX1_writeImage_34 : decode cX1_writeImage 34 = .ok (.iload 4, 2) := by decide +kernel
theorem dX1_writeImage_36 : decode cX1_writeImage 36 = .ok (.iadd, 1) := by decide +kernel
theorem dX1_writeImage_37 : decode cX1_writeImage 37 = .ok (.invokevirtual 55, 3) := by decide +kernel
theorem dX1_writeImage_40 : decode cX1_writeImage 40 = .ok (.invokevirtual 59, 3) := by decide +kernel
theorem dX1_writeImage_43 : decode cX1_writeImage 43 = .ok (.pop, 1) := by decide +kernel
theorem dX1_writeImage_44 : decode cX1_writeImage 44 = .ok (.iinc 4 1, 3) := by decide +kernel
theorem dX1_writeImage_47 : decode cX1_writeImage 47 = .ok (.goto (-32), 3) := by decide +kernel
theorem dX1_writeImage_50 : decode cX1_writeImage 50 = .ok (.return_, 1) := by decide +kernel
theorem dX1_prepare_0 : decode cX1_prepare 0 = .ok (.aload_n 0, 1) := by decide +kernel
theorem dX1_prepare_1 : decode cX1_prepare 1 = .ok (.iload_n 2, 1) := by decide +kernel
theorem dX1_prepare_2 : decode cX1_prepare 2 = .ok (.iconst 1, 1) := by decide +kernel
theorem dX1_prepare_3 : decode cX1_prepare 3 = .ok (.if_icmp .ne 7, 3) := by decide +kernel
theorem dX1_prepare_6 : decode cX1_prepare 6 = .ok (.iconst 0, 1) := by decide +kernel
theorem dX1_prepare_7 : decode cX1_prepare 7 = .ok (.goto 4, 3) := by decide +kernel
theorem dX1_prepare_10 : decode cX1_prepare 10 = .ok (.iconst 1, 1) := by decide +kernel
theorem dX1_prepare_11 : decode cX1_prepare 11 = .ok (.putfield 62, 3) := by decide +kernel
theorem dX1_prepare_14 : decode cX1_prepare 14 = .ok (.aload_n 0, 1) := by decide +kernel
theorem dX1_prepare_15 : decode cX1_prepare 15 = .ok (.iconst 0, 1) := by decide +kernel
theorem dX1_prepare_16 : decode cX1_prepare 16 = .ok (.putfield 65, 3) := by decide +kernel
theorem dX1_prepare_19 : decode cX1_prepare 19 = .ok (.iconst 0, 1) := by decide +kernel
theorem dX1_prepare_20 : decode cX1_prepare 20 = .ok (.istore_n 3, 1) := by decide +kernel
theorem dX1_prepare_21 : decode cX1_prepare 21 = .ok (.iload_n 3, 1) := by decide +kernel
theorem dX1_prepare_22 : decode cX1_prepare 22 = .ok (.iconst 4, 1) := by decide +kernel
theorem dX1_prepare_23 : decode cX1_prepare 23 = .ok (.if_icmp .ge 23, 3) := by decide +kernel
theorem dX1_prepare_26 : decode cX1_prepare 26 = .ok (.aload_n 0, 1) := by decide +kernel
theorem dX1_prepare_27 : decode cX1_prepare 27 = .ok (.getfield 15, 3) := by decide +kernel
theorem dX1_prepare_30 : decode cX1_prepare 30 = .ok (.iload_n 3, 1) := by decide +kernel
theorem dX1_prepare_31 : decode cX1_prepare 31 = .ok (.iconst (-1), 1) := by decide +kernel
theorem dX1_prepare_32 : decode cX1_prepare 32 = .ok (.iastore, 1) := by decide +kernel
theorem dX1_prepare_33 : decode cX1_prepare 33 = .ok (.aload_n 0, 1) := by decide +kernel
theorem dX1_prepare_34 : decode cX1_prepare 34 = .ok (.getfield 18, 3) := by decide +kernel
theorem dX1_prepare_37 : decode cX1_prepare 37 = .ok (.iload_n 3, 1) := by decide +kernel
theorem dX1_prepare_38 : decode cX1_prepare 38 = .ok (.iconst 0, 1) := by decide +kernel
theorem dX1_prepare_39 : decode cX1_prepare 39 = .ok (.iastore, 1) := by decide +kernel
theorem dX1_prepare_40 : decode cX1_prepare 40 = .ok (.iinc 3 1, 3) := by decide +kernel
theorem dX1_prepare_43 : decode cX1_prepare 43 = .ok (.goto (-22), 3) := by decide +kernel
theorem dX1_prepare_46 : decode cX1_prepare 46 = .ok (.iconst 0, 1) := by decide +kernel
theorem dX1_prepare_47 : decode cX1_prepare 47 = .ok (.istore_n 3, 1) := by decide +kernel
theorem dX1_prepare_48 : decode cX1_prepare 48 = .ok (.iconst 0, 1) := by decide +kernel
theorem dX1_prepare_49 : decode cX1_prepare 49 = .ok (.istore 4, 2) := by decide +kernel
theorem dX1_prepare_51 : decode cX1_prepare 51 = .ok (.iload 4, 2) := by decide +kernel
theorem dX1_prepare_53 : decode cX1_prepare 53 = .ok (.aload_n 1, 1) := by decide +kernel
theorem dX1_prepare_54 : decode cX1_prepare 54 = .ok (.getfield 25, 3) := by decide +kernel
theorem dX1_prepare_57 : decode cX1_prepare 57 = .ok (.if_icmp .ge 67, 3) := by decide +kernel
theorem dX1_prepare_60 : decode cX1_prepare 60 = .ok (.aload_n 1, 1) := by decide +kernel
theorem dX1_prepare_61 : decode cX1_prepare 61 = .ok (.iload 4, 2) := by decide +kernel
theorem dX1_prepare_63 : decode cX1_prepare 63 = .ok (.invokevirtual 55, 3) := by decide +kernel
theorem dX1_prepare_66 : decode cX1_prepare 66 = .ok (.bipush 10, 2) := by decide +kernel
theorem dX1_prepare_68 : decode cX1_prepare 68 = .ok (.isub, 1) := by decide +kernel
theorem dX1_prepare_69 : decode cX1_prepare 69 = .ok (.istore 5, 2) := by decide +kernel
theorem dX1_prepare_71 : decode cX1_prepare 71 = .ok (.iload 5, 2) := by decide +kernel
theorem dX1_prepare_73 : decode cX1_prepare 73 = .ok (.invokestatic 52, 3) := by decide +kernel
theorem dX1_prepare_76 : decode cX1_prepare 76 = .ok (.ifCond .eq 39, 3) := by decide +kernel
theorem dX1_prepare_79 : decode cX1_prepare 79 = .ok (.aload_n 0, 1) := by decide +kernel
theorem dX1_prepare_80 : decode cX1_prepare 80 = .ok (.getfield 18, 3) := by decide +kernel
theorem dX1_prepare_83 : decode cX1_prepare 83 = .ok (.iload 5, 2) := by decide +kernel
theorem dX1_prepare_85 : decode cX1_prepare 85 = .ok (.dup2, 1) := by decide +kernel
theorem dX1_prepare_86 : decode cX1_prepare 86 = .ok (.iaload, 1) := by decide +kernel
theorem dX1_prepare_87 : decode cX1_prepare 87 = .ok (.iconst 1, 1) := by decide +kernel
theorem dX1_prepare_88 : decode cX1_prepare 88 = .ok (.iadd, 1) := by decide +kernel
theorem dX1_prepare_89 : decode cX1_prepare 89 = .ok (.iastore, 1) := by decide +kernel
theorem dX1_prepare_90 : decode cX1_prepare 90 = .ok (.aload_n 0, 1) := by decide +kernel
theorem dX1_prepare_91 : decode cX1_prepare 91 = .ok (.aload_n 0, 1) := by decide +kernel
theorem dX1_prepare_92 : decode cX1_prepare 92 = .ok (.getfield 65, 3) := by decide +kernel
theorem dX1_prepare_95 : decode cX1_prepare 95 = .ok (.iload 5, 2) := by decide +kernel
theorem dX1_prepare_97 : decode cX1_prepare 97 = .ok (.iconst 1, 1) := by decide +kernel
theorem dX1_prepare_98 : decode cX1_prepare 98 = .ok (.iadd, 1) := by decide +kernel
theorem dX1_prepare_99 : decode cX1_prepare 99 = .ok (.invokestatic 68, 3) := by decide +kernel
theorem dX1_prepare_102 : decode cX1_prepare 102 = .ok (.putfield 65, 3) := by decide +kernel
theorem dX1_prepare_105 : decode cX1_prepare 105 = .ok (.iload_n 3, 1) := by decide +kernel
theorem dX1_prepare_106 : decode cX1_prepare 106 = .ok (.aload_n 0, 1) := by decide +kernel
theorem dX1_prepare_107 : decode cX1_prepare 107 = .ok (.getfield 62, 3) := by decide +kernel
theorem dX1_prepare_110 : decode cX1_prepare 110 = .ok (.iadd, 1) := by decide +kernel
theorem dX1_prepare_111 : decode cX1_prepare 111 = .ok (.istore_n 3, 1) := by decide +kernel
theorem dX1_prepare_112 : decode cX1_prepare 112 = .ok (.goto 6, 3) := by decide +kernel
theorem dX1_prepare_115 : decode cX1_prepare 115 = .ok (.iinc 3 1, 3) := by decide +kernel
theorem dX1_prepare_118 : decode cX1_prepare 118 = .ok (.iinc 4 1, 3) := by decide +kernel
theorem dX1_prepare_121 : decode cX1_prepare 121 = .ok (.goto (-70), 3) := by decide +kernel
theorem dX1_prepare_124 : decode cX1_prepare 124 = .ok (.iload_n 3, 1) := by decide +kernel
theorem dX1_prepare_125 : decode cX1_prepare 125 = .ok (.ireturn, 1) := by decide +kernel
theorem dX1_canComeOut_0 : decode cX1_canComeOut 0 = .ok (.iload_n 1, 1) := by decide +kernel
theorem dX1_canComeOut_1 : decode cX1_canComeOut 1 = .ok (.ifCond .lt 22, 3) := by decide +kernel
theorem dX1_canComeOut_4 : decode cX1_canComeOut 4 = .ok (.aload_n 0, 1) := by decide +kernel
theorem dX1_canComeOut_5 : decode cX1_canComeOut 5 = .ok (.getfield 65, 3) := by decide +kernel
theorem dX1_canComeOut_8 : decode cX1_canComeOut 8 = .ok (.ifCond .gt 11, 3) := by decide +kernel
theorem dX1_canComeOut_11 : decode cX1_canComeOut 11 = .ok (.iload_n 1, 1) := by decide +kernel
theorem dX1_canComeOut_12 : decode cX1_canComeOut 12 = .ok (.aload_n 0, 1) := by decide +kernel
theorem dX1_canComeOut_13 : decode cX1_canComeOut 13 = .ok (.getfield 35, 3) := by decide +kernel
theorem dX1_canComeOut_16 : decode cX1_canComeOut 16 = .ok (.if_icmp .gt 7, 3) := by decide +kernel
theorem dX1_canComeOut_19 : decode cX1_canComeOut 19 = .ok (.iconst 1, 1) := by decide +kernel
theorem dX1_canComeOut_20 : decode cX1_canComeOut 20 = .ok (.goto 4, 3) := by decide +kernel
theorem dX1_canComeOut_23 : decode cX1_canComeOut 23 = .ok (.iconst 0, 1) := by decide +kernel
theorem dX1_canComeOut_24 : decode cX1_canComeOut 24 = .ok (.ireturn, 1) := by decide +kernel
theorem dX1_count_0 : decode cX1_count 0 = .ok (.iload_n 2, 1) := by decide +kernel
theorem dX1_count_1 : decode cX1_count 1 = .ok (.aload_n 1, 1) := by decide +kernel
theorem dX1_count_2 : decode cX1_count 2 = .ok (.getfield 25, 3) := by decide +kernel
theorem dX1_count_5 : decode cX1_count 5 = .ok (.if_icmp .lt 18, 3) := by decide +kernel
theorem dX1_count_8 : decode cX1_count 8 = .ok (.iload 5, 2) := by decide +kernel
theorem dX1_count_10 : decode cX1_count 10 = .ok (.aload_n 0, 1) := by decide +kernel
theorem dX1_count_11 : decode cX1_count 11 = .ok (.getfield 35, 3) := by decide +kernel
theorem dX1_count_14 : decode cX1_count 14 = .ok (.if_icmp .gt 7, 3) := by decide +kernel
theorem dX1_count_17 : decode cX1_count 17 = .ok (.iconst 1, 1) := by decide +kernel
theorem dX1_count_18 : decode cX1_count 18 = .ok (.goto 4, 3) := by decide +kernel
theorem dX1_count_21 : decode cX1_count 21 = .ok (.iconst 0, 1) := by decide +kernel
theorem dX1_count_22 : decode cX1_count 22 = .ok (.ireturn, 1) := by decide +kernel
theorem dX1_count_23 : decode cX1_count 23 = .ok (.aload_n 1, 1) := by decide +kernel
theorem dX1_count_24 : decode cX1_count 24 = .ok (.iload_n 2, 1) := by decide +kernel
theorem dX1_count_25 : decode cX1_count 25 = .ok (.invokevirtual 55, 3) := by decide +kernel
theorem dX1_count_28 : decode cX1_count 28 = .ok (.istore 7, 2) := by decide +kernel
theorem dX1_count_30 : decode cX1_count 30 = .ok (.iload 7, 2) := by decide +kernel
theorem dX1_count_32 : decode cX1_count 32 = .ok (.bipush 10, 2) := by decide +kernel
theorem dX1_count_34 : decode cX1_count 34 = .ok (.isub, 1) := by decide +kernel
theorem dX1_count_35 : decode cX1_count 35 = .ok (.istore 8, 2) := by decide +kernel
theorem dX1_count_37 : decode cX1_count 37 = .ok (.iload 8, 2) := by decide +kernel
theorem dX1_count_39 : decode cX1_count 39 = .ok (.invokestatic 52, 3) := by decide +kernel
theorem dX1_count_42 : decode cX1_count 42 = .ok (.ifCond .ne 48, 3) := by decide +kernel
theorem dX1_count_45 : decode cX1_count 45 = .ok (.aload_n 3, 1) := by decide +kernel
theorem dX1_count_46 : decode cX1_count 46 = .ok (.iload 4, 2) := by decide +kernel
theorem dX1_count_48 : decode cX1_count 48 = .ok (.invokevirtual 55, 3) := by decide +kernel
theorem dX1_count_51 : decode cX1_count 51 = .ok (.iload 7, 2) := by decide +kernel
theorem dX1_count_53 : decode cX1_count 53 = .ok (.if_icmp .ne 7, 3) := by decide +kernel
theorem dX1_count_56 : decode cX1_count 56 = .ok (.iconst 1, 1) := by decide +kernel
theorem dX1_count_57 : decode cX1_count 57 = .ok (.goto 4, 3) := by decide +kernel
theorem dX1_count_60 : decode cX1_count 60 = .ok (.iconst 0, 1) := by decide +kernel
theorem dX1_count_61 : decode cX1_count 61 = .ok (.istore 9, 2) := by decide +kernel
theorem dX1_count_63 : decode cX1_count 63 = .ok (.iload 9, 2) := by decide +kernel
theorem dX1_count_65 : decode cX1_count 65 = .ok (.ifCond .eq 23, 3) := by decide +kernel
theorem dX1_count_68 : decode cX1_count 68 = .ok (.aload_n 0, 1) := by decide +kernel
theorem dX1_count_69 : decode cX1_count 69 = .ok (.aload_n 1, 1) := by decide +kernel
theorem dX1_count_70 : decode cX1_count 70 = .ok (.iload_n 2, 1) := by decide +kernel
theorem dX1_count_71 : decode cX1_count 71 = .ok (.iconst 1, 1) := by decide +kernel
theorem dX1_count_72 : decode cX1_count 72 = .ok (.iadd, 1) := by decide +kernel
theorem dX1_count_73 : decode cX1_count 73 = .ok (.aload_n 3, 1) := by decide +kernel
theorem dX1_count_74 : decode cX1_count 74 = .ok (.iload 4, 2) := by decide +kernel
theorem dX1_count_76 : decode cX1_count 76 = .ok (.iconst 1, 1) := by decide +kernel
theorem dX1_count_77 : decode cX1_count 77 = .ok (.iadd, 1) := by decide +kernel
theorem dX1_count_78 : decode cX1_count 78 = .ok (.iload 5, 2) := by decide +kernel
theorem dX1_count_80 : decode cX1_count 80 = .ok (.iload 6, 2) := by decide +kernel
theorem dX1_count_82 : decode cX1_count 82 = .ok (.invokevirtual 42, 3) := by decide +kernel
theorem dX1_count_85 : decode cX1_count 85 = .ok (.goto 4, 3) := by decide +kernel
theorem dX1_count_88 : decode cX1_count 88 = .ok (.iconst 0, 1) := by decide +kernel
theorem dX1_count_89 : decode cX1_count 89 = .ok (.ireturn, 1) := by decide +kernel
theorem dX1_count_90 : decode cX1_count 90 = .ok (.aload_n 0, 1) := by decide +kernel
theorem dX1_count_91 : decode cX1_count 91 = .ok (.getfield 15, 3) := by decide +kernel
theorem dX1_count_94 : decode cX1_count 94 = .ok (.iload 8, 2) := by decide +kernel
theorem dX1_count_96 : decode cX1_count 96 = .ok (.iaload, 1) := by decide +kernel
theorem dX1_count_97 : decode cX1_count 97 = .ok (.istore 9, 2) := by decide +kernel
theorem dX1_count_99 : decode cX1_count 99 = .ok (.iload 9, 2) := by decide +kernel
theorem dX1_count_101 : decode cX1_count 101 = .ok (.iconst (-1), 1) := by decide +kernel
theorem dX1_count_102 : decode cX1_count 102 = .ok (.if_icmp .ne 17, 3) := by decide +kernel
theorem dX1_count_105 : decode cX1_count 105 = .ok (.aload_n 0, 1) := by decide +kernel
theorem dX1_count_106 : decode cX1_count 106 = .ok (.aload_n 1, 1) := by decide +kernel
theorem dX1_count_107 : decode cX1_count 107 = .ok (.iload_n 2, 1) := by decide +kernel
theorem dX1_count_108 : decode cX1_count 108 = .ok (.aload_n 3, 1) := by decide +kernel
theorem dX1_count_109 : decode cX1_count 109 = .ok (.iload 4, 2) := by decide +kernel
theorem dX1_count_111 : decode cX1_count 111 = .ok (.iload 5, 2) := by decide +kernel
theorem dX1_count_113 : decode cX1_count 113 = .ok (.iload 6, 2) := by decide +kernel
theorem dX1_count_115 : decode cX1_count 115 = .ok (.invokevirtual 74, 3) := by decide +kernel
theorem dX1_count_118 : decode cX1_count 118 = .ok (.ireturn, 1) := by decide +kernel
theorem dX1_count_119 : decode cX1_count 119 = .ok (.aload_n 3, 1) := by decide +kernel
theorem dX1_count_120 : decode cX1_count 120 = .ok (.aload_n 0, 1) := by decide +kernel
theorem dX1_count_121 : decode cX1_count 121 = .ok (.getfield 9, 3) := by decide +kernel
theorem dX1_count_124 : decode cX1_count 124 = .ok (.iload 8, 2) := by decide +kernel
theorem dX1_count_126 : decode cX1_count 126 = .ok (.iaload, 1) := by decide +kernel
theorem dX1_count_127 : decode cX1_count 127 = .ok (.iload 4, 2) := by decide +kernel
theorem dX1_count_129 : decode cX1_count 129 = .ok (.iload 9, 2) := by decide +kernel
theorem dX1_count_131 : decode cX1_count 131 = .ok (.invokestatic 77, 3) := by decide +kernel
theorem dX1_count_134 : decode cX1_count 134 = .ok (.istore 10, 2) := by decide +kernel
theorem dX1_count_136 : decode cX1_count 136 = .ok (.iload 10, 2) := by decide +kernel
theorem dX1_count_138 : decode cX1_count 138 = .ok (.ifCond .eq 24, 3) := by decide +kernel
theorem dX1_count_141 : decode cX1_count 141 = .ok (.aload_n 0, 1) := by decide +kernel
theorem dX1_count_142 : decode cX1_count 142 = .ok (.aload_n 1, 1) := by decide +kernel
theorem dX1_count_143 : decode cX1_count 143 = .ok (.iload_n 2, 1) := by decide +kernel
theorem dX1_count_144 : decode cX1_count 144 = .ok (.iconst 1, 1) := by decide +kernel
theorem dX1_count_145 : decode cX1_count 145 = .ok (.iadd, 1) := by decide +kernel
theorem dX1_count_146 : decode cX1_count 146 = .ok (.aload_n 3, 1) := by decide +kernel
theorem dX1_count_147 : decode cX1_count 147 = .ok (.iload 4, 2) := by decide +kernel
theorem dX1_count_149 : decode cX1_count 149 = .ok (.iload 9, 2) := by decide +kernel
theorem dX1_count_151 : decode cX1_count 151 = .ok (.iadd, 1) := by decide +kernel
theorem dX1_count_152 : decode cX1_count 152 = .ok (.iload 5, 2) := by decide +kernel
theorem dX1_count_154 : decode cX1_count 154 = .ok (.iload 6, 2) := by decide +kernel
theorem dX1_count_156 : decode cX1_count 156 = .ok (.invokevirtual 42, 3) := by decide +kernel
theorem dX1_count_159 : decode cX1_count 159 = .ok (.goto 4, 3) := by decide +kernel
theorem dX1_count_162 : decode cX1_count 162 = .ok (.iconst 0, 1) := by decide +kernel
theorem dX1_count_163 : decode cX1_count 163 = .ok (.ireturn, 1) := by decide +kernel
theorem dX1_countBindings_0 : decode cX1_countBindings 0 = .ok (.aload_n 1, 1) := by decide +kernel
theorem dX1_countBindings_1 : decode cX1_countBindings 1 = .ok (.iload_n 2, 1) := by decide +kernel
theorem dX1_countBindings_2 : decode cX1_countBindings 2 = .ok (.invokevirtual 55, 3) := by decide +kernel
theorem dX1_countBindings_5 : decode cX1_countBindings 5 = .ok (.bipush 10, 2) := by decide +kernel
theorem dX1_countBindings_7 : decode cX1_countBindings 7 = .ok (.isub, 1) := by decide +kernel
theorem dX1_countBindings_8 : decode cX1_countBindings 8 = .ok (.istore 7, 2) := by decide +kernel
theorem dX1_countBindings_10 : decode cX1_countBindings 10 = .ok (.iload 7, 2) := by decide +kernel
theorem dX1_countBindings_12 : decode cX1_countBindings 12 = .ok (.invokestatic 52, 3) := by decide +kernel
theorem dX1_countBindings_15 : decode cX1_countBindings 15 = .ok (.ifCond .eq 14, 3) := by decide +kernel
theorem dX1_countBindings_18 : decode cX1_countBindings 18 = .ok (.aload_n 0, 1) := by decide +kernel
theorem dX1_countBindings_19 : decode cX1_countBindings 19 = .ok (.getfield 18, 3) := by decide +kernel
theorem dX1_countBindings_22 : decode cX1_countBindings 22 = .ok (.iload 7, 2) := by decide +kernel
theorem dX1_countBindings_24 : decode cX1_countBindings 24 = .ok (.iaload, 1) := by decide +kernel
theorem dX1_countBindings_25 : decode cX1_countBindings 25 = .ok (.iconst 1, 1) := by decide +kernel
theorem dX1_countBindings_26 : decode cX1_countBindings 26 = .ok (.if_icmp .ge 5, 3) := by decide +kernel
theorem dX1_countBindings_29 : decode cX1_countBindings 29 = .ok (.iconst 0, 1) := by decide +kernel
theorem dX1_countBindings_30 : decode cX1_countBindings 30 = .ok (.ireturn, 1) := by decide +kernel
theorem dX1_countBindings_31 : decode cX1_countBindings 31 = .ok (.iload 7, 2) := by decide +kernel
theorem dX1_countBindings_33 : decode cX1_countBindings 33 = .ok (.aload_n 0, 1) := by decide +kernel
theorem dX1_countBindings_34 : decode cX1_countBindings 34 = .ok (.getfield 65, 3) := by decide +kernel
theorem dX1_countBindings_37 : decode cX1_countBindings 37 = .ok (.iconst 1, 1) := by decide +kernel
theorem dX1_countBindings_38 : decode cX1_countBindings 38 = .ok (.isub, 1) := by decide +kernel
theorem dX1_countBindings_39 : decode cX1_countBindings 39 = .ok (.if_icmp .ne 7, 3) := by decide +kernel
theorem dX1_countBindings_42 : decode cX1_countBindings 42 = .ok (.iconst 1, 1) := by decide +kernel
theorem dX1_countBindings_43 : decode cX1_countBindings 43 = .ok (.goto 4, 3) := by decide +kernel
theorem dX1_countBindings_46 : decode cX1_countBindings 46 = .ok (.iconst 0, 1) := by decide +kernel
theorem dX1_countBindings_47 : decode cX1_countBindings 47 = .ok (.istore 8, 2) := by decide +kernel
theorem dX1_countBindings_49 : decode cX1_countBindings 49 = .ok (.iload 5, 2) := by decide +kernel
theorem dX1_countBindings_51 : decode cX1_countBindings 51 = .ok (.aload_n 0, 1) := by decide +kernel
theorem dX1_countBindings_52 : decode cX1_countBindings 52 = .ok (.getfield 18, 3) := by decide +kernel
theorem dX1_countBindings_55 : decode cX1_countBindings 55 = .ok (.iload 7, 2) := by decide +kernel
theorem dX1_countBindings_57 : decode cX1_countBindings 57 = .ok (.iaload, 1) := by decide +kernel
theorem dX1_countBindings_58 : decode cX1_countBindings 58 = .ok (.idiv, 1) := by decide +kernel
theorem dX1_countBindings_59 : decode cX1_countBindings 59 = .ok (.istore 9, 2) := by decide +kernel
theorem dX1_countBindings_61 : decode cX1_countBindings 61 = .ok (.iconst 0, 1) := by decide +kernel
theorem dX1_countBindings_62 : decode cX1_countBindings 62 = .ok (.istore 10, 2) := by decide +kernel
theorem dX1_countBindings_64 : decode cX1_countBindings 64 = .ok (.aload_n 0, 1) := by decide +kernel
theorem dX1_countBindings_65 : decode cX1_countBindings 65 = .ok (.getfield 9, 3) := by decide +kernel
theorem dX1_countBindings_68 : decode cX1_countBindings 68 = .ok (.iload 7, 2) := by decide +kernel
theorem dX1_countBindings_70 : decode cX1_countBindings 70 = .ok (.iload 4, 2) := by decide +kernel
theorem dX1_countBindings_72 : decode cX1_countBindings 72 = .ok (.iastore, 1) := by decide +kernel
theorem dX1_countBindings_73 : decode cX1_countBindings 73 = .ok (.iconst 0, 1) := by decide +kernel
theorem dX1_countBindings_74 : decode cX1_countBindings 74 = .ok (.istore 11, 2) := by decide +kernel
theorem dX1_countBindings_76 : decode cX1_countBindings 76 = .ok (.iload 11, 2) := by decide +kernel
theorem dX1_countBindings_78 : decode cX1_countBindings 78 = .ok (.iload 9, 2) := by decide +kernel
theorem dX1_countBindings_80 : decode cX1_countBindings 80 = .ok (.if_icmp .gt 89, 3) := by decide +kernel
theorem dX1_countBindings_83 : decode cX1_countBindings 83 = .ok (.iload 10, 2) := by decide +kernel
theorem dX1_countBindings_85 : decode cX1_countBindings 85 = .ok (.iload 6, 2) := by decide +kernel
theorem dX1_countBindings_87 : decode cX1_countBindings 87 = .ok (.if_icmp .ge 82, 3) := by decide +kernel
theorem dX1_countBindings_90 : decode cX1_countBindings 90 = .ok (.iload 5, 2) := by decide +kernel
theorem dX1_countBindings_92 : decode cX1_countBindings 92 = .ok (.iload 11, 2) := by decide +kernel
theorem dX1_countBindings_94 : decode cX1_countBindings 94 = .ok (.aload_n 0, 1) := by decide +kernel
theorem dX1_countBindings_95 : decode cX1_countBindings 95 = .ok (.getfield 18, 3) := by decide +kernel
theorem dX1_countBindings_98 : decode cX1_countBindings 98 = .ok (.iload 7, 2) := by decide +kernel
theorem dX1_countBindings_100 : decode cX1_countBindings 100 = .ok (.iaload, 1) := by decide +kernel
theorem dX1_countBindings_101 : decode cX1_countBindings 101 = .ok (.imul, 1) := by decide +kernel
theorem dX1_countBindings_102 : decode cX1_countBindings 102 = .ok (.isub, 1) := by decide +kernel
theorem dX1_countBindings_103 : decode cX1_countBindings 103 = .ok (.istore 12, 2) := by decide +kernel
theorem dX1_countBindings_105 : decode cX1_countBindings 105 = .ok (.iload 8, 2) := by decide +kernel
theorem dX1_countBindings_107 : decode cX1_countBindings 107 = .ok (.ifCond .eq 12, 3) := by decide +kernel
theorem dX1_countBindings_110 : decode cX1_countBindings 110 = .ok (.iload 12, 2) := by decide +kernel
theorem dX1_countBindings_112 : decode cX1_countBindings 112 = .ok (.aload_n 0, 1) := by decide +kernel
theorem dX1_countBindings_113 : decode cX1_countBindings 113 = .ok (.getfield 35, 3) := by decide +kernel
theorem dX1_countBindings_116 : decode cX1_countBindings 116 = .ok (.if_icmp .gt 47, 3) := by decide +kernel
theorem dX1_countBindings_119 : decode cX1_countBindings 119 = .ok (.aload_n 0, 1) := by decide +kernel
theorem dX1_countBindings_120 : decode cX1_countBindings 120 = .ok (.getfield 62, 3) := by decide +kernel
theorem dX1_countBindings_123 : decode cX1_countBindings 123 = .ok (.iload 11, 2) := by decide +kernel
theorem dX1_countBindings_125 : decode cX1_countBindings 125 = .ok (.iadd, 1) := by decide +kernel
theorem dX1_countBindings_126 : decode cX1_countBindings 126 = .ok (.istore 13, 2) := by decide +kernel
theorem dX1_countBindings_128 : decode cX1_countBindings 128 = .ok (.aload_n 0, 1) := by decide +kernel
theorem dX1_countBindings_129 : decode cX1_countBindings 129 = .ok (.getfield 15, 3) := by decide +kernel
theorem dX1_countBindings_132 : decode cX1_countBindings 132 = .ok (.iload 7, 2) := by decide +kernel
theorem dX1_countBindings_134 : decode cX1_countBindings 134 = .ok (.iload 13, 2) := by decide +kernel
theorem dX1_countBindings_136 : decode cX1_countBindings 136 = .ok (.iastore, 1) := by decide +kernel
theorem dX1_countBindings_137 : decode cX1_countBindings 137 = .ok (.iload 10, 2) := by decide +kernel
theorem dX1_countBindings_139 : decode cX1_countBindings 139 = .ok (.aload_n 0, 1) := by decide +kernel
theorem dX1_countBindings_140 : decode cX1_countBindings 140 = .ok (.aload_n 1, 1) := by decide +kernel
theorem dX1_countBindings_141 : decode cX1_countBindings 141 = .ok (.iload_n 2, 1) := by decide +kernel
theorem dX1_countBindings_142 : decode cX1_countBindings 142 = .ok (.iconst 1, 1) := by decide +kernel
theorem dX1_countBindings_143 : decode cX1_countBindings 143 = .ok (.iadd, 1) := by decide +kernel
theorem dX1_countBindings_144 : decode cX1_countBindings 144 = .ok (.aload_n 3, 1) := by decide +kernel
theorem dX1_countBindings_145 : decode cX1_countBindings 145 = .ok (.iload 4, 2) := by decide +kernel
theorem dX1_countBindings_147 : decode cX1_countBindings 147 = .ok (.iload 13, 2) := by decide +kernel
theorem dX1_countBindings_149 : decode cX1_countBindings 149 = .ok (.iadd, 1) := by decide +kernel
theorem dX1_countBindings_150 : decode cX1_countBindings 150 = .ok (.iload 12, 2) := by decide +kernel
theorem dX1_countBindings_152 : decode cX1_countBindings 152 = .ok (.iload 6, 2) := by decide +kernel
theorem dX1_countBindings_154 : decode cX1_countBindings 154 = .ok (.iload 10, 2) := by decide +kernel
theorem dX1_countBindings_156 : decode cX1_countBindings 156 = .ok (.isub, 1) := by decide +kernel
theorem dX1_countBindings_157 : decode cX1_countBindings 157 = .ok (.invokevirtual 42, 3) := by decide +kernel
theorem dX1_countBindings_160 : decode cX1_countBindings 160 = .ok (.iadd, 1) := by decide +kernel
theorem dX1_countBindings_161 : decode cX1_countBindings 161 = .ok (.istore 10, 2) := by decide +kernel
theorem dX1_countBindings_163 : decode cX1_countBindings 163 = .ok (.iinc 11 1, 3) := by decide +kernel
theorem dX1_countBindings_166 : decode cX1_countBindings 166 = .ok (.goto (-90), 3) := by decide +kernel
theorem dX1_countBindings_169 : decode cX1_countBindings 169 = .ok (.iload 10, 2) := by decide +kernel
theorem dX1_countBindings_171 : decode cX1_countBindings 171 = .ok (.iload 6, 2) := by decide +kernel
theorem dX1_countBindings_173 : decode cX1_countBindings 173 = .ok (.if_icmp .ge 11, 3) := by decide +kernel
theorem dX1_countBindings_176 : decode cX1_countBindings 176 = .ok (.aload_n 0, 1) := by decide +kernel
theorem dX1_countBindings_177 : decode cX1_countBindings 177 = .ok (.getfield 15, 3) := by decide +kernel
theorem dX1_countBindings_180 : decode cX1_countBindings 180 = .ok (.iload 7, 2) := by decide +kernel
theorem dX1_countBindings_182 : decode cX1_countBindings 182 = .ok (.iconst (-1), 1) := by decide +kernel
theorem dX1_countBindings_183 : decode cX1_countBindings 183 = .ok (.iastore, 1) := by decide +kernel
theorem dX1_countBindings_184 : decode cX1_countBindings 184 = .ok (.iload 10, 2) := by decide +kernel
theorem dX1_countBindings_186 : decode cX1_countBindings 186 = .ok (.ireturn, 1) := by decide +kernel
theorem dX1_isSame_0 : decode cX1_isSame 0 = .ok (.iconst 0, 1) := by decide +kernel
theorem dX1_isSame_1 : decode cX1_isSame 1 = .ok (.istore 4, 2) := by decide +kernel
theorem dX1_isSame_3 : decode cX1_isSame 3 = .ok (.iload 4, 2) := by decide +kernel
theorem dX1_isSame_5 : decode cX1_isSame 5 = .ok (.iload_n 3, 1) := by decide +kernel
theorem dX1_isSame_6 : decode cX1_isSame 6 = .ok (.if_icmp .ge 30, 3) := by decide +kernel
theorem dX1_isSame_9 : decode cX1_isSame 9 = .ok (.aload_n 0, 1) := by decide +kernel
theorem dX1_isSame_10 : decode cX1_isSame 10 = .ok (.iload_n 1, 1) := by decide +kernel
theorem dX1_isSame_11 : decode cX1_isSame 11 = .ok (.iload 4, 2) := by decide +kernel
theorem dX1_isSame_13 : decode cX1_isSame 13 = .ok (.iadd, 1) := by decide +kernel
theorem dX1_isSame_14 : decode cX1_isSame 14 = .ok (.invokevirtual 55, 3) := by decide +kernel
theorem dX1_isSame_17 : decode cX1_isSame 17 = .ok (.aload_n 0, 1) := by decide +kernel
theorem dX1_isSame_18 : decode cX1_isSame 18 = .ok (.iload_n 2, 1) := by decide +kernel
theorem dX1_isSame_19 : decode cX1_isSame 19 = .ok (.iload 4, 2) := by decide +kernel
theorem dX1_isSame_21 : decode cX1_isSame 21 = .ok (.iadd, 1) := by decide +kernel
theorem dX1_isSame_22 : decode cX1_isSame 22 = .ok (.invokevirtual 55, 3) := by decide +kernel
theorem dX1_isSame_25 : decode cX1_isSame 25 = .ok (.if_icmp .eq 5, 3) := by decide +kernel
theorem dX1_isSame_28 : decode cX1_isSame 28 = .ok (.iconst 0, 1) := by decide +kernel
theorem dX1_isSame_29 : decode cX1_isSame 29 = .ok (.ireturn, 1) := by decide +kernel
theorem dX1_isSame_30 : decode cX1_isSame 30 = .ok (.iinc 4 1, 3) := by decide +kernel
theorem dX1_isSame_33 : decode cX1_isSame 33 = .ok (.goto (-30), 3) := by decide +kernel
theorem dX1_isSame_36 : decode cX1_isSame 36 = .ok (.iconst 1, 1) := by decide +kernel
theorem dX1_isSame_37 : decode cX1_isSame 37 = .ok (.ireturn, 1) := by decide +kernel
theorem dX2_init_0 : decode cX2_init 0 = .ok (.aload_n 0, 1) := by decide +kernel
theorem dX2_init_1 : decode cX2_init 1 = .ok (.invokespecial 3, 3) := by decide +kernel
theorem dX2_init_4 : decode cX2_init 4 = .ok (.aload_n 0, 1) := by decide +kernel
theorem dX2_init_5 : decode cX2_init 5 = .ok (.iconst 0, 1) := by decide +kernel
theorem dX2_init_6 : decode cX2_init 6 = .ok (.putfield 9, 3) := by decide +kernel
theorem dX2_init_9 : decode cX2_init 9 = .ok (.aload_n 0, 1) := by decide +kernel
theorem dX2_init_10 : decode cX2_init 10 = .ok (.iload_n 1, 1) := by decide +kernel
theorem dX2_init_11 : decode cX2_init 11 = .ok (.iconst 0, 1) := by decide +kernel
theorem dX2_init_12 : decode cX2_init 12 = .ok (.invokestatic 15, 3) := by decide +kernel
theorem dX2_init_15 : decode cX2_init 15 = .ok (.newarray .int, 2) := by decide +kernel
theorem dX2_init_17 : decode cX2_init 17 = .ok (.putfield 21, 3) := by decide +kernel
theorem dX2_init_20 : decode cX2_init 20 = .ok (.return_, 1) := by decide +kernel
theorem dX2_hasIndex_0 : decode cX2_hasIndex 0 = .ok (.iload_n 1, 1) := by decide +kernel
theorem dX2_hasIndex_1 : decode cX2_hasIndex 1 = .ok (.ifCond .lt 24, 3) := by decide +kernel
theorem dX2_hasIndex_4 : decode cX2_hasIndex 4 = .ok (.iload_n 1, 1) := by decide +kernel
theorem dX2_hasIndex_5 : decode cX2_hasIndex 5 = .ok (.aload_n 0, 1) := by decide +kernel
theorem dX2_hasIndex_6 : decode cX2_hasIndex 6 = .ok (.getfield 9, 3) := by decide +kernel
theorem dX2_hasIndex_9 : decode cX2_hasIndex 9 = .ok (.if_icmp .ge 16, 3) := by decide +kernel
theorem dX2_hasIndex_12 : decode cX2_hasIndex 12 = .ok (.iload_n 1, 1) := by decide +kernel
theorem dX2_hasIndex_13 : decode cX2_hasIndex 13 = .ok (.aload_n 0, 1) := by decide +kernel
theorem dX2_hasIndex_14 : decode cX2_hasIndex 14 = .ok (.getfield 21, 3) := by decide +kernel
theorem dX2_hasIndex_17 : decode cX2_hasIndex 17 = .ok (.arraylength, 1) := by decide +kernel
theorem dX2_hasIndex_18 : decode cX2_hasIndex 18 = .ok (.if_icmp .ge 7, 3) := by decide +kernel
theorem dX2_hasIndex_21 : decode cX2_hasIndex 21 = .ok (.iconst 1, 1) := by decide +kernel
theorem dX2_hasIndex_22 : decode cX2_hasIndex 22 = .ok (.goto 4, 3) := by decide +kernel
theorem dX2_hasIndex_25 : decode cX2_hasIndex 25 = .ok (.iconst 0, 1) := by decide +kernel
theorem dX2_hasIndex_26 : decode cX2_hasIndex 26 = .ok (.ireturn, 1) := by decide +kernel
theorem dX2_hasRange_0 : decode cX2_hasRange 0 = .ok (.iload_n 1, 1) := by decide +kernel
theorem dX2_hasRange_1 : decode cX2_hasRange 1 = .ok (.ifCond .lt 29, 3) := by decide +kernel
theorem dX2_hasRange_4 : decode cX2_hasRange 4 = .ok (.iload_n 1, 1) := by decide +kernel
theorem dX2_hasRange_5 : decode cX2_hasRange 5 = .ok (.aload_n 0, 1) := by decide +kernel
theorem dX2_hasRange_6 : decode cX2_hasRange 6 = .ok (.getfield 9, 3) := by decide +kernel
theorem dX2_hasRange_9 : decode cX2_hasRange 9 = .ok (.if_icmp .gt 21, 3) := by decide +kernel
theorem dX2_hasRange_12 : decode cX2_hasRange 12 = .ok (.iload_n 2, 1) := by decide +kernel
theorem dX2_hasRange_13 : decode cX2_hasRange 13 = .ok (.ifCond .lt 17, 3) := by decide +kernel
theorem dX2_hasRange_16 : decode cX2_hasRange 16 = .ok (.iload_n 2, 1) := by decide +kernel
theorem dX2_hasRange_17 : decode cX2_hasRange 17 = .ok (.aload_n 0, 1) := by decide +kernel
theorem dX2_hasRange_18 : decode cX2_hasRange 18 = .ok (.getfield 9, 3) := by decide +kernel
theorem dX2_hasRange_21 : decode cX2_hasRange 21 = .ok (.iload_n 1, 1) := by decide +kernel
theorem dX2_hasRange_22 : decode cX2_hasRange 22 = .ok (.isub, 1) := by decide +kernel
theorem dX2_hasRange_23 : decode cX2_hasRange 23 = .ok (.if_icmp .gt 7, 3) := by decide +kernel
theorem dX2_hasRange_26 : decode cX2_hasRange 26 = .ok (.iconst 1, 1) := by decide +kernel
theorem dX2_hasRange_27 : decode cX2_hasRange 27 = .ok (.goto 4, 3) := by decide +kernel
theorem dX2_hasRange_30 : decode cX2_hasRange 30 = .ok (.iconst 0, 1) := by decide +kernel
theorem dX2_hasRange_31 : decode cX2_hasRange 31 = .ok (.ireturn, 1) := by decide +kernel
theorem dX2_at_0 : decode cX2_at 0 = .ok (.iload_n 1, 1) := by decide +kernel
theorem dX2_at_1 : decode cX2_at 1 = .ok (.ifCond .lt 24, 3) := by decide +kernel
theorem dX2_at_4 : decode cX2_at 4 = .ok (.iload_n 1, 1) := by decide +kernel
theorem dX2_at_5 : decode cX2_at 5 = .ok (.aload_n 0, 1) := by decide +kernel
theorem dX2_at_6 : decode cX2_at 6 = .ok (.getfield 9, 3) := by decide +kernel
theorem dX2_at_9 : decode cX2_at 9 = .ok (.if_icmp .ge 16, 3) := by decide +kernel
theorem dX2_at_12 : decode cX2_at 12 = .ok (.iload_n 1, 1) := by decide +kernel
theorem dX2_at_13 : decode cX2_at 13 = .ok (.aload_n 0, 1) := by decide +kernel
theorem dX2_at_14 : decode cX2_at 14 = .ok (.getfield 21, 3) := by decide +kernel
theorem dX2_at_17 : decode cX2_at 17 = .ok (.arraylength, 1) := by decide +kernel
theorem dX2_at_18 : decode cX2_at 18 = .ok (.if_icmp .ge 7, 3) := by decide +kernel
theorem dX2_at_21 : decode cX2_at 21 = .ok (.iconst 1, 1) := by decide +kernel
theorem dX2_at_22 : decode cX2_at 22 = .ok (.goto 4, 3) := by decide +kernel
theorem dX2_at_25 : decode cX2_at 25 = .ok (.iconst 0, 1) := by decide +kernel
theorem dX2_at_26 : decode cX2_at 26 = .ok (.istore_n 2, 1) := by decide +kernel
theorem dX2_at_27 : decode cX2_at 27 = .ok (.iload_n 2, 1) := by decide +kernel
theorem dX2_at_28 : decode cX2_at 28 = .ok (.ifCond .eq 12, 3) := by decide +kernel
theorem dX2_at_31 : decode cX2_at 31 = .ok (.aload_n 0, 1) := by decide +kernel
theorem dX2_at_32 : decode cX2_at 32 = .ok (.getfield 21, 3) := by decide +kernel
theorem dX2_at_35 : decode cX2_at 35 = .ok (.iload_n 1, 1) := by decide +kernel
theorem dX2_at_36 : decode cX2_at 36 = .ok (.iaload, 1) := by decide +kernel
theorem dX2_at_37 : decode cX2_at 37 = .ok (.goto 4, 3) := by decide +kernel
theorem dX2_at_40 : decode cX2_at 40 = .ok (.iconst (-1), 1) := by decide +kernel
theorem dX2_at_41 : decode cX2_at 41 = .ok (.ireturn, 1) := by decide +kernel
theorem dX2_put_0 : decode cX2_put 0 = .ok (.aload_n 0, 1) := by decide +kernel
theorem dX2_put_1 : decode cX2_put 1 = .ok (.iload_n 1, 1) := by decide +kernel
theorem dX2_put_2 : decode cX2_put 2 = .ok (.invokevirtual 25, 3) := by decide +kernel
theorem dX2_put_5 : decode cX2_put 5 = .ok (.ifCond .eq 10, 3) := by decide +kernel
theorem dX2_put_8 : decode cX2_put 8 = .ok (.aload_n 0, 1) := by decide +kernel
theorem dX2_put_9 : decode cX2_put 9 = .ok (.getfield 21, 3) := by decide +kernel
theorem dX2_put_12 : decode cX2_put 12 = .ok (.iload_n 1, 1) := by decide +kernel
theorem dX2_put_13 : decode cX2_put 13 = .ok (.iload_n 2, 1) := by decide +kernel
theorem dX2_put_14 : decode cX2_put 14 = .ok (.iastore, 1) := by decide +kernel
theorem dX2_put_15 : decode cX2_put 15 = .ok (.return_, 1) := by decide +kernel
theorem dX2_add_0 : decode cX2_add 0 = .ok (.aload_n 0, 1) := by decide +kernel
theorem dX2_add_1 : decode cX2_add 1 = .ok (.getfield 9, 3) := by decide +kernel
theorem dX2_add_4 : decode cX2_add 4 = .ok (.ifCond .lt 15, 3) := by decide +kernel
theorem dX2_add_7 : decode cX2_add 7 = .ok (.aload_n 0, 1) := by decide +kernel
theorem dX2_add_8 : decode cX2_add 8 = .ok (.getfield 9, 3) := by decide +kernel
theorem dX2_add_11 : decode cX2_add 11 = .ok (.aload_n 0, 1) := by decide +kernel
theorem dX2_add_12 : decode cX2_add 12 = .ok (.getfield 21, 3) := by decide +kernel
theorem dX2_add_15 : decode cX2_add 15 = .ok (.arraylength, 1) := by decide +kernel
theorem dX2_add_16 : decode cX2_add 16 = .ok (.if_icmp .lt 5, 3) := by decide +kernel
theorem dX2_add_19 : decode cX2_add 19 = .ok (.iconst 0, 1) := by decide +kernel
theorem dX2_add_20 : decode cX2_add 20 = .ok (.ireturn, 1) := by decide +kernel
theorem dX2_add_21 : decode cX2_add 21 = .ok (.aload_n 0, 1) := by decide +kernel
theorem dX2_add_22 : decode cX2_add 22 = .ok (.getfield 21, 3) := by decide +kernel
theorem dX2_add_25 : decode cX2_add 25 = .ok (.aload_n 0, 1) := by decide +kernel
theorem dX2_add_26 : decode cX2_add 26 = .ok (.getfield 9, 3) := by decide +kernel
theorem dX2_add_29 : decode cX2_add 29 = .ok (.iload_n 1, 1) := by decide +kernel
theorem dX2_add_30 : decode cX2_add 30 = .ok (.iastore, 1) := by decide +kernel
theorem dX2_add_31 : decode cX2_add 31 = .ok (.aload_n 0, 1) := by decide +kernel
theorem dX2_add_32 : decode cX2_add 32 = .ok (.dup, 1) := by decide +kernel
theorem dX2_add_33 : decode cX2_add 33 = .ok (.getfield 9, 3) := by decide +kernel
theorem dX2_add_36 : decode cX2_add 36 = .ok (.iconst 1, 1) := by decide +kernel
theorem dX2_add_37 : decode cX2_add 37 = .ok (.iadd, 1) := by decide +kernel
theorem dX2_add_38 : decode cX2_add 38 = .ok (.putfield 9, 3) := by decide +kernel
theorem dX2_add_41 : decode cX2_add 41 = .ok (.iconst 1, 1) := by decide +kernel
theorem dX2_add_42 : decode cX2_add 42 = .ok (.ireturn, 1) := by decide +kernel
theorem dX2_addAll_0 : decode cX2_addAll 0 = .ok (.iconst 1, 1) := by decide +kernel
theorem dX2_addAll_1 : decode cX2_addAll 1 = .ok (.istore_n 2, 1) := by decide +kernel
theorem dX2_addAll_2 : decode cX2_addAll 2 = .ok (.iconst 0, 1) := by decide +kernel
theorem dX2_addAll_3 : decode cX2_addAll 3 = .ok (.istore_n 3, 1) := by decide +kernel
theorem dX2_addAll_4 : decode cX2_addAll 4 = .ok (.iload_n 3, 1) := by decide +kernel
theorem dX2_addAll_5 : decode cX2_addAll 5 = .ok (.aload_n 1, 1) := by decide +kernel
theorem dX2_addAll_6 : decode cX2_addAll 6 = .ok (.getfield 9, 3) := by decide +kernel
theorem dX2_addAll_9 : decode cX2_addAll 9 = .ok (.if_icmp .ge 23, 3) := by decide +kernel
theorem dX2_addAll_12 : decode cX2_addAll 12 = .ok (.iload_n 2, 1) := by decide +kernel
theorem dX2_addAll_13 : decode cX2_addAll 13 = .ok (.ifCond .eq 19, 3) := by decide +kernel
theorem dX2_addAll_16 : decode cX2_addAll 16 = .ok (.aload_n 0, 1) := by decide +kernel
theorem dX2_addAll_17 : decode cX2_addAll 17 = .ok (.aload_n 1, 1) := by decide +kernel
theorem dX2_addAll_18 : decode cX2_addAll 18 = .ok (.iload_n 3, 1) := by decide +kernel
theorem dX2_addAll_19 : decode cX2_addAll 19 = .ok (.invokevirtual 29, 3) := by decide +kernel
theorem dX2_addAll_22 : decode cX2_addAll 22 = .ok (.invokevirtual 33, 3) := by decide +kernel
theorem dX2_addAll_25 : decode cX2_addAll 25 = .ok (.istore_n 2, 1) := by decide +kernel
theorem dX2_addAll_26 : decode cX2_addAll 26 = .ok (.iinc 3 1, 3) := by decide +kernel
theorem dX2_addAll_29 : decode cX2_addAll 29 = .ok (.goto (-25), 3) := by decide +kernel
theorem dX2_addAll_32 : decode cX2_addAll 32 = .ok (.iload_n 2, 1) := by decide +kernel
theorem dX2_addAll_33 : decode cX2_addAll 33 = .ok (.ireturn, 1) := by decide +kernel
theorem dX2_removeLast_0 : decode cX2_removeLast 0 = .ok (.aload_n 0, 1) := by decide +kernel
theorem dX2_removeLast_1 : decode cX2_removeLast 1 = .ok (.getfield 9, 3) := by decide +kernel
theorem dX2_removeLast_4 : decode cX2_removeLast 4 = .ok (.ifCond .le 13, 3) := by decide +kernel
theorem dX2_removeLast_7 : decode cX2_removeLast 7 = .ok (.aload_n 0, 1) := by decide +kernel
theorem dX2_removeLast_8 : decode cX2_removeLast 8 = .ok (.dup, 1) := by decide +kernel
theorem dX2_removeLast_9 : decode cX2_removeLast 9 = .ok (.getfield 9, 3) := by decide +kernel
theorem dX2_removeLast_12 : decode cX2_removeLast 12 = .ok (.iconst 1, 1) := by decide +kernel
theorem dX2_removeLast_13 : decode cX2_removeLast 13 = .ok (.isub, 1) := by decide +kernel
theorem dX2_removeLast_14 : decode cX2_removeLast 14 = .ok (.putfield 9, 3) := by decide +kernel
theorem dX2_removeLast_17 : decode cX2_removeLast 17 = .ok (.return_, 1) := by decide +kernel
theorem dX2_clear_0 : decode cX2_clear 0 = .ok (.aload_n 0, 1) := by decide +kernel
theorem dX2_clear_1 : decode cX2_clear 1 = .ok (.iconst 0, 1) := by decide +kernel
theorem dX2_clear_2 : decode cX2_clear 2 = .ok (.putfield 9, 3) := by decide +kernel
theorem dX2_clear_5 : decode cX2_clear 5 = .ok (.return_, 1) := by decide +kernel
theorem dX2_setTo_0 : decode cX2_setTo 0 = .ok (.aload_n 1, 1) := by decide +kernel
theorem dX2_setTo_1 : decode cX2_setTo 1 = .ok (.getfield 9, 3) := by decide +kernel
theorem dX2_setTo_4 : decode cX2_setTo 4 = .ok (.aload_n 0, 1) := by decide +kernel
theorem dX2_setTo_5 : decode cX2_setTo 5 = .ok (.getfield 21, 3) := by decide +kernel
theorem dX2_setTo_8 : decode cX2_setTo 8 = .ok (.arraylength, 1) := by decide +kernel
theorem dX2_setTo_9 : decode cX2_setTo 9 = .ok (.invokestatic 36, 3) := by decide +kernel
theorem dX2_setTo_12 : decode cX2_setTo 12 = .ok (.istore_n 2, 1) := by decide +kernel
theorem dX2_setTo_13 : decode cX2_setTo 13 = .ok (.iconst 0, 1) := by decide +kernel
theorem dX2_setTo_14 : decode cX2_setTo 14 = .ok (.istore_n 3, 1) := by decide +kernel
theorem dX2_setTo_15 : decode cX2_setTo 15 = .ok (.iload_n 3, 1) := by decide +kernel
theorem dX2_setTo_16 : decode cX2_setTo 16 = .ok (.iload_n 2, 1) := by decide +kernel
theorem dX2_setTo_17 : decode cX2_setTo 17 = .ok (.if_icmp .ge 20, 3) := by decide +kernel
theorem dX2_setTo_20 : decode cX2_setTo 20 = .ok (.aload_n 0, 1) := by decide +kernel
theorem dX2_setTo_21 : decode cX2_setTo 21 = .ok (.getfield 21, 3) := by decide +kernel
theorem dX2_setTo_24 : decode cX2_setTo 24 = .ok (.iload_n 3, 1) := by decide +kernel
theorem dX2_setTo_25 : decode cX2_setTo 25 = .ok (.aload_n 1, 1) := by decide +kernel
theorem dX2_setTo_26 : decode cX2_setTo 26 = .ok (.iload_n 3, 1) := by decide +kernel
theorem dX2_setTo_27 : decode cX2_setTo 27 = .ok (.invokevirtual 29, 3) := by decide +kernel
theorem dX2_setTo_30 : decode cX2_setTo 30 = .ok (.iastore, 1) := by decide +kernel
theorem dX2_setTo_31 : decode cX2_setTo 31 = .ok (.iinc 3 1, 3) := by decide +kernel
theorem dX2_setTo_34 : decode cX2_setTo 34 = .ok (.goto (-19), 3) := by decide +kernel
theorem dX2_setTo_37 : decode cX2_setTo 37 = .ok (.aload_n 0, 1) := by decide +kernel
theorem dX2_setTo_38 : decode cX2_setTo 38 = .ok (.iload_n 2, 1) := by decide +kernel
theorem dX2_setTo_39 : decode cX2_setTo 39 = .ok (.putfield 9, 3) := by decide +kernel
theorem dX2_setTo_42 : decode cX2_setTo 42 = .ok (.return_, 1) := by decide +kernel
theorem dX2_fillWith_0 : decode cX2_fillWith 0 = .ok (.aload_n 0, 1) := by decide +kernel
theorem dX2_fillWith_1 : decode cX2_fillWith 1 = .ok (.invokevirtual 39, 3) := by decide +kernel
theorem dX2_fillWith_4 : decode cX2_fillWith 4 = .ok (.iconst 0, 1) := by decide +kernel
theorem dX2_fillWith_5 : decode cX2_fillWith 5 = .ok (.istore_n 3, 1) := by decide +kernel
theorem dX2_fillWith_6 : decode cX2_fillWith 6 = .ok (.iload_n 3, 1) := by decide +kernel
theorem dX2_fillWith_7 : decode cX2_fillWith 7 = .ok (.iload_n 2, 1) := by decide +kernel
theorem dX2_fillWith_8 : decode cX2_fillWith 8 = .ok (.if_icmp .ge 15, 3) := by decide +kernel
theorem dX2_fillWith_11 : decode cX2_fillWith 11 = .ok (.aload_n 0, 1) := by decide +kernel
theorem dX2_fillWith_12 : decode cX2_fillWith 12 = .ok (.iload_n 1, 1) := by decide +kernel
theorem dX2_fillWith_13 : decode cX2_fillWith 13 = .ok (.invokevirtual 33, 3) := by decide +kernel
theorem dX2_fillWith_16 : decode cX2_fillWith 16 = .ok (.pop, 1) := by decide +kernel
theorem dX2_fillWith_17 : decode cX2_fillWith 17 = .ok (.iinc 3 1, 3) := by decide +kernel
theorem dX2_fillWith_20 : decode cX2_fillWith 20 = .ok (.goto (-14), 3) := by decide +kernel
theorem dX2_fillWith_23 : decode cX2_fillWith 23 = .ok (.return_, 1) := by decide +kernel
theorem dX2_countOf_0 : decode cX2_countOf 0 = .ok (.iconst 0, 1) := by decide +kernel
theorem dX2_countOf_1 : decode cX2_countOf 1 = .ok (.istore_n 2, 1) := by decide +kernel
theorem dX2_countOf_2 : decode cX2_countOf 2 = .ok (.iconst 0, 1) := by decide +kernel
theorem dX2_countOf_3 : decode cX2_countOf 3 = .ok (.istore_n 3, 1) := by decide +kernel
theorem dX2_countOf_4 : decode cX2_countOf 4 = .ok (.iload_n 3, 1) := by decide +kernel
theorem dX2_countOf_5 : decode cX2_countOf 5 = .ok (.aload_n 0, 1) := by decide +kernel
theorem dX2_countOf_6 : decode cX2_countOf 6 = .ok (.getfield 9, 3) := by decide +kernel
theorem dX2_countOf_9 : decode cX2_countOf 9 = .ok (.if_icmp .ge 21, 3) := by decide +kernel
theorem dX2_countOf_12 : decode cX2_countOf 12 = .ok (.aload_n 0, 1) := by decide +kernel
theorem dX2_countOf_13 : decode cX2_countOf 13 = .ok (.iload_n 3, 1) := by decide +kernel
theorem dX2_countOf_14 : decode cX2_countOf 14 = .ok (.invokevirtual 29, 3) := by decide +kernel
theorem dX2_countOf_17 : decode cX2_countOf 17 = .ok (.iload_n 1, 1) := by decide +kernel
theorem dX2_countOf_18 : decode cX2_countOf 18 = .ok (.if_icmp .ne 6, 3) := by decide +kernel
theorem dX2_countOf_21 : decode cX2_countOf 21 = .ok (.iinc 2 1, 3) := by decide +kernel
theorem dX2_countOf_24 : decode cX2_countOf 24 = .ok (.iinc 3 1, 3) := by decide +kernel
theorem dX2_countOf_27 : decode cX2_countOf 27 = .ok (.goto (-23), 3) := by decide +kernel
theorem dX2_countOf_30 : decode cX2_countOf 30 = .ok (.iload_n 2, 1) := by decide +kernel
theorem dX2_countOf_31 : decode cX2_countOf 31 = .ok (.ireturn, 1) := by decide +kernel
theorem dX2_letterCount_0 : decode cX2_letterCount 0 = .ok (.iconst 0, 1) := by decide +kernel
theorem dX2_letterCount_1 : decode cX2_letterCount 1 = .ok (.istore_n 1, 1) := by decide +kernel
theorem dX2_letterCount_2 : decode cX2_letterCount 2 = .ok (.iconst 0, 1) := by decide +kernel
theorem dX2_letterCount_3 : decode cX2_letterCount 3 = .ok (.istore_n 2, 1) := by decide +kernel
theorem dX2_letterCount_4 : decode cX2_letterCount 4 = .ok (.iload_n 2, 1) := by decide +kernel
theorem dX2_letterCount_5 : decode cX2_letterCount 5 = .ok (.aload_n 0, 1) := by decide +kernel
theorem dX2_letterCount_6 : decode cX2_letterCount 6 = .ok (.getfield 9, 3) := by decide +kernel
theorem dX2_letterCount_9 : decode cX2_letterCount 9 = .ok (.if_icmp .ge 22, 3) := by decide +kernel
theorem dX2_letterCount_12 : decode cX2_letterCount 12 = .ok (.aload_n 0, 1) := by decide +kernel
theorem dX2_letterCount_13 : decode cX2_letterCount 13 = .ok (.iload_n 2, 1) := by decide +kernel
theorem dX2_letterCount_14 : decode cX2_letterCount 14 = .ok (.invokevirtual 29, 3) := by decide +kernel
theorem dX2_letterCount_17 : decode cX2_letterCount 17 = .ok (.bipush 10, 2) := by decide +kernel
theorem dX2_letterCount_19 : decode cX2_letterCount 19 = .ok (.if_icmp .ge 6, 3) := by decide +kernel
theorem dX2_letterCount_22 : decode cX2_letterCount 22 = .ok (.iinc 1 1, 3) := by decide +kernel
theorem dX2_letterCount_25 : decode cX2_letterCount 25 = .ok (.iinc 2 1, 3) := by decide +kernel
theorem dX2_letterCount_28 : decode cX2_letterCount 28 = .ok (.goto (-24), 3) := by decide +kernel
theorem dX2_letterCount_31 : decode cX2_letterCount 31 = .ok (.iload_n 1, 1) := by decide +kernel
theorem dX2_letterCount_32 : decode cX2_letterCount 32 = .ok (.ireturn, 1) := by decide +kernel
theorem dX2_variablesIn_0 : decode cX2_variablesIn 0 = .ok (.iconst 0, 1) := by decide +kernel
theorem dX2_variablesIn_1 : decode cX2_variablesIn 1 = .ok (.istore_n 1, 1) := by decide +kernel
theorem dX2_variablesIn_2 : decode cX2_variablesIn 2 = .ok (.iconst 0, 1) := by decide +kernel
theorem dX2_variablesIn_3 : decode cX2_variablesIn 3 = .ok (.istore_n 2, 1) := by decide +kernel
theorem dX2_variablesIn_4 : decode cX2_variablesIn 4 = .ok (.iload_n 2, 1) := by decide +kernel
theorem dX2_variablesIn_5 : decode cX2_variablesIn 5 = .ok (.aload_n 0, 1) := by decide +kernel
theorem dX2_variablesIn_6 : decode cX2_variablesIn 6 = .ok (.getfield 9, 3) := by decide +kernel
theorem dX2_variablesIn_9 : decode cX2_variablesIn 9 = .ok (.if_icmp .ge 24, 3) := by decide +kernel
theorem dX2_variablesIn_12 : decode cX2_variablesIn 12 = .ok (.iload_n 1, 1) := by decide +kernel
theorem dX2_variablesIn_13 : decode cX2_variablesIn 13 = .ok (.aload_n 0, 1) := by decide +kernel
theorem dX2_variablesIn_14 : decode cX2_variablesIn 14 = .ok (.iload_n 2, 1) := by decide +kernel
theorem dX2_variablesIn_15 : decode cX2_variablesIn 15 = .ok (.invokevirtual 29, 3) := by decide +kernel
theorem dX2_variablesIn_18 : decode cX2_variablesIn 18 = .ok (.bipush 10, 2) := by decide +kernel
theorem dX2_variablesIn_20 : decode cX2_variablesIn 20 = .ok (.isub, 1) := by decide +kernel
theorem dX2_variablesIn_21 : decode cX2_variablesIn 21 = .ok (.iconst 1, 1) := by decide +kernel
theorem dX2_variablesIn_22 : decode cX2_variablesIn 22 = .ok (.iadd, 1) := by decide +kernel
theorem dX2_variablesIn_23 : decode cX2_variablesIn 23 = .ok (.invokestatic 15, 3) := by decide +kernel
theorem dX2_variablesIn_26 : decode cX2_variablesIn 26 = .ok (.istore_n 1, 1) := by decide +kernel
theorem dX2_variablesIn_27 : decode cX2_variablesIn 27 = .ok (.iinc 2 1, 3) := by decide +kernel
theorem dX2_variablesIn_30 : decode cX2_variablesIn 30 = .ok (.goto (-26), 3) := by decide +kernel
theorem dX2_variablesIn_33 : decode cX2_variablesIn 33 = .ok (.iload_n 1, 1) := by decide +kernel
theorem dX2_variablesIn_34 : decode cX2_variablesIn 34 = .ok (.ireturn, 1) := by decide +kernel
theorem dX2_putForCodes_0 : decode cX2_putForCodes 0 = .ok (.iconst 0, 1) := by decide +kernel
theorem dX2_putForCodes_1 : decode cX2_putForCodes 1 = .ok (.istore 4, 2) := by decide +kernel
theorem dX2_putForCodes_3 : decode cX2_putForCodes 3 = .ok (.iload 4, 2) := by decide +kernel
theorem dX2_putForCodes_5 : decode cX2_putForCodes 5 = .ok (.aload_n 0, 1) := by decide +kernel
theorem dX2_putForCodes_6 : decode cX2_putForCodes 6 = .ok (.getfield 9, 3) := by decide +kernel
theorem dX2_putForCodes_9 : decode cX2_putForCodes 9 = .ok (.if_icmp .ge 36, 3) := by decide +kernel
theorem dX2_putForCodes_12 : decode cX2_putForCodes 12 = .ok (.aload_n 0, 1) := by decide +kernel
theorem dX2_putForCodes_13 : decode cX2_putForCodes 13 = .ok (.iload 4, 2) := by decide +kernel
theorem dX2_putForCodes_15 : decode cX2_putForCodes 15 = .ok (.invokevirtual 29, 3) := by decide +kernel
theorem dX2_putForCodes_18 : decode cX2_putForCodes 18 = .ok (.iload_n 1, 1) := by decide +kernel
theorem dX2_putForCodes_19 : decode cX2_putForCodes 19 = .ok (.if_icmp .lt 20, 3) := by decide +kernel
theorem dX2_putForCodes_22 : decode cX2_putForCodes 22 = .ok (.aload_n 0, 1) := by decide +kernel
theorem dX2_putForCodes_23 : decode cX2_putForCodes 23 = .ok (.iload 4, 2) := by decide +kernel
theorem dX2_putForCodes_25 : decode cX2_putForCodes 25 = .ok (.invokevirtual 29, 3) := by decide +kernel
theorem dX2_putForCodes_28 : decode cX2_putForCodes 28 = .ok (.iload_n 2, 1) := by decide +kernel
theorem dX2_putForCodes_29 : decode cX2_putForCodes 29 = .ok (.if_icmp .gt 10, 3) := by decide +kernel
theorem dX2_putForCodes_32 : decode cX2_putForCodes 32 = .ok (.aload_n 0, 1) := by decide +kernel
theorem dX2_putForCodes_33 : decode cX2_putForCodes 33 = .ok (.iload 4, 2) := by decide +kernel
theorem dX2_putForCodes_35 : decode cX2_putForCodes 35 = .ok (.iload_n 3, 1) := by decide +kernel
theorem dX2_putForCodes_36 : decode cX2_putForCodes 36 = .ok (.invokevirtual 42, 3) := by decide +kernel
theorem dX2_putForCodes_39 : decode cX2_putForCodes 39 = .ok (.iinc 4 1, 3) := by decide +kernel
theorem dX2_putForCodes_42 : decode cX2_putForCodes 42 = .ok (.goto (-39), 3) := by decide +kernel
theorem dX2_putForCodes_45 : decode cX2_putForCodes 45 = .ok (.return_, 1) := by decide +kernel
theorem dX2_exchange_0 : decode cX2_exchange 0 = .ok (.iconst 0, 1) := by decide +kernel
theorem dX2_exchange_1 : decode cX2_exchange 1 = .ok (.istore_n 3, 1) := by decide +kernel
theorem dX2_exchange_2 : decode cX2_exchange 2 = .ok (.iload_n 3, 1) := by decide +kernel
theorem dX2_exchange_3 : decode cX2_exchange 3 = .ok (.aload_n 0, 1) := by decide +kernel
theorem dX2_exchange_4 : decode cX2_exchange 4 = .ok (.getfield 9, 3) := by decide +kernel
theorem dX2_exchange_7 : decode cX2_exchange 7 = .ok (.if_icmp .ge 42, 3) := by decide +kernel
theorem dX2_exchange_10 : decode cX2_exchange 10 = .ok (.aload_n 0, 1) := by decide +kernel
theorem dX2_exchange_11 : decode cX2_exchange 11 = .ok (.iload_n 3, 1) := by decide +kernel
theorem dX2_exchange_12 : decode cX2_exchange 12 = .ok (.invokevirtual 29, 3) := by decide +kernel
theorem dX2_exchange_15 : decode cX2_exchange 15 = .ok (.iload_n 1, 1) := by decide +kernel
theorem dX2_exchange_16 : decode cX2_exchange 16 = .ok (.if_icmp .ne 12, 3) := by decide +kernel
theorem dX2_exchange_19 : decode cX2_exchange 19 = .ok (.aload_n 0, 1) := by decide +kernel
theorem dX2_exchange_20 : decode cX2_exchange 20 = .ok (.iload_n 3, 1) := by decide +kernel
theorem dX2_exchange_21 : decode cX2_exchange 21 = .ok (.iload_n 2, 1) := by decide +kernel
theorem dX2_exchange_22 : decode cX2_exchange 22 = .ok (.invokevirtual 42, 3) := by decide +kernel
theorem dX2_exchange_25 : decode cX2_exchange 25 = .ok (.goto 18, 3) := by decide +kernel
theorem dX2_exchange_28 : decode cX2_exchange 28 = .ok (.aload_n 0, 1) := by decide +kernel
theorem dX2_exchange_29 : decode cX2_exchange 29 = .ok (.iload_n 3, 1) := by decide +kernel
theorem dX2_exchange_30 : decode cX2_exchange 30 = .ok (.invokevirtual 29, 3) := by decide +kernel
theorem dX2_exchange_33 : decode cX2_exchange 33 = .ok (.iload_n 2, 1) := by decide +kernel
theorem dX2_exchange_34 : decode cX2_exchange 34 = .ok (.if_icmp .ne 9, 3) := by decide +kernel
theorem dX2_exchange_37 : decode cX2_exchange 37 = .ok (.aload_n 0, 1) := by decide +kernel
theorem dX2_exchange_38 : decode cX2_exchange 38 = .ok (.iload_n 3, 1) := by decide +kernel
theorem dX2_exchange_39 : decode cX2_exchange 39 = .ok (.iload_n 1, 1) := by decide +kernel
theorem dX2_exchange_40 : decode cX2_exchange 40 = .ok (.invokevirtual 42, 3) := by decide +kernel
theorem dX2_exchange_43 : decode cX2_exchange 43 = .ok (.iinc 3 1, 3) := by decide +kernel
theorem dX2_exchange_46 : decode cX2_exchange 46 = .ok (.goto (-44), 3) := by decide +kernel
theorem dX2_exchange_49 : decode cX2_exchange 49 = .ok (.return_, 1) := by decide +kernel
theorem dX2_turnAround_0 : decode cX2_turnAround 0 = .ok (.iconst 0, 1) := by decide +kernel
theorem dX2_turnAround_1 : decode cX2_turnAround 1 = .ok (.istore_n 1, 1) := by decide +kernel
theorem dX2_turnAround_2 : decode cX2_turnAround 2 = .ok (.aload_n 0, 1) := by decide +kernel
theorem dX2_turnAround_3 : decode cX2_turnAround 3 = .ok (.getfield 9, 3) := by decide +kernel
theorem dX2_turnAround_6 : decode cX2_turnAround 6 = .ok (.iconst 1, 1) := by decide +kernel
theorem dX2_turnAround_7 : decode cX2_turnAround 7 = .ok (.isub, 1) := by decide +kernel
theorem dX2_turnAround_8 : decode cX2_turnAround 8 = .ok (.istore_n 2, 1) := by decide +kernel
theorem dX2_turnAround_9 : decode cX2_turnAround 9 = .ok (.iload_n 1, 1) := by decide +kernel
theorem dX2_turnAround_10 : decode cX2_turnAround 10 = .ok (.iload_n 2, 1) := by decide +kernel
theorem dX2_turnAround_11 : decode cX2_turnAround 11 = .ok (.if_icmp .ge 34, 3) := by decide +kernel
theorem dX2_turnAround_14 : decode cX2_turnAround 14 = .ok (.aload_n 0, 1) := by decide +kernel
theorem dX2_turnAround_15 : decode cX2_turnAround 15 = .ok (.iload_n 1, 1) := by decide +kernel
theorem dX2_turnAround_16 : decode cX2_turnAround 16 = .ok (.invokevirtual 29, 3) := by decide +kernel
theorem dX2_turnAround_19 : decode cX2_turnAround 19 = .ok (.istore_n 3, 1) := by decide +kernel
theorem dX2_turnAround_20 : decode cX2_turnAround 20 = .ok (.aload_n 0, 1) := by decide +kernel
theorem dX2_turnAround_21 : decode cX2_turnAround 21 = .ok (.iload_n 1, 1) := by decide +kernel
theorem dX2_turnAround_22 : decode cX2_turnAround 22 = .ok (.aload_n 0, 1) := by decide +kernel
theorem dX2_turnAround_23 : decode cX2_turnAround 23 = .ok (.iload_n 2, 1) := by decide +kernel
theorem dX2_turnAround_24 : decode cX2_turnAround 24 = .ok (.invokevirtual 29, 3) := by decide +kernel
theorem dX2_turnAround_27 : decode cX2_turnAround 27 = .ok (.invokevirtual 42, 3) := by decide +kernel
theorem dX2_turnAround_30 : decode cX2_turnAround 30 = .ok (.aload_n 0, 1) := by decide +kernel
theorem dX2_turnAround_31 : decode cX2_turnAround 31 = .ok (.iload_n 2, 1) := by decide +kernel
theorem dX2_turnAround_32 : decode cX2_turnAround 32 = .ok (.iload_n 3, 1) := by decide +kernel
theorem dX2_turnAround_33 : decode cX2_turnAround 33 = .ok (.invokevirtual 42, 3) := by decide +kernel
theorem dX2_turnAround_36 : decode cX2_turnAround 36 = .ok (.iinc 1 1, 3) := by decide +kernel
theorem dX2_turnAround_39 : decode cX2_turnAround 39 = .ok (.iinc 2 (-1), 3) := by decide +kernel
theorem dX2_turnAround_42 : decode cX2_turnAround 42 = .ok (.goto (-33), 3) := by decide +kernel
theorem dX2_turnAround_45 : decode cX2_turnAround 45 = .ok (.return_, 1) := by decide +kernel
theorem dX2_makeCanonical_0 : decode cX2_makeCanonical 0 = .ok (.bipush 10, 2) := by decide +kernel
theorem dX2_makeCanonical_2 : decode cX2_makeCanonical 2 = .ok (.istore_n 1, 1) := by decide +kernel
theorem dX2_makeCanonical_3 : decode cX2_makeCanonical 3 = .ok (.iconst 0, 1) := by decide +kernel
theorem dX2_makeCanonical_4 : decode cX2_makeCanonical 4 = .ok (.istore_n 2, 1) := by decide +kernel
theorem dX2_makeCanonical_5 : decode cX2_makeCanonical 5 = .ok (.iload_n 2, 1) := by decide +kernel
theorem dX2_makeCanonical_6 : decode cX2_makeCanonical 6 = .ok (.aload_n 0, 1) := by decide +kernel
theorem dX2_makeCanonical_7 : decode cX2_makeCanonical 7 = .ok (.getfield 9, 3) := by decide +kernel
theorem dX2_makeCanonical_10 : decode cX2_makeCanonical 10 = .ok (.if_icmp .ge 40, 3) := by decide +kernel
theorem dX2_makeCanonical_13 : decode cX2_makeCanonical 13 = .ok (.aload_n 0, 1) := by decide +kernel
theorem dX2_makeCanonical_14 : decode cX2_makeCanonical 14 = .ok (.iload_n 2, 1) := by decide +kernel
theorem dX2_makeCanonical_15 : decode cX2_makeCanonical 15 = .ok (.invokevirtual 29, 3) := by decide +kernel
theorem dX2_makeCanonical_18 : decode cX2_makeCanonical 18 = .ok (.iload_n 1, 1) := by decide +kernel
theorem dX2_makeCanonical_19 : decode cX2_makeCanonical 19 = .ok (.if_icmp .le 13, 3) := by decide +kernel
theorem dX2_makeCanonical_22 : decode cX2_makeCanonical 22 = .ok (.aload_n 0, 1) := by decide +kernel
theorem dX2_makeCanonical_23 : decode cX2_makeCanonical 23 = .ok (.aload_n 0, 1) := by decide +kernel
theorem dX2_makeCanonical_24 : decode cX2_makeCanonical 24 = .ok (.iload_n 2, 1) := by decide +kernel
theorem dX2_makeCanonical_25 : decode cX2_makeCanonical 25 = .ok (.invokevirtual 29, 3) := by decide +kernel
theorem dX2_makeCanonical_28 : decode cX2_makeCanonical 28 = .ok (.iload_n 1, 1) := by decide +kernel
theorem dX2_makeCanonical_29 : decode cX2_makeCanonical 29 = .ok (.invokevirtual 46, 3) := by decide +kernel
theorem dX2_makeCanonical_32 : decode cX2_makeCanonical 32 = .ok (.aload_n 0, 1) := by decide +kernel
theorem dX2_makeCanonical_33 : decode cX2_makeCanonical 33 = .ok (.iload_n 2, 1) := by decide +kernel
theorem dX2_makeCanonical_34 : decode cX2_makeCanonical 34 = .ok (.invokevirtual 29, 3) := by decide +kernel
theorem dX2_makeCanonical_37 : decode cX2_makeCanonical 37 = .ok (.iload_n 1, 1) := by decide +kernel
theorem dX2_makeCanonical_38 : decode cX2_makeCanonical 38 = .ok (.if_icmp .ne 6, 3) := by decide +kernel
theorem dX2_makeCanonical_41 : decode cX2_makeCanonical 41 = .ok (.iinc 1 1, 3) := by decide +kernel
theorem dX2_makeCanonical_44 : decode cX2_makeCanonical 44 = .ok (.iinc 2 1, 3) := by decide +kernel
theorem dX2_makeCanonical_47 : decode cX2_makeCanonical 47 = .ok (.goto (-42), 3) := by decide +kernel
theorem dX2_makeCanonical_50 : decode cX2_makeCanonical 50 = .ok (.return_, 1) := by decide +kernel
theorem dX2_wordCode_0 : decode cX2_wordCode 0 = .ok (.lconst 0, 1) := by decide +kernel
theorem dX2_wordCode_1 : decode cX2_wordCode 1 = .ok (.lstore_n 1, 1) := by decide +kernel
theorem dX2_wordCode_2 : decode cX2_wordCode 2 = .ok (.lconst 1, 1) := by decide +kernel
theorem dX2_wordCode_3 : decode cX2_wordCode 3 = .ok (.lstore_n 3, 1) := by decide +kernel
theorem dX2_wordCode_4 : decode cX2_wordCode 4 = .ok (.iconst 0, 1) := by decide +kernel
theorem dX2_wordCode_5 : decode cX2_wordCode 5 = .ok (.istore 5, 2) := by decide +kernel
theorem dX2_wordCode_7 : decode cX2_wordCode 7 = .ok (.iload 5, 2) := by decide +kernel
theorem dX2_wordCode_9 : decode cX2_wordCode 9 = .ok (.aload_n 0, 1) := by decide +kernel
theorem dX2_wordCode_10 : decode cX2_wordCode 10 = .ok (.getfield 9, 3) := by decide +kernel
theorem dX2_wordCode_13 : decode cX2_wordCode 13 = .ok (.if_icmp .ge 29, 3) := by decide +kernel
theorem dX2_wordCode_16 : decode cX2_wordCode 16 = .ok (.lload_n 1, 1) := by decide +kernel
theorem dX2_wordCode_17 : decode cX2_wordCode 17 = .ok (.aload_n 0, 1) := by decide +kernel
theorem dX2_wordCode_18 : decode cX2_wordCode 18 = .ok (.iload 5, 2) := by decide +kernel
theorem dX2_wordCode_20 : decode cX2_wordCode 20 = .ok (.invokevirtual 29, 3) := by decide +kernel
theorem dX2_wordCode_23 : decode cX2_wordCode 23 = .ok (.iconst 1, 1) := by decide +kernel
theorem dX2_wordCode_24 : decode cX2_wordCode 24 = .ok (.iadd, 1) := by decide +kernel
theorem dX2_wordCode_25 : decode cX2_wordCode 25 = .ok (.i2l, 1) := by decide +kernel
theorem dX2_wordCode_26 : decode cX2_wordCode 26 = .ok (.lload_n 3, 1) := by decide +kernel
theorem dX2_wordCode_27 : decode cX2_wordCode 27 = .ok (.lmul, 1) := by decide +kernel
theorem dX2_wordCode_28 : decode cX2_wordCode 28 = .ok (.ladd, 1) := by decide +kernel
theorem dX2_wordCode_29 : decode cX2_wordCode 29 = .ok (.lstore_n 1, 1) := by decide +kernel
theorem dX2_wordCode_30 : decode cX2_wordCode 30 = .ok (.lload_n 3, 1) := by decide +kernel
theorem dX2_wordCode_31 : decode cX2_wordCode 31 = .ok (.ldc2_w 49, 3) := by decide +kernel
theorem dX2_wordCode_34 : decode cX2_wordCode 34 = .ok (.lmul, 1) := by decide +kernel
theorem dX2_wordCode_35 : decode cX2_wordCode 35 = .ok (.lstore_n 3, 1) := by decide +kernel
theorem dX2_wordCode_36 : decode cX2_wordCode 36 = .ok (.iinc 5 1, 3) := by decide +kernel
theorem dX2_wordCode_39 : decode cX2_wordCode 39 = .ok (.goto (-32), 3) := by decide +kernel
theorem dX2_wordCode_42 : decode cX2_wordCode 42 = .ok (.lload_n 1, 1) := by decide +kernel
theorem dX2_wordCode_43 : decode cX2_wordCode 43 = .ok (.lreturn, 1) := by decide +kernel
theorem dX2_advance_0 : decode cX2_advance 0 = .ok (.aload_n 0, 1) := by decide +kernel
theorem dX2_advance_1 : decode cX2_advance 1 = .ok (.getfield 9, 3) := by decide +kernel
theorem dX2_advance_4 : decode cX2_advance 4 = .ok (.iconst 1, 1) := by decide +kernel
theorem dX2_advance_5 : decode cX2_advance 5 = .ok (.isub, 1) := by decide +kernel
theorem dX2_advance_6 : decode cX2_advance 6 = .ok (.istore_n 2, 1) := by decide +kernel
theorem dX2_advance_7 : decode cX2_advance 7 = .ok (.iload_n 2, 1) := by decide +kernel
theorem dX2_advance_8 : decode cX2_advance 8 = .ok (.ifCond .lt 39, 3) := by decide +kernel
theorem dX2_advance_11 : decode cX2_advance 11 = .ok (.aload_n 0, 1) := by decide +kernel
theorem dX2_advance_12 : decode cX2_advance 12 = .ok (.iload_n 2, 1) := by decide +kernel
theorem dX2_advance_13 : decode cX2_advance 13 = .ok (.invokevirtual 29, 3) := by decide +kernel
theorem dX2_advance_16 : decode cX2_advance 16 = .ok (.iconst 1, 1) := by decide +kernel
theorem dX2_advance_17 : decode cX2_advance 17 = .ok (.iadd, 1) := by decide +kernel
theorem dX2_advance_18 : decode cX2_advance 18 = .ok (.iload_n 1, 1) := by decide +kernel
theorem dX2_advance_19 : decode cX2_advance 19 = .ok (.if_icmp .ge 16, 3) := by decide +kernel
theorem dX2_advance_22 : decode cX2_advance 22 = .ok (.aload_n 0, 1) := by decide +kernel
theorem dX2_advance_23 : decode cX2_advance 23 = .ok (.iload_n 2, 1) := by decide +kernel
theorem dX2_advance_24 : decode cX2_advance 24 = .ok (.aload_n 0, 1) := by decide +kernel
theorem dX2_advance_25 : decode cX2_advance 25 = .ok (.iload_n 2, 1) := by decide +kernel
theorem dX2_advance_26 : decode cX2_advance 26 = .ok (.invokevirtual 29, 3) := by decide +kernel
theorem dX2_advance_29 : decode cX2_advance 29 = .ok (.iconst 1, 1) := by decide +kernel
theorem dX2_advance_30 : decode cX2_advance 30 = .ok (.iadd, 1) := by decide +kernel
theorem dX2_advance_31 : decode cX2_advance 31 = .ok (.invokevirtual 42, 3) := by decide +kernel
theorem dX2_advance_34 : decode cX2_advance 34 = .ok (.return_, 1) := by decide +kernel
theorem dX2_advance_35 : decode cX2_advance 35 = .ok (.aload_n 0, 1) := by decide +kernel
theorem dX2_advance_36 : decode cX2_advance 36 = .ok (.iload_n 2, 1) := by decide +kernel
theorem dX2_advance_37 : decode cX2_advance 37 = .ok (.iconst 0, 1) := by decide +kernel
theorem dX2_advance_38 : decode cX2_advance 38 = .ok (.invokevirtual 42, 3) := by decide +kernel
theorem dX2_advance_41 : decode cX2_advance 41 = .ok (.iinc 2 (-1), 3) := by decide +kernel
theorem dX2_advance_44 : decode cX2_advance 44 = .ok (.goto (-37), 3) := by decide +kernel
theorem dX2_advance_47 : decode cX2_advance 47 = .ok (.return_, 1) := by decide +kernel
theorem dX3_init_0 : decode cX3_init 0 = .ok (.aload_n 0, 1) := by decide +kernel
theorem dX3_init_1 : decode cX3_init 1 = .ok (.invokespecial 3, 3) := by decide +kernel
theorem dX3_init_4 : decode cX3_init 4 = .ok (.aload_n 0, 1) := by decide +kernel
theorem dX3_init_5 : decode cX3_init 5 = .ok (.new 9, 3) := by decide +kernel
theorem dX3_init_8 : decode cX3_init 8 = .ok (.dup, 1) := by decide +kernel
theorem dX3_init_9 : decode cX3_init 9 = .ok (.invokespecial 11, 3) := by decide +kernel
theorem dX3_init_12 : decode cX3_init 12 = .ok (.putfield 12, 3) := by decide +kernel
theorem dX3_init_15 : decode cX3_init 15 = .ok (.aload_n 0, 1) := by decide +kernel
theorem dX3_init_16 : decode cX3_init 16 = .ok (.new 18, 3) := by decide +kernel
theorem dX3_init_19 : decode cX3_init 19 = .ok (.dup, 1) := by decide +kernel
theorem dX3_init_20 : decode cX3_init 20 = .ok (.bipush 8, 2) := by decide +kernel
theorem dX3_init_22 : decode cX3_init 22 = .ok (.invokespecial 20, 3) := by decide +kernel
theorem dX3_init_25 : decode cX3_init 25 = .ok (.putfield 23, 3) := by decide +kernel
theorem dX3_init_28 : decode cX3_init 28 = .ok (.return_, 1) := by decide +kernel
theorem dX3_findBest_0 : decode cX3_findBest 0 = .ok (.aload_n 0, 1) := by decide +kernel
theorem dX3_findBest_1 : decode cX3_findBest 1 = .ok (.iload_n 2, 1) := by decide +kernel
theorem dX3_findBest_2 : decode cX3_findBest 2 = .ok (.putfield 27, 3) := by decide +kernel
theorem dX3_findBest_5 : decode cX3_findBest 5 = .ok (.aload_n 0, 1) := by decide +kernel
theorem dX3_findBest_6 : decode cX3_findBest 6 = .ok (.iload_n 3, 1) := by decide +kernel
theorem dX3_findBest_7 : decode cX3_findBest 7 = .ok (.putfield 31, 3) := by decide +kernel
theorem dX3_findBest_10 : decode cX3_findBest 10 = .ok (.aload_n 0, 1) := by decide +kernel
theorem dX3_findBest_11 : decode cX3_findBest 11 = .ok (.getfield 23, 3) := by decide +kernel
theorem dX3_findBest_14 : decode cX3_findBest 14 = .ok (.invokevirtual 34, 3) := by decide +kernel
theorem dX3_findBest_17 : decode cX3_findBest 17 = .ok (.iload_n 2, 1) := by decide +kernel
theorem dX3_findBest_18 : decode cX3_findBest 18 = .ok (.istore 4, 2) := by decide +kernel
theorem dX3_findBest_20 : decode cX3_findBest 20 = .ok (.iload 4, 2) := by decide +kernel
theorem dX3_findBest_22 : decode cX3_findBest 22 = .ok (.ifCond .lt 64, 3) := by decide +kernel
theorem dX3_findBest_25 : decode cX3_findBest 25 = .ok (.iload_n 2, 1) := by decide +kernel
theorem dX3_findBest_26 : decode cX3_findBest 26 = .ok (.iload 4, 2) := by decide +kernel
theorem dX3_findBest_28 : decode cX3_findBest 28 = .ok (.isub, 1) := by decide +kernel
theorem dX3_findBest_29 : decode cX3_findBest 29 = .ok (.istore 5, 2) := by decide +kernel
theorem dX3_findBest_31 : decode cX3_findBest 31 = .ok (.iload 5, 2) := by decide +kernel
theorem dX3_findBest_33 : decode cX3_findBest 33 = .ok (.iconst 4, 1) := by decide +kernel
theorem dX3_findBest_34 : decode cX3_findBest 34 = .ok (.invokestatic 37, 3) := by decide +kernel
theorem dX3_findBest_37 : decode cX3_findBest 37 = .ok (.istore 6, 2) := by decide +kernel
theorem dX3_findBest_39 : decode cX3_findBest 39 = .ok (.iload 5, 2) := by decide +kernel
theorem dX3_findBest_41 : decode cX3_findBest 41 = .ok (.iconst 1, 1) := by decide +kernel
theorem dX3_findBest_42 : decode cX3_findBest 42 = .ok (.invokestatic 37, 3) := by decide +kernel
theorem dX3_findBest_45 : decode cX3_findBest 45 = .ok (.istore 7, 2) := by decide +kernel
theorem dX3_findBest_47 : decode cX3_findBest 47 = .ok (.iload 7, 2) := by decide +kernel
theorem dX3_findBest_49 : decode cX3_findBest 49 = .ok (.iload 6, 2) := by decide +kernel
theorem dX3_findBest_51 : decode cX3_findBest 51 = .ok (.if_icmp .gt 29, 3) := by decide +kernel
theorem dX3_findBest_54 : decode cX3_findBest 54 = .ok (.aload_n 0, 1) := by decide +kernel
theorem dX3_findBest_55 : decode cX3_findBest 55 = .ok (.iload 7, 2) := by decide +kernel
theorem dX3_findBest_57 : decode cX3_findBest 57 = .ok (.putfield 43, 3) := by decide +kernel
theorem dX3_findBest_60 : decode cX3_findBest 60 = .ok (.aload_n 0, 1) := by decide +kernel
theorem dX3_findBest_61 : decode cX3_findBest 61 = .ok (.aload_n 1, 1) := by decide +kernel
theorem dX3_findBest_62 : decode cX3_findBest 62 = .ok (.iconst 0, 1) := by decide +kernel
theorem dX3_findBest_63 : decode cX3_findBest 63 = .ok (.iload 4, 2) := by decide +kernel
theorem dX3_findBest_65 : decode cX3_findBest 65 = .ok (.iconst 0, 1) := by decide +kernel
theorem dX3_findBest_66 : decode cX3_findBest 66 = .ok (.invokevirtual 46, 3) := by decide +kernel
theorem dX3_findBest_69 : decode cX3_findBest 69 = .ok (.ifCond .eq 5, 3) := by decide +kernel
theorem dX3_findBest_72 : decode cX3_findBest 72 = .ok (.iconst 1, 1) := by decide +kernel
theorem dX3_findBest_73 : decode cX3_findBest 73 = .ok (.ireturn, 1) := by decide +kernel
theorem dX3_findBest_74 : decode cX3_findBest 74 = .ok (.iinc 7 1, 3) := by decide +kernel
theorem dX3_findBest_77 : decode cX3_findBest 77 = .ok (.goto (-30), 3) := by decide +kernel
theorem dX3_findBest_80 : decode cX3_findBest 80 = .ok (.iinc 4 (-1), 3) := by decide +kernel
theorem dX3_findBest_83 : decode cX3_findBest 83 = .ok (.goto (-63), 3) := by decide +kernel
theorem dX3_findBest_86 : decode cX3_findBest 86 = .ok (.iconst 0, 1) := by decide +kernel
theorem dX3_findBest_87 : decode cX3_findBest 87 = .ok (.ireturn, 1) := by decide +kernel
theorem dX3_findLongestOfX_0 : decode cX3_findLongestOfX 0 = .ok (.aload_n 0, 1) := by decide +kernel
theorem dX3_findLongestOfX_1 : decode cX3_findLongestOfX 1 = .ok (.iconst 1, 1) := by decide +kernel
theorem dX3_findLongestOfX_2 : decode cX3_findLongestOfX 2 = .ok (.putfield 43, 3) := by decide +kernel
theorem dX3_findLongestOfX_5 : decode cX3_findLongestOfX 5 = .ok (.aload_n 0, 1) := by decide +kernel
theorem dX3_findLongestOfX_6 : decode cX3_findLongestOfX 6 = .ok (.iconst 0, 1) := by decide +kernel
theorem dX3_findLongestOfX_7 : decode cX3_findLongestOfX 7 = .ok (.putfield 31, 3) := by decide +kernel
theorem dX3_findLongestOfX_10 : decode cX3_findLongestOfX 10 = .ok (.aload_n 0, 1) := by decide +kernel
theorem dX3_findLongestOfX_11 : decode cX3_findLongestOfX 11 = .ok (.getfield 23, 3) := by decide +kernel
theorem dX3_findLongestOfX_14 : decode cX3_findLongestOfX 14 = .ok (.invokevirtual 34, 3) := by decide +kernel
theorem dX3_findLongestOfX_17 : decode cX3_findLongestOfX 17 = .ok (.bipush 7, 2) := by decide +kernel
theorem dX3_findLongestOfX_19 : decode cX3_findLongestOfX 19 = .ok (.istore_n 2, 1) := by decide +kernel
theorem dX3_findLongestOfX_20 : decode cX3_findLongestOfX 20 = .ok (.iload_n 2, 1) := by decide +kernel
theorem dX3_findLongestOfX_21 : decode cX3_findLongestOfX 21 = .ok (.iconst 1, 1) := by decide +kernel
theorem dX3_findLongestOfX_22 : decode cX3_findLongestOfX 22 = .ok (.if_icmp .lt 52, 3) := by decide +kernel
theorem dX3_findLongestOfX_25 : decode cX3_findLongestOfX 25 = .ok (.aload_n 0, 1) := by decide +kernel
theorem dX3_findLongestOfX_26 : decode cX3_findLongestOfX 26 = .ok (.iload_n 2, 1) := by decide +kernel
theorem dX3_findLongestOfX_27 : decode cX3_findLongestOfX 27 = .ok (.putfield 27, 3) := by decide +kernel
theorem dX3_findLongestOfX_30 : decode cX3_findLongestOfX 30 = .ok (.iload_n 2, 1) := by decide +kernel
theorem dX3_findLongestOfX_31 : decode cX3_findLongestOfX 31 = .ok (.iconst 1, 1) := by decide +kernel
theorem dX3_findLongestOfX_32 : decode cX3_findLongestOfX 32 = .ok (.isub, 1) := by decide +kernel
theorem dX3_findLongestOfX_33 : decode cX3_findLongestOfX 33 = .ok (.istore_n 3, 1) := by decide +kernel
theorem dX3_findLongestOfX_34 : decode cX3_findLongestOfX 34 = .ok (.iload_n 3, 1) := by decide +kernel
theorem dX3_findLongestOfX_35 : decode cX3_findLongestOfX 35 = .ok (.ifCond .lt 33, 3) := by decide +kernel
theorem dX3_findLongestOfX_38 : decode cX3_findLongestOfX 38 = .ok (.aload_n 1, 1) := by decide +kernel
theorem dX3_findLongestOfX_39 : decode cX3_findLongestOfX 39 = .ok (.iload_n 3, 1) := by decide +kernel
theorem dX3_findLongestOfX_40 : decode cX3_findLongestOfX 40 = .ok (.iload_n 2, 1) := by decide +kernel
theorem dX3_findLongestOfX_41 : decode cX3_findLongestOfX 41 = .ok (.iload_n 3, 1) := by decide +kernel
theorem dX3_findLongestOfX_42 : decode cX3_findLongestOfX 42 = .ok (.isub, 1) := by decide +kernel
theorem dX3_findLongestOfX_43 : decode cX3_findLongestOfX 43 = .ok (.invokestatic 50, 3) := by decide +kernel
theorem dX3_findLongestOfX_46 : decode cX3_findLongestOfX 46 = .ok (.ifCond .eq 16, 3) := by decide +kernel
theorem dX3_findLongestOfX_49 : decode cX3_findLongestOfX 49 = .ok (.aload_n 0, 1) := by decide +kernel
theorem dX3_findLongestOfX_50 : decode cX3_findLongestOfX 50 = .ok (.aload_n 1, 1) := by decide +kernel
theorem dX3_findLongestOfX_51 : decode cX3_findLongestOfX 51 = .ok (.iconst 0, 1) := by decide +kernel
theorem dX3_findLongestOfX_52 : decode cX3_findLongestOfX 52 = .ok (.iload_n 3, 1) := by decide +kernel
theorem dX3_findLongestOfX_53 : decode cX3_findLongestOfX 53 = .ok (.iconst 0, 1) := by decide +kernel
theorem dX3_findLongestOfX_54 : decode cX3_findLongestOfX 54 = .ok (.invokevirtual 46, 3) := by decide +kernel
theorem dX3_findLongestOfX_57 : decode cX3_findLongestOfX 57 = .ok (.ifCond .eq 5, 3) := by decide +kernel
theorem dX3_findLongestOfX_60 : decode cX3_findLongestOfX 60 = .ok (.iconst 1, 1) := by decide +kernel
theorem dX3_findLongestOfX_61 : decode cX3_findLongestOfX 61 = .ok (.ireturn, 1) := by decide +kernel
theorem dX3_findLongestOfX_62 : decode cX3_findLongestOfX 62 = .ok (.iinc 3 (-1), 3) := by decide +kernel
theorem dX3_findLongestOfX_65 : decode cX3_findLongestOfX 65 = .ok (.goto (-31), 3) := by decide +kernel
theorem dX3_findLongestOfX_68 : decode cX3_findLongestOfX 68 = .ok (.iinc 2 (-1), 3) := by decide +kernel
theorem dX3_findLongestOfX_71 : decode cX3_findLongestOfX 71 = .ok (.goto (-51), 3) := by decide +kernel
theorem dX3_findLongestOfX_74 : decode cX3_findLongestOfX 74 = .ok (.iconst 0, 1) := by decide +kernel
theorem dX3_findLongestOfX_75 : decode cX3_findLongestOfX 75 = .ok (.ireturn, 1) := by decide +kernel
theorem dX3_canStretch_0 : decode cX3_canStretch 0 = .ok (.iload_n 2, 1) := by decide +kernel
theorem dX3_canStretch_1 : decode cX3_canStretch 1 = .ok (.iconst 1, 1) := by decide +kernel
theorem dX3_canStretch_2 : decode cX3_canStretch 2 = .ok (.if_icmp .ge 5, 3) := by decide +kernel
theorem dX3_canStretch_5 : decode cX3_canStretch 5 = .ok (.iconst 0, 1) := by decide +kernel
theorem dX3_canStretch_6 : decode cX3_canStretch 6 = .ok (.ireturn, 1) := by decide +kernel
theorem dX3_canStretch_7 : decode cX3_canStretch 7 = .ok (.iconst 0, 1) := by decide +kernel
theorem dX3_canStretch_8 : decode cX3_canStretch 8 = .ok (.istore_n 3, 1) := by decide +kernel
theorem dX3_canStretch_9 : decode cX3_canStretch 9 = .ok (.iload_n 3, 1) := by decide +kernel
theorem dX3_canStretch_10 : decode cX3_canStretch 10 = .ok (.aload_n 0, 1) := by decide +kernel
theorem dX3_canStretch_11 : decode cX3_canStretch 11 = .ok (.getfield 54, 3) := by decide +kernel
theorem dX3_canStretch_14 : decode cX3_canStretch 14 = .ok (.if_icmp .ge 43, 3) := by decide +kernel
theorem dX3_canStretch_17 : decode cX3_canStretch 17 = .ok (.iload_n 3, 1) := by decide +kernel
theorem dX3_canStretch_18 : decode cX3_canStretch 18 = .ok (.bipush 6, 2) := by decide +kernel
theorem dX3_canStretch_20 : decode cX3_canStretch 20 = .ok (.if_icmp .ge 37, 3) := by decide +kernel
theorem dX3_canStretch_23 : decode cX3_canStretch 23 = .ok (.aload_n 0, 1) := by decide +kernel
theorem dX3_canStretch_24 : decode cX3_canStretch 24 = .ok (.getfield 59, 3) := by decide +kernel
theorem dX3_canStretch_27 : decode cX3_canStretch 27 = .ok (.iload_n 3, 1) := by decide +kernel
theorem dX3_canStretch_28 : decode cX3_canStretch 28 = .ok (.aaload, 1) := by decide +kernel
theorem dX3_canStretch_29 : decode cX3_canStretch 29 = .ok (.getfield 63, 3) := by decide +kernel
theorem dX3_canStretch_32 : decode cX3_canStretch 32 = .ok (.iload_n 1, 1) := by decide +kernel
theorem dX3_canStretch_33 : decode cX3_canStretch 33 = .ok (.isub, 1) := by decide +kernel
theorem dX3_canStretch_34 : decode cX3_canStretch 34 = .ok (.istore 4, 2) := by decide +kernel
theorem dX3_canStretch_36 : decode cX3_canStretch 36 = .ok (.iload 4, 2) := by decide +kernel
theorem dX3_canStretch_38 : decode cX3_canStretch 38 = .ok (.iload_n 2, 1) := by decide +kernel
theorem dX3_canStretch_39 : decode cX3_canStretch 39 = .ok (.if_icmp .lt 10, 3) := by decide +kernel
theorem dX3_canStretch_42 : decode cX3_canStretch 42 = .ok (.iload 4, 2) := by decide +kernel
theorem dX3_canStretch_44 : decode cX3_canStretch 44 = .ok (.iload_n 2, 1) := by decide +kernel
theorem dX3_canStretch_45 : decode cX3_canStretch 45 = .ok (.irem, 1) := by decide +kernel
theorem dX3_canStretch_46 : decode cX3_canStretch 46 = .ok (.ifCond .eq 5, 3) := by decide +kernel
theorem dX3_canStretch_49 : decode cX3_canStretch 49 = .ok (.iconst 0, 1) := by decide +kernel
theorem dX3_canStretch_50 : decode cX3_canStretch 50 = .ok (.ireturn, 1) := by decide +kernel
theorem dX3_canStretch_51 : decode cX3_canStretch 51 = .ok (.iinc 3 1, 3) := by decide +kernel
theorem dX3_canStretch_54 : decode cX3_canStretch 54 = .ok (.goto (-45), 3) := by decide +kernel
theorem dX3_canStretch_57 : decode cX3_canStretch 57 = .ok (.iconst 1, 1) := by decide +kernel
theorem dX3_canStretch_58 : decode cX3_canStretch 58 = .ok (.ireturn, 1) := by decide +kernel
theorem dX3_complete_0 : decode cX3_complete 0 = .ok (.aload_n 0, 1) := by decide +kernel
theorem dX3_complete_1 : decode cX3_complete 1 = .ok (.getfield 27, 3) := by decide +kernel
theorem dX3_complete_4 : decode cX3_complete 4 = .ok (.iload_n 2, 1) := by decide +kernel
theorem dX3_complete_5 : decode cX3_complete 5 = .ok (.isub, 1) := by decide +kernel
theorem dX3_complete_6 : decode cX3_complete 6 = .ok (.iload_n 3, 1) := by decide +kernel
theorem dX3_complete_7 : decode cX3_complete 7 = .ok (.isub, 1) := by decide +kernel
theorem dX3_complete_8 : decode cX3_complete 8 = .ok (.istore 5, 2) := by decide +kernel
theorem dX3_complete_10 : decode cX3_complete 10 = .ok (.aload_n 0, 1) := by decide +kernel
theorem dX3_complete_11 : decode cX3_complete 11 = .ok (.aload_n 1, 1) := by decide +kernel
theorem dX3_complete_12 : decode cX3_complete 12 = .ok (.iload_n 3, 1) := by decide +kernel
theorem dX3_complete_13 : decode cX3_complete 13 = .ok (.iload 5, 2) := by decide +kernel
theorem dX3_complete_15 : decode cX3_complete 15 = .ok (.invokevirtual 66, 3) := by decide +kernel
theorem dX3_complete_18 : decode cX3_complete 18 = .ok (.ifCond .ne 5, 3) := by decide +kernel
theorem dX3_complete_21 : decode cX3_complete 21 = .ok (.iconst 0, 1) := by decide +kernel
theorem dX3_complete_22 : decode cX3_complete 22 = .ok (.ireturn, 1) := by decide +kernel
theorem dX3_complete_23 : decode cX3_complete 23 = .ok (.iload_n 2, 1) := by decide +kernel
theorem dX3_complete_24 : decode cX3_complete 24 = .ok (.aload_n 0, 1) := by decide +kernel
theorem dX3_complete_25 : decode cX3_complete 25 = .ok (.getfield 27, 3) := by decide +kernel
theorem dX3_complete_28 : decode cX3_complete 28 = .ok (.if_icmp .lt 5, 3) := by decide +kernel
theorem dX3_complete_31 : decode cX3_complete 31 = .ok (.iconst 1, 1) := by decide +kernel
theorem dX3_complete_32 : decode cX3_complete 32 = .ok (.ireturn, 1) := by decide +kernel
theorem dX3_complete_33 : decode cX3_complete 33 = .ok (.iload_n 3, 1) := by decide +kernel
theorem dX3_complete_34 : decode cX3_complete 34 = .ok (.ifCond .le 10, 3) := by decide +kernel
theorem dX3_complete_37 : decode cX3_complete 37 = .ok (.aload_n 1, 1) := by decide +kernel
theorem dX3_complete_38 : decode cX3_complete 38 = .ok (.getfield 69, 3) := by decide +kernel
theorem dX3_complete_41 : decode cX3_complete 41 = .ok (.goto 4, 3) := by decide +kernel
theorem dX3_complete_44 : decode cX3_complete 44 = .ok (.iconst 0, 1) := by decide +kernel
theorem dX3_complete_45 : decode cX3_complete 45 = .ok (.istore 6, 2) := by decide +kernel
theorem dX3_complete_47 : decode cX3_complete 47 = .ok (.iconst 0, 1) := by decide +kernel
theorem dX3_complete_48 : decode cX3_complete 48 = .ok (.istore 7, 2) := by decide +kernel
theorem dX3_complete_50 : decode cX3_complete 50 = .ok (.iload 7, 2) := by decide +kernel
theorem dX3_complete_52 : decode cX3_complete 52 = .ok (.iload 6, 2) := by decide +kernel
theorem dX3_complete_54 : decode cX3_complete 54 = .ok (.if_icmp .ge 44, 3) := by decide +kernel
theorem dX3_complete_57 : decode cX3_complete 57 = .ok (.aload_n 0, 1) := by decide +kernel
theorem dX3_complete_58 : decode cX3_complete 58 = .ok (.getfield 23, 3) := by decide +kernel
theorem dX3_complete_61 : decode cX3_complete 61 = .ok (.iload 7, 2) := by decide +kernel
theorem dX3_complete_63 : decode cX3_complete 63 = .ok (.invokevirtual 72, 3) := by decide +kernel
theorem dX3_complete_66 : decode cX3_complete 66 = .ok (.pop, 1) := by decide +kernel
theorem dX3_complete_67 : decode cX3_complete 67 = .ok (.aload_n 0, 1) := by decide +kernel
theorem dX3_complete_68 : decode cX3_complete 68 = .ok (.aload_n 1, 1) := by decide +kernel
theorem dX3_complete_69 : decode cX3_complete 69 = .ok (.iload_n 2, 1) := by decide +kernel
theorem dX3_complete_70 : decode cX3_complete 70 = .ok (.iconst 1, 1) := by decide +kernel
theorem dX3_complete_71 : decode cX3_complete 71 = .ok (.iadd, 1) := by decide +kernel
theorem dX3_complete_72 : decode cX3_complete 72 = .ok (.iload_n 3, 1) := by decide +kernel
theorem dX3_complete_73 : decode cX3_complete 73 = .ok (.iconst 1, 1) := by decide +kernel
theorem dX3_complete_74 : decode cX3_complete 74 = .ok (.isub, 1) := by decide +kernel
theorem dX3_complete_75 : decode cX3_complete 75 = .ok (.iload 4, 2) := by decide +kernel
theorem dX3_complete_77 : decode cX3_complete 77 = .ok (.invokevirtual 46, 3) := by decide +kernel
theorem dX3_complete_80 : decode cX3_complete 80 = .ok (.ifCond .eq 5, 3) := by decide +kernel
theorem dX3_complete_83 : decode cX3_complete 83 = .ok (.iconst 1, 1) := by decide +kernel
theorem dX3_complete_84 : decode cX3_complete 84 = .ok (.ireturn, 1) := by decide +kernel
theorem dX3_complete_85 : decode cX3_complete 85 = .ok (.aload_n 0, 1) := by decide +kernel
theorem dX3_complete_86 : decode cX3_complete 86 = .ok (.getfield 23, 3) := by decide +kernel
theorem dX3_complete_89 : decode cX3_complete 89 = .ok (.invokevirtual 76, 3) := by decide +kernel
theorem dX3_complete_92 : decode cX3_complete 92 = .ok (.iinc 7 1, 3) := by decide +kernel
theorem dX3_complete_95 : decode cX3_complete 95 = .ok (.goto (-45), 3) := by decide +kernel
theorem dX3_complete_98 : decode cX3_complete 98 = .ok (.iload 5, 2) := by decide +kernel
theorem dX3_complete_100 : decode cX3_complete 100 = .ok (.ifCond .le 19, 3) := by decide +kernel
theorem dX3_complete_103 : decode cX3_complete 103 = .ok (.aload_n 0, 1) := by decide +kernel
theorem dX3_complete_104 : decode cX3_complete 104 = .ok (.aload_n 1, 1) := by decide +kernel
theorem dX3_complete_105 : decode cX3_complete 105 = .ok (.iload_n 2, 1) := by decide +kernel
theorem dX3_complete_106 : decode cX3_complete 106 = .ok (.iload_n 3, 1) := by decide +kernel
theorem dX3_complete_107 : decode cX3_complete 107 = .ok (.iload 4, 2) := by decide +kernel
theorem dX3_complete_109 : decode cX3_complete 109 = .ok (.invokevirtual 79, 3) := by decide +kernel
theorem dX3_complete_112 : decode cX3_complete 112 = .ok (.ifCond .eq 7, 3) := by decide +kernel
theorem dX3_complete_115 : decode cX3_complete 115 = .ok (.iconst 1, 1) := by decide +kernel
theorem dX3_complete_116 : decode cX3_complete 116 = .ok (.goto 4, 3) := by decide +kernel
theorem dX3_complete_119 : decode cX3_complete 119 = .ok (.iconst 0, 1) := by decide +kernel
theorem dX3_complete_120 : decode cX3_complete 120 = .ok (.ireturn, 1) := by decide +kernel
theorem dX3_completeWithVariable_0 : decode cX3_completeWithVariable 0 = .ok (.aload_n 0, 1) := by decide +kernel
theorem dX3_completeWithVariable_1 : decode cX3_completeWithVariable 1 = .ok (.getfield 27, 3) := by decide +kernel
theorem dX3_completeWithVariable_4 : decode cX3_completeWithVariable 4 = .ok (.iload_n 2, 1) := by decide +kernel
theorem dX3_completeWithVariable_5 : decode cX3_completeWithVariable 5 = .ok (.isub, 1) := by decide +kernel
theorem dX3_completeWithVariable_6 : decode cX3_completeWithVariable 6 = .ok (.iload_n 3, 1) := by decide +kernel
theorem dX3_completeWithVariable_7 : decode cX3_completeWithVariable 7 = .ok (.isub, 1) := by decide +kernel
theorem dX3_completeWithVariable_8 : decode cX3_completeWithVariable 8 = .ok (.istore 5, 2) := by decide +kernel
theorem dX3_completeWithVariable_10 : decode cX3_completeWithVariable 10 = .ok (.iload 5, 2) := by decide +kernel
theorem dX3_completeWithVariable_12 : decode cX3_completeWithVariable 12 = .ok (.aload_n 0, 1) := by decide +kernel
theorem dX3_completeWithVariable_13 : decode cX3_completeWithVariable 13 = .ok (.getfield 43, 3) := by decide +kernel
theorem dX3_completeWithVariable_16 : decode cX3_completeWithVariable 16 = .ok (.iload 4, 2) := by decide +kernel
theorem dX3_completeWithVariable_18 : decode cX3_completeWithVariable 18 = .ok (.isub, 1) := by decide +kernel
theorem dX3_completeWithVariable_19 : decode cX3_completeWithVariable 19 = .ok (.if_icmp .le 7, 3) := by decide +kernel
theorem dX3_completeWithVariable_22 : decode cX3_completeWithVariable 22 = .ok (.iconst 1, 1) := by decide +kernel
theorem dX3_completeWithVariable_23 : decode cX3_completeWithVariable 23 = .ok (.goto 4, 3) := by decide +kernel
theorem dX3_completeWithVariable_26 : decode cX3_completeWithVariable 26 = .ok (.iconst 0, 1) := by decide +kernel
theorem dX3_completeWithVariable_27 : decode cX3_completeWithVariable 27 = .ok (.istore 6, 2) := by decide +kernel
theorem dX3_completeWithVariable_29 : decode cX3_completeWithVariable 29 = .ok (.iload 6, 2) := by decide +kernel
theorem dX3_completeWithVariable_31 : decode cX3_completeWithVariable 31 = .ok (.ifCond .eq 7, 3) := by decide +kernel
theorem dX3_completeWithVariable_34 : decode cX3_completeWithVariable 34 = .ok (.iconst 0, 1) := by decide +kernel
theorem dX3_completeWithVariable_35 : decode cX3_completeWithVariable 35 = .ok (.goto 5, 3) := by decide +kernel
theorem dX3_completeWithVariable_38 : decode cX3_completeWithVariable 38 = .ok (.iload 4, 2) := by decide +kernel
theorem dX3_completeWithVariable_40 : decode cX3_completeWithVariable 40 = .ok (.istore 7, 2) := by decide +kernel
theorem dX3_completeWithVariable_42 : decode cX3_completeWithVariable 42 = .ok (.iload 4, 2) := by decide +kernel
theorem dX3_completeWithVariable_44 : decode cX3_completeWithVariable 44 = .ok (.aload_n 0, 1) := by decide +kernel
theorem dX3_completeWithVariable_45 : decode cX3_completeWithVariable 45 = .ok (.getfield 43, 3) := by decide +kernel
theorem dX3_completeWithVariable_48 : decode cX3_completeWithVariable 48 = .ok (.iconst 1, 1) := by decide +kernel
theorem dX3_completeWithVariable_49 : decode cX3_completeWithVariable 49 = .ok (.isub, 1) := by decide +kernel
theorem dX3_completeWithVariable_50 : decode cX3_completeWithVariable 50 = .ok (.invokestatic 37, 3) := by decide +kernel
theorem dX3_completeWithVariable_53 : decode cX3_completeWithVariable 53 = .ok (.istore 8, 2) := by decide +kernel
theorem dX3_completeWithVariable_55 : decode cX3_completeWithVariable 55 = .ok (.iload 7, 2) := by decide +kernel
theorem dX3_completeWithVariable_57 : decode cX3_completeWithVariable 57 = .ok (.istore 9, 2) := by decide +kernel
theorem dX3_completeWithVariable_59 : decode cX3_completeWithVariable 59 = .ok (.iload 9, 2) := by decide +kernel
theorem dX3_completeWithVariable_61 : decode cX3_completeWithVariable 61 = .ok (.iload 8, 2) := by decide +kernel
theorem dX3_completeWithVariable_63 : decode cX3_completeWithVariable 63 = .ok (.if_icmp .gt 56, 3) := by decide +kernel
theorem dX3_completeWithVariable_66 : decode cX3_completeWithVariable 66 = .ok (.iload 4, 2) := by decide +kernel
theorem dX3_completeWithVariable_68 : decode cX3_completeWithVariable 68 = .ok (.iload 9, 2) := by decide +kernel
theorem dX3_completeWithVariable_70 : decode cX3_completeWithVariable 70 = .ok (.iconst 1, 1) := by decide +kernel
theorem dX3_completeWithVariable_71 : decode cX3_completeWithVariable 71 = .ok (.iadd, 1) := by decide +kernel
theorem dX3_completeWithVariable_72 : decode cX3_completeWithVariable 72 = .ok (.invokestatic 82, 3) := by decide +kernel
theorem dX3_completeWithVariable_75 : decode cX3_completeWithVariable 75 = .ok (.istore 10, 2) := by decide +kernel
theorem dX3_completeWithVariable_77 : decode cX3_completeWithVariable 77 = .ok (.aload_n 0, 1) := by decide +kernel
theorem dX3_completeWithVariable_78 : decode cX3_completeWithVariable 78 = .ok (.getfield 23, 3) := by decide +kernel
theorem dX3_completeWithVariable_81 : decode cX3_completeWithVariable 81 = .ok (.bipush 10, 2) := by decide +kernel
theorem dX3_completeWithVariable_83 : decode cX3_completeWithVariable 83 = .ok (.iload 9, 2) := by decide +kernel
theorem dX3_completeWithVariable_85 : decode cX3_completeWithVariable 85 = .ok (.iadd, 1) := by decide +kernel
theorem dX3_completeWithVariable_86 : decode cX3_completeWithVariable 86 = .ok (.invokevirtual 72, 3) := by decide +kernel
theorem dX3_completeWithVariable_89 : decode cX3_completeWithVariable 89 = .ok (.pop, 1) := by decide +kernel
theorem dX3_completeWithVariable_90 : decode cX3_completeWithVariable 90 = .ok (.aload_n 0, 1) := by decide +kernel
theorem dX3_completeWithVariable_91 : decode cX3_completeWithVariable 91 = .ok (.aload_n 1, 1) := by decide +kernel
theorem dX3_completeWithVariable_92 : decode cX3_completeWithVariable 92 = .ok (.iload_n 2, 1) := by decide +kernel
theorem dX3_completeWithVariable_93 : decode cX3_completeWithVariable 93 = .ok (.iconst 1, 1) := by decide +kernel
theorem dX3_completeWithVariable_94 : decode cX3_completeWithVariable 94 = .ok (.iadd, 1) := by decide +kernel
theorem dX3_completeWithVariable_95 : decode cX3_completeWithVariable 95 = .ok (.iload_n 3, 1) := by decide +kernel
theorem dX3_completeWithVariable_96 : decode cX3_completeWithVariable 96 = .ok (.iload 10, 2) := by decide +kernel
theorem dX3_completeWithVariable_98 : decode cX3_completeWithVariable 98 = .ok (.invokevirtual 46, 3) := by decide +kernel
theorem dX3_completeWithVariable_101 : decode cX3_completeWithVariable 101 = .ok (.ifCond .eq 5, 3) := by decide +kernel
theorem dX3_completeWithVariable_104 : decode cX3_completeWithVariable 104 = .ok (.iconst 1, 1) := by decide +kernel
theorem dX3_completeWithVariable_105 : decode cX3_completeWithVariable 105 = .ok (.ireturn, 1) := by decide +kernel
theorem dX3_completeWithVariable_106 : decode cX3_completeWithVariable 106 = .ok (.aload_n 0, 1) := by decide +kernel
theorem dX3_completeWithVariable_107 : decode cX3_completeWithVariable 107 = .ok (.getfield 23, 3) := by decide +kernel
theorem dX3_completeWithVariable_110 : decode cX3_completeWithVariable 110 = .ok (.invokevirtual 76, 3) := by decide +kernel
theorem dX3_completeWithVariable_113 : decode cX3_completeWithVariable 113 = .ok (.iinc 9 1, 3) := by decide +kernel
theorem dX3_completeWithVariable_116 : decode cX3_completeWithVariable 116 = .ok (.goto (-57), 3) := by decide +kernel
theorem dX3_completeWithVariable_119 : decode cX3_completeWithVariable 119 = .ok (.iconst 0, 1) := by decide +kernel
theorem dX3_completeWithVariable_120 : decode cX3_completeWithVariable 120 = .ok (.ireturn, 1) := by decide +kernel
theorem dX3_canBegin_0 : decode cX3_canBegin 0 = .ok (.iload_n 2, 1) := by decide +kernel
theorem dX3_canBegin_1 : decode cX3_canBegin 1 = .ok (.aload_n 0, 1) := by decide +kernel
theorem dX3_canBegin_2 : decode cX3_canBegin 2 = .ok (.getfield 31, 3) := by decide +kernel
theorem dX3_canBegin_5 : decode cX3_canBegin 5 = .ok (.iconst 1, 1) := by decide +kernel
theorem dX3_canBegin_6 : decode cX3_canBegin 6 = .ok (.if_icmp .ne 7, 3) := by decide +kernel
theorem dX3_canBegin_9 : decode cX3_canBegin 9 = .ok (.iconst 0, 1) := by decide +kernel
theorem dX3_canBegin_10 : decode cX3_canBegin 10 = .ok (.goto 4, 3) := by decide +kernel
theorem dX3_canBegin_13 : decode cX3_canBegin 13 = .ok (.iload_n 3, 1) := by decide +kernel
theorem dX3_canBegin_14 : decode cX3_canBegin 14 = .ok (.iadd, 1) := by decide +kernel
theorem dX3_canBegin_15 : decode cX3_canBegin 15 = .ok (.istore 4, 2) := by decide +kernel
theorem dX3_canBegin_17 : decode cX3_canBegin 17 = .ok (.iload_n 3, 1) := by decide +kernel
theorem dX3_canBegin_18 : decode cX3_canBegin 18 = .ok (.ifCond .le 8, 3) := by decide +kernel
theorem dX3_canBegin_21 : decode cX3_canBegin 21 = .ok (.bipush 8, 2) := by decide +kernel
theorem dX3_canBegin_23 : decode cX3_canBegin 23 = .ok (.goto 4, 3) := by decide +kernel
theorem dX3_canBegin_26 : decode cX3_canBegin 26 = .ok (.iload_n 2, 1) := by decide +kernel
theorem dX3_canBegin_27 : decode cX3_canBegin 27 = .ok (.istore 5, 2) := by decide +kernel
theorem dX3_canBegin_29 : decode cX3_canBegin 29 = .ok (.iconst 0, 1) := by decide +kernel
theorem dX3_canBegin_30 : decode cX3_canBegin 30 = .ok (.istore 6, 2) := by decide +kernel
theorem dX3_canBegin_32 : decode cX3_canBegin 32 = .ok (.iload 6, 2) := by decide +kernel
theorem dX3_canBegin_34 : decode cX3_canBegin 34 = .ok (.aload_n 1, 1) := by decide +kernel
theorem dX3_canBegin_35 : decode cX3_canBegin 35 = .ok (.getfield 54, 3) := by decide +kernel
theorem dX3_canBegin_38 : decode cX3_canBegin 38 = .ok (.if_icmp .ge 47, 3) := by decide +kernel
theorem dX3_canBegin_41 : decode cX3_canBegin 41 = .ok (.iload 6, 2) := by decide +kernel
theorem dX3_canBegin_43 : decode cX3_canBegin 43 = .ok (.bipush 6, 2) := by decide +kernel
theorem dX3_canBegin_45 : decode cX3_canBegin 45 = .ok (.if_icmp .ge 40, 3) := by decide +kernel
theorem dX3_canBegin_48 : decode cX3_canBegin 48 = .ok (.aload_n 0, 1) := by decide +kernel
theorem dX3_canBegin_49 : decode cX3_canBegin 49 = .ok (.getfield 12, 3) := by decide +kernel
theorem dX3_canBegin_52 : decode cX3_canBegin 52 = .ok (.aload_n 0, 1) := by decide +kernel
theorem dX3_canBegin_53 : decode cX3_canBegin 53 = .ok (.getfield 23, 3) := by decide +kernel
theorem dX3_canBegin_56 : decode cX3_canBegin 56 = .ok (.aload_n 1, 1) := by decide +kernel
theorem dX3_canBegin_57 : decode cX3_canBegin 57 = .ok (.getfield 59, 3) := by decide +kernel
theorem dX3_canBegin_60 : decode cX3_canBegin 60 = .ok (.iload 6, 2) := by decide +kernel
theorem dX3_canBegin_62 : decode cX3_canBegin 62 = .ok (.aaload, 1) := by decide +kernel
theorem dX3_canBegin_63 : decode cX3_canBegin 63 = .ok (.aload_n 0, 1) := by decide +kernel
theorem dX3_canBegin_64 : decode cX3_canBegin 64 = .ok (.getfield 31, 3) := by decide +kernel
theorem dX3_canBegin_67 : decode cX3_canBegin 67 = .ok (.iload 4, 2) := by decide +kernel
theorem dX3_canBegin_69 : decode cX3_canBegin 69 = .ok (.iload 5, 2) := by decide +kernel
theorem dX3_canBegin_71 : decode cX3_canBegin 71 = .ok (.invokevirtual 85, 3) := by decide +kernel
theorem dX3_canBegin_74 : decode cX3_canBegin 74 = .ok (.ifCond .ne 5, 3) := by decide +kernel
theorem dX3_canBegin_77 : decode cX3_canBegin 77 = .ok (.iconst 0, 1) := by decide +kernel
theorem dX3_canBegin_78 : decode cX3_canBegin 78 = .ok (.ireturn, 1) := by decide +kernel
theorem dX3_canBegin_79 : decode cX3_canBegin 79 = .ok (.iinc 6 1, 3) := by decide +kernel
theorem dX3_canBegin_82 : decode cX3_canBegin 82 = .ok (.goto (-50), 3) := by decide +kernel
theorem dX3_canBegin_85 : decode cX3_canBegin 85 = .ok (.iconst 1, 1) := by decide +kernel
theorem dX3_canBegin_86 : decode cX3_canBegin 86 = .ok (.ireturn, 1) := by decide +kernel
theorem dX4_init_0 : decode cX4_init 0 = .ok (.aload_n 0, 1) := by decide +kernel
theorem dX4_init_1 : decode cX4_init 1 = .ok (.invokespecial 3, 3) := by decide +kernel
theorem dX4_init_4 : decode cX4_init 4 = .ok (.aload_n 0, 1) := by decide +kernel
theorem dX4_init_5 : decode cX4_init 5 = .ok (.iconst (-1), 1) := by decide +kernel
theorem dX4_init_6 : decode cX4_init 6 = .ok (.putfield 9, 3) := by decide +kernel
theorem dX4_init_9 : decode cX4_init 9 = .ok (.aload_n 0, 1) := by decide +kernel
theorem dX4_init_10 : decode cX4_init 10 = .ok (.new 15, 3) := by decide +kernel
theorem dX4_init_13 : decode cX4_init 13 = .ok (.dup, 1) := by decide +kernel
theorem dX4_init_14 : decode cX4_init 14 = .ok (.bipush 40, 2) := by decide +kernel
theorem dX4_init_16 : decode cX4_init 16 = .ok (.invokespecial 17, 3) := by decide +kernel
theorem dX4_init_19 : decode cX4_init 19 = .ok (.putfield 20, 3) := by decide +kernel
theorem dX4_init_22 : decode cX4_init 22 = .ok (.return_, 1) := by decide +kernel
theorem dX5_init_0 : decode cX5_init 0 = .ok (.aload_n 0, 1) := by decide +kernel
theorem dX5_init_1 : decode cX5_init 1 = .ok (.invokespecial 3, 3) := by decide +kernel
theorem dX5_init_4 : decode cX5_init 4 = .ok (.aload_n 0, 1) := by decide +kernel
theorem dX5_init_5 : decode cX5_init 5 = .ok (.new 9, 3) := by decide +kernel
theorem dX5_init_8 : decode cX5_init 8 = .ok (.dup, 1) := by decide +kernel
theorem dX5_init_9 : decode cX5_init 9 = .ok (.invokespecial 11, 3) := by decide +kernel
theorem dX5_init_12 : decode cX5_init 12 = .ok (.putfield 12, 3) := by decide +kernel
theorem dX5_init_15 : decode cX5_init 15 = .ok (.aload_n 0, 1) := by decide +kernel
theorem dX5_init_16 : decode cX5_init 16 = .ok (.new 9, 3) := by decide +kernel
theorem dX5_init_19 : decode cX5_init 19 = .ok (.dup, 1) := by decide +kernel
theorem dX5_init_20 : decode cX5_init 20 = .ok (.invokespecial 11, 3) := by decide +kernel
theorem dX5_init_23 : decode cX5_init 23 = .ok (.putfield 18, 3) := by decide +kernel
theorem dX5_init_26 : decode cX5_init 26 = .ok (.aload_n 0, 1) := by decide +kernel
theorem dX5_init_27 : decode cX5_init 27 = .ok (.iconst 0, 1) := by decide +kernel
theorem dX5_init_28 : decode cX5_init 28 = .ok (.putfield 21, 3) := by decide +kernel
theorem dX5_init_31 : decode cX5_init 31 = .ok (.aload_n 0, 1) := by decide +kernel
theorem dX5_init_32 : decode cX5_init 32 = .ok (.new 25, 3) := by decide +kernel
theorem dX5_init_35 : decode cX5_init 35 = .ok (.dup, 1) := by decide +kernel
theorem dX5_init_36 : decode cX5_init 36 = .ok (.bipush 20, 2) := by decide +kernel
theorem dX5_init_38 : decode cX5_init 38 = .ok (.invokespecial 27, 3) := by decide +kernel
theorem dX5_init_41 : decode cX5_init 41 = .ok (.putfield 30, 3) := by decide +kernel
theorem dX5_init_44 : decode cX5_init 44 = .ok (.aload_n 0, 1) := by decide +kernel
theorem dX5_init_45 : decode cX5_init 45 = .ok (.iconst 4, 1) := by decide +kernel
theorem dX5_init_46 : decode cX5_init 46 = .ok (.anewarray 34, 3) := by decide +kernel
theorem dX5_init_49 : decode cX5_init 49 = .ok (.putfield 36, 3) := by decide +kernel
theorem dX5_init_52 : decode cX5_init 52 = .ok (.aload_n 0, 1) := by decide +kernel
theorem dX5_init_53 : decode cX5_init 53 = .ok (.new 40, 3) := by decide +kernel
theorem dX5_init_56 : decode cX5_init 56 = .ok (.dup, 1) := by decide +kernel
theorem dX5_init_57 : decode cX5_init 57 = .ok (.invokespecial 42, 3) := by decide +kernel
theorem dX5_init_60 : decode cX5_init 60 = .ok (.putfield 43, 3) := by decide +kernel
theorem dX5_init_63 : decode cX5_init 63 = .ok (.aload_n 0, 1) := by decide +kernel
theorem dX5_init_64 : decode cX5_init 64 = .ok (.new 47, 3) := by decide +kernel
theorem dX5_init_67 : decode cX5_init 67 = .ok (.dup, 1) := by decide +kernel
theorem dX5_init_68 : decode cX5_init 68 = .ok (.invokespecial 49, 3) := by decide +kernel
theorem dX5_init_71 : decode cX5_init 71 = .ok (.putfield 50, 3) := by decide +kernel
theorem dX5_init_74 : decode cX5_init 74 = .ok (.aload_n 0, 1) := by decide +kernel
theorem dX5_init_75 : decode cX5_init 75 = .ok (.new 25, 3) := by decide +kernel
theorem dX5_init_78 : decode cX5_init 78 = .ok (.dup, 1) := by decide +kernel
theorem dX5_init_79 : decode cX5_init 79 = .ok (.bipush 8, 2) := by decide +kernel
theorem dX5_init_81 : decode cX5_init 81 = .ok (.invokespecial 27, 3) := by decide +kernel
theorem dX5_init_84 : decode cX5_init 84 = .ok (.putfield 54, 3) := by decide +kernel
theorem dX5_init_87 : decode cX5_init 87 = .ok (.aload_n 0, 1) := by decide +kernel
theorem dX5_init_88 : decode cX5_init 88 = .ok (.new 25, 3) := by decide +kernel
theorem dX5_init_91 : decode cX5_init 91 = .ok (.dup, 1) := by decide +kernel
theorem dX5_init_92 : decode cX5_init 92 = .ok (.bipush 8, 2) := by decide +kernel
theorem dX5_init_94 : decode cX5_init 94 = .ok (.invokespecial 27, 3) := by decide +kernel
theorem dX5_init_97 : decode cX5_init 97 = .ok (.putfield 57, 3) := by decide +kernel
theorem dX5_init_100 : decode cX5_init 100 = .ok (.iconst 0, 1) := by decide +kernel
theorem dX5_init_101 : decode cX5_init 101 = .ok (.istore_n 1, 1) := by decide +kernel
theorem dX5_init_102 : decode cX5_init 102 = .ok (.iload_n 1, 1) := by decide +kernel
theorem dX5_init_103 : decode cX5_init 103 = .ok (.aload_n 0, 1) := by decide +kernel
theorem dX5_init_104 : decode cX5_init 104 = .ok (.getfield 36, 3) := by decide +kernel
theorem dX5_init_107 : decode cX5_init 107 = .ok (.arraylength, 1) := by decide +kernel
theorem dX5_init_108 : decode cX5_init 108 = .ok (.if_icmp .ge 22, 3) := by decide +kernel
theorem dX5_init_111 : decode cX5_init 111 = .ok (.aload_n 0, 1) := by decide +kernel
theorem dX5_init_112 : decode cX5_init 112 = .ok (.getfield 36, 3) := by decide +kernel
theorem dX5_init_115 : decode cX5_init 115 = .ok (.iload_n 1, 1) := by decide +kernel
theorem dX5_init_116 : decode cX5_init 116 = .ok (.new 34, 3) := by decide +kernel
theorem dX5_init_119 : decode cX5_init 119 = .ok (.dup, 1) := by decide +kernel
theorem dX5_init_120 : decode cX5_init 120 = .ok (.invokespecial 60, 3) := by decide +kernel
theorem dX5_init_123 : decode cX5_init 123 = .ok (.aastore, 1) := by decide +kernel
theorem dX5_init_124 : decode cX5_init 124 = .ok (.iinc 1 1, 3) := by decide +kernel
theorem dX5_init_127 : decode cX5_init 127 = .ok (.goto (-25), 3) := by decide +kernel
theorem dX5_init_130 : decode cX5_init 130 = .ok (.return_, 1) := by decide +kernel
theorem dX5_reset_0 : decode cX5_reset 0 = .ok (.iload_n 1, 1) := by decide +kernel
theorem dX5_reset_1 : decode cX5_reset 1 = .ok (.iconst 1, 1) := by decide +kernel
theorem dX5_reset_2 : decode cX5_reset 2 = .ok (.if_icmp .lt 8, 3) := by decide +kernel
theorem dX5_reset_5 : decode cX5_reset 5 = .ok (.iload_n 1, 1) := by decide +kernel
theorem dX5_reset_6 : decode cX5_reset 6 = .ok (.iconst 3, 1) := by decide +kernel
theorem dX5_reset_7 : decode cX5_reset 7 = .ok (.if_icmp .le 5, 3) := by decide +kernel
theorem dX5_reset_10 : decode cX5_reset 10 = .ok (.iconst (-1), 1) := by decide +kernel
theorem dX5_reset_11 : decode cX5_reset 11 = .ok (.ireturn, 1) := by decide +kernel
theorem dX5_reset_12 : decode cX5_reset 12 = .ok (.aload_n 0, 1) := by decide +kernel
theorem dX5_reset_13 : decode cX5_reset 13 = .ok (.getfield 12, 3) := by decide +kernel
theorem dX5_reset_16 : decode cX5_reset 16 = .ok (.getfield 61, 3) := by decide +kernel
theorem dX5_reset_19 : decode cX5_reset 19 = .ok (.istore_n 2, 1) := by decide +kernel
theorem dX5_reset_20 : decode cX5_reset 20 = .ok (.aload_n 0, 1) := by decide +kernel
theorem dX5_reset_21 : decode cX5_reset 21 = .ok (.getfield 12, 3) := by decide +kernel
theorem dX5_reset_24 : decode cX5_reset 24 = .ok (.iload_n 1, 1) := by decide +kernel
theorem dX5_reset_25 : decode cX5_reset 25 = .ok (.invokevirtual 65, 3) := by decide +kernel
theorem dX5_reset_28 : decode cX5_reset 28 = .ok (.iload_n 2, 1) := by decide +kernel
theorem dX5_reset_29 : decode cX5_reset 29 = .ok (.ireturn, 1) := by decide +kernel
theorem dX5_letters_0 : decode cX5_letters 0 = .ok (.aload_n 0, 1) := by decide +kernel
theorem dX5_letters_1 : decode cX5_letters 1 = .ok (.getfield 12, 3) := by decide +kernel
theorem dX5_letters_4 : decode cX5_letters 4 = .ok (.getfield 61, 3) := by decide +kernel
theorem dX5_letters_7 : decode cX5_letters 7 = .ok (.ireturn, 1) := by decide +kernel
theorem dX5_append_0 : decode cX5_append 0 = .ok (.iload_n 1, 1) := by decide +kernel
theorem dX5_append_1 : decode cX5_append 1 = .ok (.ifCond .lt 20, 3) := by decide +kernel
theorem dX5_append_4 : decode cX5_append 4 = .ok (.iload_n 1, 1) := by decide +kernel
theorem dX5_append_5 : decode cX5_append 5 = .ok (.bipush 127, 2) := by decide +kernel
theorem dX5_append_7 : decode cX5_append 7 = .ok (.if_icmp .gt 14, 3) := by decide +kernel
theorem dX5_append_10 : decode cX5_append 10 = .ok (.iload_n 2, 1) := by decide +kernel
theorem dX5_append_11 : decode cX5_append 11 = .ok (.iconst 1, 1) := by decide +kernel
theorem dX5_append_12 : decode cX5_append 12 = .ok (.if_icmp .lt 9, 3) := by decide +kernel
theorem dX5_append_15 : decode cX5_append 15 = .ok (.iload_n 2, 1) := by decide +kernel
theorem dX5_append_16 : decode cX5_append 16 = .ok (.bipush 20, 2) := by decide +kernel
theorem dX5_append_18 : decode cX5_append 18 = .ok (.if_icmp .le 5, 3) := by decide +kernel
theorem dX5_append_21 : decode cX5_append 21 = .ok (.iconst (-1), 1) := by decide +kernel
theorem dX5_append_22 : decode cX5_append 22 = .ok (.ireturn, 1) := by decide +kernel
theorem dX5_append_23 : decode cX5_append 23 = .ok (.aload_n 0, 1) := by decide +kernel
theorem dX5_append_24 : decode cX5_append 24 = .ok (.getfield 30, 3) := by decide +kernel
theorem dX5_append_27 : decode cX5_append 27 = .ok (.getfield 68, 3) := by decide +kernel
theorem dX5_append_30 : decode cX5_append 30 = .ok (.iload_n 2, 1) := by decide +kernel
theorem dX5_append_31 : decode cX5_append 31 = .ok (.iadd, 1) := by decide +kernel
theorem dX5_append_32 : decode cX5_append 32 = .ok (.bipush 20, 2) := by decide +kernel
theorem dX5_append_34 : decode cX5_append 34 = .ok (.if_icmp .le 6, 3) := by decide +kernel
theorem dX5_append_37 : decode cX5_append 37 = .ok (.bipush (-4), 2) := by decide +kernel
theorem dX5_append_39 : decode cX5_append 39 = .ok (.ireturn, 1) := by decide +kernel
theorem dX5_append_40 : decode cX5_append 40 = .ok (.iconst 0, 1) := by decide +kernel
theorem dX5_append_41 : decode cX5_append 41 = .ok (.istore_n 3, 1) := by decide +kernel
theorem dX5_append_42 : decode cX5_append 42 = .ok (.iload_n 3, 1) := by decide +kernel
theorem dX5_append_43 : decode cX5_append 43 = .ok (.iload_n 2, 1) := by decide +kernel
theorem dX5_append_44 : decode cX5_append 44 = .ok (.if_icmp .ge 18, 3) := by decide +kernel
theorem dX5_append_47 : decode cX5_append 47 = .ok (.aload_n 0, 1) := by decide +kernel
theorem dX5_append_48 : decode cX5_append 48 = .ok (.getfield 30, 3) := by decide +kernel
theorem dX5_append_51 : decode cX5_append 51 = .ok (.iload_n 1, 1) := by decide +kernel
theorem dX5_append_52 : decode cX5_append 52 = .ok (.invokevirtual 71, 3) := by decide +kernel
theorem dX5_append_55 : decode cX5_append 55 = .ok (.pop, 1) := by decide +kernel
theorem dX5_append_56 : decode cX5_append 56 = .ok (.iinc 3 1, 3) := by decide +kernel
theorem dX5_append_59 : decode cX5_append 59 = .ok (.goto (-17), 3) := by decide +kernel
theorem dX5_append_62 : decode cX5_append 62 = .ok (.aload_n 0, 1) := by decide +kernel
theorem dX5_append_63 : decode cX5_append 63 = .ok (.getfield 30, 3) := by decide +kernel
theorem dX5_append_66 : decode cX5_append 66 = .ok (.getfield 68, 3) := by decide +kernel
theorem dX5_append_69 : decode cX5_append 69 = .ok (.ireturn, 1) := by decide +kernel
theorem dX5_clearInput_0 : decode cX5_clearInput 0 = .ok (.aload_n 0, 1) := by decide +kernel
theorem dX5_clearInput_1 : decode cX5_clearInput 1 = .ok (.getfield 30, 3) := by decide +kernel
theorem dX5_clearInput_4 : decode cX5_clearInput 4 = .ok (.getfield 68, 3) := by decide +kernel
theorem dX5_clearInput_7 : decode cX5_clearInput 7 = .ok (.istore_n 1, 1) := by decide +kernel
theorem dX5_clearInput_8 : decode cX5_clearInput 8 = .ok (.aload_n 0, 1) := by decide +kernel
theorem dX5_clearInput_9 : decode cX5_clearInput 9 = .ok (.getfield 30, 3) := by decide +kernel
theorem dX5_clearInput_12 : decode cX5_clearInput 12 = .ok (.invokevirtual 75, 3) := by decide +kernel
theorem dX5_clearInput_15 : decode cX5_clearInput 15 = .ok (.iload_n 1, 1) := by decide +kernel
theorem dX5_clearInput_16 : decode cX5_clearInput 16 = .ok (.ireturn, 1) := by decide +kernel
theorem dX5_takePattern_0 : decode cX5_takePattern 0 = .ok (.aload_n 0, 1) := by decide +kernel
theorem dX5_takePattern_1 : decode cX5_takePattern 1 = .ok (.aload_n 0, 1) := by decide +kernel
theorem dX5_takePattern_2 : decode cX5_takePattern 2 = .ok (.getfield 30, 3) := by decide +kernel
theorem dX5_takePattern_5 : decode cX5_takePattern 5 = .ok (.invokevirtual 78, 3) := by decide +kernel
theorem dX5_takePattern_8 : decode cX5_takePattern 8 = .ok (.istore_n 1, 1) := by decide +kernel
theorem dX5_takePattern_9 : decode cX5_takePattern 9 = .ok (.aload_n 0, 1) := by decide +kernel
theorem dX5_takePattern_10 : decode cX5_takePattern 10 = .ok (.getfield 30, 3) := by decide +kernel
theorem dX5_takePattern_13 : decode cX5_takePattern 13 = .ok (.invokevirtual 75, 3) := by decide +kernel
theorem dX5_takePattern_16 : decode cX5_takePattern 16 = .ok (.iload_n 1, 1) := by decide +kernel
theorem dX5_takePattern_17 : decode cX5_takePattern 17 = .ok (.ireturn, 1) := by decide +kernel
theorem dX5_takeWord_0 : decode cX5_takeWord 0 = .ok (.aload_n 0, 1) := by decide +kernel
theorem dX5_takeWord_1 : decode cX5_takeWord 1 = .ok (.aload_n 0, 1) := by decide +kernel
theorem dX5_takeWord_2 : decode cX5_takeWord 2 = .ok (.getfield 30, 3) := by decide +kernel
theorem dX5_takeWord_5 : decode cX5_takeWord 5 = .ok (.invokevirtual 82, 3) := by decide +kernel
theorem dX5_takeWord_8 : decode cX5_takeWord 8 = .ok (.ifCond .eq 24, 3) := by decide +kernel
theorem dX5_takeWord_11 : decode cX5_takeWord 11 = .ok (.aload_n 0, 1) := by decide +kernel
theorem dX5_takeWord_12 : decode cX5_takeWord 12 = .ok (.getfield 54, 3) := by decide +kernel
theorem dX5_takeWord_15 : decode cX5_takeWord 15 = .ok (.invokevirtual 85, 3) := by decide +kernel
theorem dX5_takeWord_18 : decode cX5_takeWord 18 = .ok (.aload_n 0, 1) := by decide +kernel
theorem dX5_takeWord_19 : decode cX5_takeWord 19 = .ok (.getfield 54, 3) := by decide +kernel
theorem dX5_takeWord_22 : decode cX5_takeWord 22 = .ok (.getfield 68, 3) := by decide +kernel
theorem dX5_takeWord_25 : decode cX5_takeWord 25 = .ok (.if_icmp .ne 7, 3) := by decide +kernel
theorem dX5_takeWord_28 : decode cX5_takeWord 28 = .ok (.iconst 1, 1) := by decide +kernel
theorem dX5_takeWord_29 : decode cX5_takeWord 29 = .ok (.goto 4, 3) := by decide +kernel
theorem dX5_takeWord_32 : decode cX5_takeWord 32 = .ok (.iconst 0, 1) := by decide +kernel
theorem dX5_takeWord_33 : decode cX5_takeWord 33 = .ok (.istore_n 1, 1) := by decide +kernel
theorem dX5_takeWord_34 : decode cX5_takeWord 34 = .ok (.aload_n 0, 1) := by decide +kernel
theorem dX5_takeWord_35 : decode cX5_takeWord 35 = .ok (.getfield 30, 3) := by decide +kernel
theorem dX5_takeWord_38 : decode cX5_takeWord 38 = .ok (.invokevirtual 75, 3) := by decide +kernel
theorem dX5_takeWord_41 : decode cX5_takeWord 41 = .ok (.iload_n 1, 1) := by decide +kernel
theorem dX5_takeWord_42 : decode cX5_takeWord 42 = .ok (.ireturn, 1) := by decide +kernel
theorem dX5_readPattern_0 : decode cX5_readPattern 0 = .ok (.aload_n 0, 1) := by decide +kernel
theorem dX5_readPattern_1 : decode cX5_readPattern 1 = .ok (.aload_n 1, 1) := by decide +kernel
theorem dX5_readPattern_2 : decode cX5_readPattern 2 = .ok (.invokevirtual 82, 3) := by decide +kernel
theorem dX5_readPattern_5 : decode cX5_readPattern 5 = .ok (.ifCond .eq 14, 3) := by decide +kernel
theorem dX5_readPattern_8 : decode cX5_readPattern 8 = .ok (.aload_n 0, 1) := by decide +kernel
theorem dX5_readPattern_9 : decode cX5_readPattern 9 = .ok (.getfield 54, 3) := by decide +kernel
theorem dX5_readPattern_12 : decode cX5_readPattern 12 = .ok (.getfield 68, 3) := by decide +kernel
theorem dX5_readPattern_15 : decode cX5_readPattern 15 = .ok (.iconst 1, 1) := by decide +kernel
theorem dX5_readPattern_16 : decode cX5_readPattern 16 = .ok (.if_icmp .ge 5, 3) := by decide +kernel
theorem dX5_readPattern_19 : decode cX5_readPattern 19 = .ok (.iconst 0, 1) := by decide +kernel
theorem dX5_readPattern_20 : decode cX5_readPattern 20 = .ok (.ireturn, 1) := by decide +kernel
theorem dX5_readPattern_21 : decode cX5_readPattern 21 = .ok (.aload_n 0, 1) := by decide +kernel
theorem dX5_readPattern_22 : decode cX5_readPattern 22 = .ok (.getfield 54, 3) := by decide +kernel
theorem dX5_readPattern_25 : decode cX5_readPattern 25 = .ok (.invokevirtual 89, 3) := by decide +kernel
theorem dX5_readPattern_28 : decode cX5_readPattern 28 = .ok (.iconst 1, 1) := by decide +kernel
theorem dX5_readPattern_29 : decode cX5_readPattern 29 = .ok (.ireturn, 1) := by decide +kernel
theorem dX5_readSymbols_0 : decode cX5_readSymbols 0 = .ok (.aload_n 0, 1) := by decide +kernel
theorem dX5_readSymbols_1 : decode cX5_readSymbols 1 = .ok (.getfield 54, 3) := by decide +kernel
theorem dX5_readSymbols_4 : decode cX5_readSymbols 4 = .ok (.invokevirtual 75, 3) := by decide +kernel
theorem dX5_readSymbols_7 : decode cX5_readSymbols 7 = .ok (.aload_n 1, 1) := by decide +kernel
theorem dX5_readSymbols_8 : decode cX5_readSymbols 8 = .ok (.getfield 68, 3) := by decide +kernel
theorem dX5_readSymbols_11 : decode cX5_readSymbols 11 = .ok (.bipush 8, 2) := by decide +kernel
theorem dX5_readSymbols_13 : decode cX5_readSymbols 13 = .ok (.if_icmp .le 5, 3) := by decide +kernel
theorem dX5_readSymbols_16 : decode cX5_readSymbols 16 = .ok (.iconst 0, 1) := by decide +kernel
theorem dX5_readSymbols_17 : decode cX5_readSymbols 17 = .ok (.ireturn, 1) := by decide +kernel
theorem dX5_readSymbols_18 : decode cX5_readSymbols 18 = .ok (.iconst 0, 1) := by decide +kernel
theorem dX5_readSymbols_19 : decode cX5_readSymbols 19 = .ok (.istore_n 2, 1) := by decide +kernel
theorem dX5_readSymbols_20 : decode cX5_readSymbols 20 = .ok (.iload_n 2, 1) := by decide +kernel
theorem dX5_readSymbols_21 : decode cX5_readSymbols 21 = .ok (.aload_n 1, 1) := by decide +kernel
theorem dX5_readSymbols_22 : decode cX5_readSymbols 22 = .ok (.getfield 68, 3) := by decide +kernel
theorem dX5_readSymbols_25 : decode cX5_readSymbols 25 = .ok (.if_icmp .ge 35, 3) := by decide +kernel
theorem dX5_readSymbols_28 : decode cX5_readSymbols 28 = .ok (.aload_n 0, 1) := by decide +kernel
theorem dX5_readSymbols_29 : decode cX5_readSymbols 29 = .ok (.aload_n 1, 1) := by decide +kernel
theorem dX5_readSymbols_30 : decode cX5_readSymbols 30 = .ok (.iload_n 2, 1) := by decide +kernel
theorem dX5_readSymbols_31 : decode cX5_readSymbols 31 = .ok (.invokevirtual 92, 3) := by decide +kernel
theorem dX5_readSymbols_34 : decode cX5_readSymbols 34 = .ok (.invokevirtual 96, 3) := by decide +kernel
theorem dX5_readSymbols_37 : decode cX5_readSymbols 37 = .ok (.istore_n 3, 1) := by decide +kernel
theorem dX5_readSymbols_38 : decode cX5_readSymbols 38 = .ok (.iload_n 3, 1) := by decide +kernel
theorem dX5_readSymbols_39 : decode cX5_readSymbols 39 = .ok (.iconst (-1), 1) := by decide +kernel
theorem dX5_readSymbols_40 : decode cX5_readSymbols 40 = .ok (.if_icmp .ne 5, 3) := by decide +kernel
theorem dX5_readSymbols_43 : decode cX5_readSymbols 43 = .ok (.iconst 0, 1) := by decide +kernel
theorem dX5_readSymbols_44 : decode cX5_readSymbols 44 = .ok (.ireturn, 1) := by decide +kernel
theorem dX5_readSymbols_45 : decode cX5_readSymbols 45 = .ok (.aload_n 0, 1) := by decide +kernel
theorem dX5_readSymbols_46 : decode cX5_readSymbols 46 = .ok (.getfield 54, 3) := by decide +kernel
theorem dX5_readSymbols_49 : decode cX5_readSymbols 49 = .ok (.iload_n 3, 1) := by decide +kernel
theorem dX5_readSymbols_50 : decode cX5_readSymbols 50 = .ok (.invokevirtual 71, 3) := by decide +kernel
theorem dX5_readSymbols_53 : decode cX5_readSymbols 53 = .ok (.pop, 1) := by decide +kernel
theorem dX5_readSymbols_54 : decode cX5_readSymbols 54 = .ok (.iinc 2 1, 3) := by decide +kernel
theorem dX5_readSymbols_57 : decode cX5_readSymbols 57 = .ok (.goto (-37), 3) := by decide +kernel
theorem dX5_readSymbols_60 : decode cX5_readSymbols 60 = .ok (.iconst 1, 1) := by decide +kernel
theorem dX5_readSymbols_61 : decode cX5_readSymbols 61 = .ok (.ireturn, 1) := by decide +kernel
theorem dX5_codeOf_0 : decode cX5_codeOf 0 = .ok (.iload_n 1, 1) := by decide +kernel
theorem dX5_codeOf_1 : decode cX5_codeOf 1 = .ok (.tableswitch 43 87 90 #[40, 31, 34, 37], 31) := by decide +kernel
theorem dX5_codeOf_32 : decode cX5_codeOf 32 = .ok (.bipush 10, 2) := by decide +kernel
theorem dX5_codeOf_34 : decode cX5_codeOf 34 = .ok (.ireturn, 1) := by decide +kernel
theorem dX5_codeOf_35 : decode cX5_codeOf 35 = .ok (.bipush 11, 2) := by decide +kernel
theorem dX5_codeOf_37 : decode cX5_codeOf 37 = .ok (.ireturn, 1) := by decide +kernel
theorem dX5_codeOf_38 : decode cX5_codeOf 38 = .ok (.bipush 12, 2) := by decide +kernel
theorem dX5_codeOf_40 : decode cX5_codeOf 40 = .ok (.ireturn, 1) := by decide +kernel
theorem dX5_codeOf_41 : decode cX5_codeOf 41 = .ok (.bipush 13, 2) := by decide +kernel
theorem dX5_codeOf_43 : decode cX5_codeOf 43 = .ok (.ireturn, 1) := by decide +kernel
theorem dX5_codeOf_44 : decode cX5_codeOf 44 = .ok (.iload_n 1, 1) := by decide +kernel
theorem dX5_codeOf_45 : decode cX5_codeOf 45 = .ok (.bipush 97, 2) := by decide +kernel
theorem dX5_codeOf_47 : decode cX5_codeOf 47 = .ok (.if_icmp .lt 21, 3) := by decide +kernel
theorem dX5_codeOf_50 : decode cX5_codeOf 50 = .ok (.iload_n 1, 1) := by decide +kernel
theorem dX5_codeOf_51 : decode cX5_codeOf 51 = .ok (.bipush 97, 2) := by decide +kernel
theorem dX5_codeOf_53 : decode cX5_codeOf 53 = .ok (.aload_n 0, 1) := by decide +kernel
theorem dX5_codeOf_54 : decode cX5_codeOf 54 = .ok (.getfield 12, 3) := by decide +kernel
theorem dX5_codeOf_57 : decode cX5_codeOf 57 = .ok (.getfield 61, 3) := by decide +kernel
theorem dX5_codeOf_60 : decode cX5_codeOf 60 = .ok (.iadd, 1) := by decide +kernel
theorem dX5_codeOf_61 : decode cX5_codeOf 61 = .ok (.if_icmp .ge 7, 3) := by decide +kernel
theorem dX5_codeOf_64 : decode cX5_codeOf 64 = .ok (.iconst 1, 1) := by decide +kernel
theorem dX5_codeOf_65 : decode cX5_codeOf 65 = .ok (.goto 4, 3) := by decide +kernel
theorem dX5_codeOf_68 : decode cX5_codeOf 68 = .ok (.iconst 0, 1) := by decide +kernel
theorem dX5_codeOf_69 : decode cX5_codeOf 69 = .ok (.istore_n 2, 1) := by decide +kernel
theorem dX5_codeOf_70 : decode cX5_codeOf 70 = .ok (.iload_n 2, 1) := by decide +kernel
theorem dX5_codeOf_71 : decode cX5_codeOf 71 = .ok (.ifCond .eq 10, 3) := by decide +kernel
theorem dX5_codeOf_74 : decode cX5_codeOf 74 = .ok (.iload_n 1, 1) := by decide +kernel
theorem dX5_codeOf_75 : decode cX5_codeOf 75 = .ok (.bipush 97, 2) := by decide +kernel
theorem dX5_codeOf_77 : decode cX5_codeOf 77 = .ok (.isub, 1) := by decide +kernel
theorem dX5_codeOf_78 : decode cX5_codeOf 78 = .ok (.goto 4, 3) := by decide +kernel
theorem dX5_codeOf_81 : decode cX5_codeOf 81 = .ok (.iconst (-1), 1) := by decide +kernel
theorem dX5_codeOf_82 : decode cX5_codeOf 82 = .ok (.ireturn, 1) := by decide +kernel
theorem dX5_inputIs_0 : decode cX5_inputIs 0 = .ok (.aload_n 0, 1) := by decide +kernel
theorem dX5_inputIs_1 : decode cX5_inputIs 1 = .ok (.getfield 30, 3) := by decide +kernel
theorem dX5_inputIs_4 : decode cX5_inputIs 4 = .ok (.getfield 68, 3) := by decide +kernel
theorem dX5_inputIs_7 : decode cX5_inputIs 7 = .ok (.aload_n 1, 1) := by decide +kernel
theorem dX5_inputIs_8 : decode cX5_inputIs 8 = .ok (.invokevirtual 99, 3) := by decide +kernel
theorem dX5_inputIs_11 : decode cX5_inputIs 11 = .ok (.if_icmp .eq 5, 3) := by decide +kernel
theorem dX5_inputIs_14 : decode cX5_inputIs 14 = .ok (.iconst 0, 1) := by decide +kernel
theorem dX5_inputIs_15 : decode cX5_inputIs 15 = .ok (.ireturn, 1) := by decide +kernel
theorem dX5_inputIs_16 : decode cX5_inputIs 16 = .ok (.iconst 0, 1) := by decide +kernel
theorem dX5_inputIs_17 : decode cX5_inputIs 17 = .ok (.istore_n 2, 1) := by decide +kernel
theorem dX5_inputIs_18 : decode cX5_inputIs 18 = .ok (.iload_n 2, 1) := by decide +kernel
theorem dX5_inputIs_19 : decode cX5_inputIs 19 = .ok (.aload_n 1, 1) := by decide +kernel
theorem dX5_inputIs_20 : decode cX5_inputIs 20 = .ok (.invokevirtual 99, 3) := by decide +kernel
theorem dX5_inputIs_23 : decode cX5_inputIs 23 = .ok (.if_icmp .ge 27, 3) := by decide +kernel
theorem dX5_inputIs_26 : decode cX5_inputIs 26 = .ok (.aload_n 0, 1) := by decide +kernel
theorem dX5_inputIs_27 : decode cX5_inputIs 27 = .ok (.getfield 30, 3) := by decide +kernel
theorem dX5_inputIs_30 : decode cX5_inputIs 30 = .ok (.iload_n 2, 1) := by decide +kernel
theorem dX5_inputIs_31 : decode cX5_inputIs 31 = .ok (.invokevirtual 92, 3) := by decide +kernel
theorem dX5_inputIs_34 : decode cX5_inputIs 34 = .ok (.aload_n 1, 1) := by decide +kernel
theorem dX5_inputIs_35 : decode cX5_inputIs 35 = .ok (.iload_n 2, 1) := by decide +kernel
theorem dX5_inputIs_36 : decode cX5_inputIs 36 = .ok (.invokevirtual 104, 3) := by decide +kernel
theorem dX5_inputIs_39 : decode cX5_inputIs 39 = .ok (.if_icmp .eq 5, 3) := by decide +kernel
theorem dX5_inputIs_42 : decode cX5_inputIs 42 = .ok (.iconst 0, 1) := by decide +kernel
theorem dX5_inputIs_43 : decode cX5_inputIs 43 = .ok (.ireturn, 1) := by decide +kernel
theorem dX5_inputIs_44 : decode cX5_inputIs 44 = .ok (.iinc 2 1, 3) := by decide +kernel
theorem dX5_inputIs_47 : decode cX5_inputIs 47 = .ok (.goto (-29), 3) := by decide +kernel
theorem dX5_inputIs_50 : decode cX5_inputIs 50 = .ok (.iconst 1, 1) := by decide +kernel
theorem dX5_inputIs_51 : decode cX5_inputIs 51 = .ok (.ireturn, 1) := by decide +kernel
theorem dX5_setPattern_0 : decode cX5_setPattern 0 = .ok (.aload_n 0, 1) := by decide +kernel
theorem dX5_setPattern_1 : decode cX5_setPattern 1 = .ok (.invokevirtual 108, 3) := by decide +kernel
theorem dX5_setPattern_4 : decode cX5_setPattern 4 = .ok (.istore_n 2, 1) := by decide +kernel
theorem dX5_setPattern_5 : decode cX5_setPattern 5 = .ok (.iload_n 1, 1) := by decide +kernel
theorem dX5_setPattern_6 : decode cX5_setPattern 6 = .ok (.invokestatic 112, 3) := by decide +kernel
theorem dX5_setPattern_9 : decode cX5_setPattern 9 = .ok (.ifCond .ne 6, 3) := by decide +kernel
theorem dX5_setPattern_12 : decode cX5_setPattern 12 = .ok (.bipush (-2), 2) := by decide +kernel
theorem dX5_setPattern_14 : decode cX5_setPattern 14 = .ok (.ireturn, 1) := by decide +kernel
theorem dX5_setPattern_15 : decode cX5_setPattern 15 = .ok (.iload_n 2, 1) := by decide +kernel
theorem dX5_setPattern_16 : decode cX5_setPattern 16 = .ok (.ifCond .ne 6, 3) := by decide +kernel
theorem dX5_setPattern_19 : decode cX5_setPattern 19 = .ok (.bipush (-5), 2) := by decide +kernel
theorem dX5_setPattern_21 : decode cX5_setPattern 21 = .ok (.ireturn, 1) := by decide +kernel
theorem dX5_setPattern_22 : decode cX5_setPattern 22 = .ok (.aload_n 0, 1) := by decide +kernel
theorem dX5_setPattern_23 : decode cX5_setPattern 23 = .ok (.iload_n 1, 1) := by decide +kernel
theorem dX5_setPattern_24 : decode cX5_setPattern 24 = .ok (.aload_n 0, 1) := by decide +kernel
theorem dX5_setPattern_25 : decode cX5_setPattern 25 = .ok (.getfield 54, 3) := by decide +kernel
theorem dX5_setPattern_28 : decode cX5_setPattern 28 = .ok (.invokevirtual 115, 3) := by decide +kernel
theorem dX5_setPattern_31 : decode cX5_setPattern 31 = .ok (.ireturn, 1) := by decide +kernel
theorem dX5_copy_0 : decode cX5_copy 0 = .ok (.iload_n 1, 1) := by decide +kernel
theorem dX5_copy_1 : decode cX5_copy 1 = .ok (.invokestatic 112, 3) := by decide +kernel
theorem dX5_copy_4 : decode cX5_copy 4 = .ok (.ifCond .eq 10, 3) := by decide +kernel
theorem dX5_copy_7 : decode cX5_copy 7 = .ok (.iload_n 2, 1) := by decide +kernel
theorem dX5_copy_8 : decode cX5_copy 8 = .ok (.invokestatic 112, 3) := by decide +kernel
theorem dX5_copy_11 : decode cX5_copy 11 = .ok (.ifCond .ne 6, 3) := by decide +kernel
theorem dX5_copy_14 : decode cX5_copy 14 = .ok (.bipush (-2), 2) := by decide +kernel
theorem dX5_copy_16 : decode cX5_copy 16 = .ok (.ireturn, 1) := by decide +kernel
theorem dX5_copy_17 : decode cX5_copy 17 = .ok (.aload_n 0, 1) := by decide +kernel
theorem dX5_copy_18 : decode cX5_copy 18 = .ok (.iload_n 1, 1) := by decide +kernel
theorem dX5_copy_19 : decode cX5_copy 19 = .ok (.aload_n 0, 1) := by decide +kernel
theorem dX5_copy_20 : decode cX5_copy 20 = .ok (.getfield 12, 3) := by decide +kernel
theorem dX5_copy_23 : decode cX5_copy 23 = .ok (.getfield 119, 3) := by decide +kernel
theorem dX5_copy_26 : decode cX5_copy 26 = .ok (.iload_n 2, 1) := by decide +kernel
theorem dX5_copy_27 : decode cX5_copy 27 = .ok (.aaload, 1) := by decide +kernel
theorem dX5_copy_28 : decode cX5_copy 28 = .ok (.invokevirtual 115, 3) := by decide +kernel
theorem dX5_copy_31 : decode cX5_copy 31 = .ok (.ireturn, 1) := by decide +kernel
theorem dX5_length_0 : decode cX5_length 0 = .ok (.iload_n 1, 1) := by decide +kernel
theorem dX5_length_1 : decode cX5_length 1 = .ok (.invokestatic 112, 3) := by decide +kernel
theorem dX5_length_4 : decode cX5_length 4 = .ok (.ifCond .eq 18, 3) := by decide +kernel
theorem dX5_length_7 : decode cX5_length 7 = .ok (.aload_n 0, 1) := by decide +kernel
theorem dX5_length_8 : decode cX5_length 8 = .ok (.getfield 12, 3) := by decide +kernel
theorem dX5_length_11 : decode cX5_length 11 = .ok (.getfield 119, 3) := by decide +kernel
theorem dX5_length_14 : decode cX5_length 14 = .ok (.iload_n 1, 1) := by decide +kernel
theorem dX5_length_15 : decode cX5_length 15 = .ok (.aaload, 1) := by decide +kernel
theorem dX5_length_16 : decode cX5_length 16 = .ok (.getfield 68, 3) := by decide +kernel
theorem dX5_length_19 : decode cX5_length 19 = .ok (.goto 5, 3) := by decide +kernel
theorem dX5_length_22 : decode cX5_length 22 = .ok (.bipush (-2), 2) := by decide +kernel
theorem dX5_length_24 : decode cX5_length 24 = .ok (.ireturn, 1) := by decide +kernel
theorem dX5_symbol_0 : decode cX5_symbol 0 = .ok (.iload_n 1, 1) := by decide +kernel
theorem dX5_symbol_1 : decode cX5_symbol 1 = .ok (.invokestatic 112, 3) := by decide +kernel
theorem dX5_symbol_4 : decode cX5_symbol 4 = .ok (.ifCond .ne 6, 3) := by decide +kernel
theorem dX5_symbol_7 : decode cX5_symbol 7 = .ok (.bipush (-2), 2) := by decide +kernel
theorem dX5_symbol_9 : decode cX5_symbol 9 = .ok (.ireturn, 1) := by decide +kernel
theorem dX5_symbol_10 : decode cX5_symbol 10 = .ok (.aload_n 0, 1) := by decide +kernel
theorem dX5_symbol_11 : decode cX5_symbol 11 = .ok (.getfield 12, 3) := by decide +kernel
theorem dX5_symbol_14 : decode cX5_symbol 14 = .ok (.getfield 119, 3) := by decide +kernel
theorem dX5_symbol_17 : decode cX5_symbol 17 = .ok (.iload_n 1, 1) := by decide +kernel
theorem dX5_symbol_18 : decode cX5_symbol 18 = .ok (.aaload, 1) := by decide +kernel
theorem dX5_symbol_19 : decode cX5_symbol 19 = .ok (.iload_n 2, 1) := by decide +kernel
theorem dX5_symbol_20 : decode cX5_symbol 20 = .ok (.invokevirtual 92, 3) := by decide +kernel
theorem dX5_symbol_23 : decode cX5_symbol 23 = .ok (.istore_n 3, 1) := by decide +kernel
theorem dX5_symbol_24 : decode cX5_symbol 24 = .ok (.iload_n 3, 1) := by decide +kernel
theorem dX5_symbol_25 : decode cX5_symbol 25 = .ok (.iconst (-1), 1) := by decide +kernel
theorem dX5_symbol_26 : decode cX5_symbol 26 = .ok (.if_icmp .ne 8, 3) := by decide +kernel
theorem dX5_symbol_29 : decode cX5_symbol 29 = .ok (.bipush (-6), 2) := by decide +kernel
theorem dX5_symbol_31 : decode cX5_symbol 31 = .ok (.goto 4, 3) := by decide +kernel
theorem dX5_symbol_34 : decode cX5_symbol 34 = .ok (.iload_n 3, 1) := by decide +kernel
theorem dX5_symbol_35 : decode cX5_symbol 35 = .ok (.ireturn, 1) := by decide +kernel
theorem dX5_variableCount_0 : decode cX5_variableCount 0 = .ok (.iload_n 1, 1) := by decide +kernel
theorem dX5_variableCount_1 : decode cX5_variableCount 1 = .ok (.invokestatic 112, 3) := by decide +kernel
theorem dX5_variableCount_4 : decode cX5_variableCount 4 = .ok (.ifCond .eq 18, 3) := by decide +kernel
theorem dX5_variableCount_7 : decode cX5_variableCount 7 = .ok (.aload_n 0, 1) := by decide +kernel
theorem dX5_variableCount_8 : decode cX5_variableCount 8 = .ok (.getfield 12, 3) := by decide +kernel
theorem dX5_variableCount_11 : decode cX5_variableCount 11 = .ok (.getfield 119, 3) := by decide +kernel
theorem dX5_variableCount_14 : decode cX5_variableCount 14 = .ok (.iload_n 1, 1) := by decide +kernel
theorem dX5_variableCount_15 : decode cX5_variableCount 15 = .ok (.aaload, 1) := by decide +kernel
theorem dX5_variableCount_16 : decode cX5_variableCount 16 = .ok (.invokevirtual 123, 3) := by decide +kernel
theorem dX5_variableCount_19 : decode cX5_variableCount 19 = .ok (.goto 5, 3) := by decide +kernel
theorem dX5_variableCount_22 : decode cX5_variableCount 22 = .ok (.bipush (-2), 2) := by decide +kernel
theorem dX5_variableCount_24 : decode cX5_variableCount 24 = .ok (.ireturn, 1) := by decide +kernel
theorem dX5_occurrences_0 : decode cX5_occurrences 0 = .ok (.iload_n 1, 1) := by decide +kernel
theorem dX5_occurrences_1 : decode cX5_occurrences 1 = .ok (.invokestatic 112, 3) := by decide +kernel
theorem dX5_occurrences_4 : decode cX5_occurrences 4 = .ok (.ifCond .ne 6, 3) := by decide +kernel
theorem dX5_occurrences_7 : decode cX5_occurrences 7 = .ok (.bipush (-2), 2) := by decide +kernel
theorem dX5_occurrences_9 : decode cX5_occurrences 9 = .ok (.ireturn, 1) := by decide +kernel
theorem dX5_occurrences_10 : decode cX5_occurrences 10 = .ok (.aload_n 0, 1) := by decide +kernel
theorem dX5_occurrences_11 : decode cX5_occurrences 11 = .ok (.iload_n 1, 1) := by decide +kernel
theorem dX5_occurrences_12 : decode cX5_occurrences 12 = .ok (.iload_n 2, 1) := by decide +kernel
theorem dX5_occurrences_13 : decode cX5_occurrences 13 = .ok (.invokevirtual 126, 3) := by decide +kernel
theorem dX5_occurrences_16 : decode cX5_occurrences 16 = .ok (.ifCond .ne 6, 3) := by decide +kernel
theorem dX5_occurrences_19 : decode cX5_occurrences 19 = .ok (.bipush (-3), 2) := by decide +kernel
theorem dX5_occurrences_21 : decode cX5_occurrences 21 = .ok (.ireturn, 1) := by decide +kernel
theorem dX5_occurrences_22 : decode cX5_occurrences 22 = .ok (.aload_n 0, 1) := by decide +kernel
theorem dX5_occurrences_23 : decode cX5_occurrences 23 = .ok (.getfield 12, 3) := by decide +kernel
theorem dX5_occurrences_26 : decode cX5_occurrences 26 = .ok (.getfield 119, 3) := by decide +kernel
theorem dX5_occurrences_29 : decode cX5_occurrences 29 = .ok (.iload_n 1, 1) := by decide +kernel
theorem dX5_occurrences_30 : decode cX5_occurrences 30 = .ok (.aaload, 1) := by decide +kernel
theorem dX5_occurrences_31 : decode cX5_occurrences 31 = .ok (.bipush 10, 2) := by decide +kernel
theorem dX5_occurrences_33 : decode cX5_occurrences 33 = .ok (.iload_n 2, 1) := by decide +kernel
theorem dX5_occurrences_34 : decode cX5_occurrences 34 = .ok (.iadd, 1) := by decide +kernel
theorem dX5_occurrences_35 : decode cX5_occurrences 35 = .ok (.invokevirtual 130, 3) := by decide +kernel
theorem dX5_occurrences_38 : decode cX5_occurrences 38 = .ok (.ireturn, 1) := by decide +kernel
theorem dX5_compareQuality_0 : decode cX5_compareQuality 0 = .ok (.iload_n 1, 1) := by decide +kernel
theorem dX5_compareQuality_1 : decode cX5_compareQuality 1 = .ok (.invokestatic 112, 3) := by decide +kernel
theorem dX5_compareQuality_4 : decode cX5_compareQuality 4 = .ok (.ifCond .eq 10, 3) := by decide +kernel
theorem dX5_compareQuality_7 : decode cX5_compareQuality 7 = .ok (.iload_n 2, 1) := by decide +kernel
theorem dX5_compareQuality_8 : decode cX5_compareQuality 8 = .ok (.invokestatic 112, 3) := by decide +kernel
theorem dX5_compareQuality_11 : decode cX5_compareQuality 11 = .ok (.ifCond .ne 6, 3) := by decide +kernel
theorem dX5_compareQuality_14 : decode cX5_compareQuality 14 = .ok (.bipush (-2), 2) := by decide +kernel
theorem dX5_compareQuality_16 : decode cX5_compareQuality 16 = .ok (.ireturn, 1) := by decide +kernel
theorem dX5_compareQuality_17 : decode cX5_compareQuality 17 = .ok (.iconst 1, 1) := by decide +kernel
theorem dX5_compareQuality_18 : decode cX5_compareQuality 18 = .ok (.aload_n 0, 1) := by decide +kernel
theorem dX5_compareQuality_19 : decode cX5_compareQuality 19 = .ok (.getfield 12, 3) := by decide +kernel
theorem dX5_compareQuality_22 : decode cX5_compareQuality 22 = .ok (.getfield 119, 3) := by decide +kernel
theorem dX5_compareQuality_25 : decode cX5_compareQuality 25 = .ok (.iload_n 1, 1) := by decide +kernel
theorem dX5_compareQuality_26 : decode cX5_compareQuality 26 = .ok (.aaload, 1) := by decide +kernel
theorem dX5_compareQuality_27 : decode cX5_compareQuality 27 = .ok (.aload_n 0, 1) := by decide +kernel
theorem dX5_compareQuality_28 : decode cX5_compareQuality 28 = .ok (.getfield 12, 3) := by decide +kernel
theorem dX5_compareQuality_31 : decode cX5_compareQuality 31 = .ok (.getfield 119, 3) := by decide +kernel
theorem dX5_compareQuality_34 : decode cX5_compareQuality 34 = .ok (.iload_n 2, 1) := by decide +kernel
theorem dX5_compareQuality_35 : decode cX5_compareQuality 35 = .ok (.aaload, 1) := by decide +kernel
theorem dX5_compareQuality_36 : decode cX5_compareQuality 36 = .ok (.invokestatic 133, 3) := by decide +kernel
theorem dX5_compareQuality_39 : decode cX5_compareQuality 39 = .ok (.iadd, 1) := by decide +kernel
theorem dX5_compareQuality_40 : decode cX5_compareQuality 40 = .ok (.ireturn, 1) := by decide +kernel
theorem dX5_advantage_0 : decode cX5_advantage 0 = .ok (.aload_n 0, 1) := by decide +kernel
theorem dX5_advantage_1 : decode cX5_advantage 1 = .ok (.getfield 68, 3) := by decide +kernel
theorem dX5_advantage_4 : decode cX5_advantage 4 = .ok (.aload_n 1, 1) := by decide +kernel
theorem dX5_advantage_5 : decode cX5_advantage 5 = .ok (.getfield 68, 3) := by decide +kernel
theorem dX5_advantage_8 : decode cX5_advantage 8 = .ok (.if_icmp .eq 20, 3) := by decide +kernel
theorem dX5_advantage_11 : decode cX5_advantage 11 = .ok (.aload_n 0, 1) := by decide +kernel
theorem dX5_advantage_12 : decode cX5_advantage 12 = .ok (.getfield 68, 3) := by decide +kernel
theorem dX5_advantage_15 : decode cX5_advantage 15 = .ok (.aload_n 1, 1) := by decide +kernel
theorem dX5_advantage_16 : decode cX5_advantage 16 = .ok (.getfield 68, 3) := by decide +kernel
theorem dX5_advantage_19 : decode cX5_advantage 19 = .ok (.if_icmp .le 7, 3) := by decide +kernel
theorem dX5_advantage_22 : decode cX5_advantage 22 = .ok (.iconst 1, 1) := by decide +kernel
theorem dX5_advantage_23 : decode cX5_advantage 23 = .ok (.goto 4, 3) := by decide +kernel
theorem dX5_advantage_26 : decode cX5_advantage 26 = .ok (.iconst (-1), 1) := by decide +kernel
theorem dX5_advantage_27 : decode cX5_advantage 27 = .ok (.ireturn, 1) := by decide +kernel
theorem dX5_advantage_28 : decode cX5_advantage 28 = .ok (.aload_n 0, 1) := by decide +kernel
theorem dX5_advantage_29 : decode cX5_advantage 29 = .ok (.invokevirtual 85, 3) := by decide +kernel
theorem dX5_advantage_32 : decode cX5_advantage 32 = .ok (.aload_n 1, 1) := by decide +kernel
theorem dX5_advantage_33 : decode cX5_advantage 33 = .ok (.invokevirtual 85, 3) := by decide +kernel
theorem dX5_advantage_36 : decode cX5_advantage 36 = .ok (.invokestatic 137, 3) := by decide +kernel
theorem dX5_advantage_39 : decode cX5_advantage 39 = .ok (.istore_n 2, 1) := by decide +kernel
theorem dX5_advantage_40 : decode cX5_advantage 40 = .ok (.iload_n 2, 1) := by decide +kernel
theorem dX5_advantage_41 : decode cX5_advantage 41 = .ok (.ifCond .eq 5, 3) := by decide +kernel
theorem dX5_advantage_44 : decode cX5_advantage 44 = .ok (.iload_n 2, 1) := by decide +kernel
theorem dX5_advantage_45 : decode cX5_advantage 45 = .ok (.ireturn, 1) := by decide +kernel
theorem dX5_advantage_46 : decode cX5_advantage 46 = .ok (.aload_n 1, 1) := by decide +kernel
theorem dX5_advantage_47 : decode cX5_advantage 47 = .ok (.invokevirtual 123, 3) := by decide +kernel
theorem dX5_advantage_50 : decode cX5_advantage 50 = .ok (.aload_n 0, 1) := by decide +kernel
theorem dX5_advantage_51 : decode cX5_advantage 51 = .ok (.invokevirtual 123, 3) := by decide +kernel
theorem dX5_advantage_54 : decode cX5_advantage 54 = .ok (.invokestatic 137, 3) := by decide +kernel
theorem dX5_advantage_57 : decode cX5_advantage 57 = .ok (.istore_n 3, 1) := by decide +kernel
theorem dX5_advantage_58 : decode cX5_advantage 58 = .ok (.iload_n 3, 1) := by decide +kernel
theorem dX5_advantage_59 : decode cX5_advantage 59 = .ok (.ifCond .eq 5, 3) := by decide +kernel
theorem dX5_advantage_62 : decode cX5_advantage 62 = .ok (.iload_n 3, 1) := by decide +kernel
theorem dX5_advantage_63 : decode cX5_advantage 63 = .ok (.ireturn, 1) := by decide +kernel
theorem dX5_advantage_64 : decode cX5_advantage 64 = .ok (.iconst 0, 1) := by decide +kernel
theorem dX5_advantage_65 : decode cX5_advantage 65 = .ok (.istore 4, 2) := by decide +kernel
theorem dX5_advantage_67 : decode cX5_advantage 67 = .ok (.iload 4, 2) := by decide +kernel
theorem dX5_advantage_69 : decode cX5_advantage 69 = .ok (.aload_n 0, 1) := by decide +kernel
theorem dX5_advantage_70 : decode cX5_advantage 70 = .ok (.getfield 68, 3) := by decide +kernel
theorem dX5_advantage_73 : decode cX5_advantage 73 = .ok (.if_icmp .ge 45, 3) := by decide +kernel
theorem dX5_advantage_76 : decode cX5_advantage 76 = .ok (.aload_n 0, 1) := by decide +kernel
theorem dX5_advantage_77 : decode cX5_advantage 77 = .ok (.iload 4, 2) := by decide +kernel
theorem dX5_advantage_79 : decode cX5_advantage 79 = .ok (.invokevirtual 92, 3) := by decide +kernel
theorem dX5_advantage_82 : decode cX5_advantage 82 = .ok (.aload_n 1, 1) := by decide +kernel
theorem dX5_advantage_83 : decode cX5_advantage 83 = .ok (.iload 4, 2) := by decide +kernel
theorem dX5_advantage_85 : decode cX5_advantage 85 = .ok (.invokevirtual 92, 3) := by decide +kernel
theorem dX5_advantage_88 : decode cX5_advantage 88 = .ok (.if_icmp .eq 24, 3) := by decide +kernel
theorem dX5_advantage_91 : decode cX5_advantage 91 = .ok (.aload_n 0, 1) := by decide +kernel
theorem dX5_advantage_92 : decode cX5_advantage 92 = .ok (.iload 4, 2) := by decide +kernel
theorem dX5_advantage_94 : decode cX5_advantage 94 = .ok (.invokevirtual 92, 3) := by decide +kernel
theorem dX5_advantage_97 : decode cX5_advantage 97 = .ok (.aload_n 1, 1) := by decide +kernel
theorem dX5_advantage_98 : decode cX5_advantage 98 = .ok (.iload 4, 2) := by decide +kernel
theorem dX5_advantage_100 : decode cX5_advantage 100 = .ok (.invokevirtual 92, 3) := by decide +kernel
theorem dX5_advantage_103 : decode cX5_advantage 103 = .ok (.if_icmp .ge 7, 3) := by decide +kernel
theorem dX5_advantage_106 : decode cX5_advantage 106 = .ok (.iconst 1, 1) := by decide +kernel
theorem dX5_advantage_107 : decode cX5_advantage 107 = .ok (.goto 4, 3) := by decide +kernel
theorem dX5_advantage_110 : decode cX5_advantage 110 = .ok (.iconst (-1), 1) := by decide +kernel
theorem dX5_advantage_111 : decode cX5_advantage 111 = .ok (.ireturn, 1) := by decide +kernel
theorem dX5_advantage_112 : decode cX5_advantage 112 = .ok (.iinc 4 1, 3) := by decide +kernel
theorem dX5_advantage_115 : decode cX5_advantage 115 = .ok (.goto (-48), 3) := by decide +kernel
theorem dX5_advantage_118 : decode cX5_advantage 118 = .ok (.iconst 0, 1) := by decide +kernel
theorem dX5_advantage_119 : decode cX5_advantage 119 = .ok (.ireturn, 1) := by decide +kernel
theorem dX5_store_0 : decode cX5_store 0 = .ok (.aload_n 0, 1) := by decide +kernel
theorem dX5_store_1 : decode cX5_store 1 = .ok (.getfield 12, 3) := by decide +kernel
theorem dX5_store_4 : decode cX5_store 4 = .ok (.getfield 119, 3) := by decide +kernel
theorem dX5_store_7 : decode cX5_store 7 = .ok (.iload_n 1, 1) := by decide +kernel
theorem dX5_store_8 : decode cX5_store 8 = .ok (.aaload, 1) := by decide +kernel
theorem dX5_store_9 : decode cX5_store 9 = .ok (.aload_n 2, 1) := by decide +kernel
theorem dX5_store_10 : decode cX5_store 10 = .ok (.invokevirtual 143, 3) := by decide +kernel
theorem dX5_store_13 : decode cX5_store 13 = .ok (.aload_n 2, 1) := by decide +kernel
theorem dX5_store_14 : decode cX5_store 14 = .ok (.getfield 68, 3) := by decide +kernel
theorem dX5_store_17 : decode cX5_store 17 = .ok (.ireturn, 1) := by decide +kernel
theorem dX5_isRegister_0 : decode cX5_isRegister 0 = .ok (.iload_n 0, 1) := by decide +kernel
theorem dX5_isRegister_1 : decode cX5_isRegister 1 = .ok (.ifCond .lt 13, 3) := by decide +kernel
theorem dX5_isRegister_4 : decode cX5_isRegister 4 = .ok (.iload_n 0, 1) := by decide +kernel
theorem dX5_isRegister_5 : decode cX5_isRegister 5 = .ok (.bipush 6, 2) := by decide +kernel
theorem dX5_isRegister_7 : decode cX5_isRegister 7 = .ok (.if_icmp .ge 7, 3) := by decide +kernel
theorem dX5_isRegister_10 : decode cX5_isRegister 10 = .ok (.iconst 1, 1) := by decide +kernel
theorem dX5_isRegister_11 : decode cX5_isRegister 11 = .ok (.goto 4, 3) := by decide +kernel
theorem dX5_isRegister_14 : decode cX5_isRegister 14 = .ok (.iconst 0, 1) := by decide +kernel
theorem dX5_isRegister_15 : decode cX5_isRegister 15 = .ok (.ireturn, 1) := by decide +kernel
theorem dX5_isVariable_0 : decode cX5_isVariable 0 = .ok (.iload_n 0, 1) := by decide +kernel
theorem dX5_isVariable_1 : decode cX5_isVariable 1 = .ok (.ifCond .lt 12, 3) := by decide +kernel
theorem dX5_isVariable_4 : decode cX5_isVariable 4 = .ok (.iload_n 0, 1) := by decide +kernel
theorem dX5_isVariable_5 : decode cX5_isVariable 5 = .ok (.iconst 4, 1) := by decide +kernel
theorem dX5_isVariable_6 : decode cX5_isVariable 6 = .ok (.if_icmp .ge 7, 3) := by decide +kernel
theorem dX5_isVariable_9 : decode cX5_isVariable 9 = .ok (.iconst 1, 1) := by decide +kernel
theorem dX5_isVariable_10 : decode cX5_isVariable 10 = .ok (.goto 4, 3) := by decide +kernel
theorem dX5_isVariable_13 : decode cX5_isVariable 13 = .ok (.iconst 0, 1) := by decide +kernel
theorem dX5_isVariable_14 : decode cX5_isVariable 14 = .ok (.ireturn, 1) := by decide +kernel
theorem dX5_isMode_0 : decode cX5_isMode 0 = .ok (.iload_n 0, 1) := by decide +kernel
theorem dX5_isMode_1 : decode cX5_isMode 1 = .ok (.ifCond .eq 8, 3) := by decide +kernel
theorem dX5_isMode_4 : decode cX5_isMode 4 = .ok (.iload_n 0, 1) := by decide +kernel
theorem dX5_isMode_5 : decode cX5_isMode 5 = .ok (.iconst 1, 1) := by decide +kernel
theorem dX5_isMode_6 : decode cX5_isMode 6 = .ok (.if_icmp .ne 7, 3) := by decide +kernel
theorem dX5_isMode_9 : decode cX5_isMode 9 = .ok (.iconst 1, 1) := by decide +kernel
theorem dX5_isMode_10 : decode cX5_isMode 10 = .ok (.goto 4, 3) := by decide +kernel
theorem dX5_isMode_13 : decode cX5_isMode 13 = .ok (.iconst 0, 1) := by decide +kernel
theorem dX5_isMode_14 : decode cX5_isMode 14 = .ok (.ireturn, 1) := by decide +kernel
theorem dX5_hasVariable_0 : decode cX5_hasVariable 0 = .ok (.iload_n 2, 1) := by decide +kernel
theorem dX5_hasVariable_1 : decode cX5_hasVariable 1 = .ok (.invokestatic 147, 3) := by decide +kernel
theorem dX5_hasVariable_4 : decode cX5_hasVariable 4 = .ok (.ifCond .eq 26, 3) := by decide +kernel
theorem dX5_hasVariable_7 : decode cX5_hasVariable 7 = .ok (.aload_n 0, 1) := by decide +kernel
theorem dX5_hasVariable_8 : decode cX5_hasVariable 8 = .ok (.getfield 12, 3) := by decide +kernel
theorem dX5_hasVariable_11 : decode cX5_hasVariable 11 = .ok (.getfield 119, 3) := by decide +kernel
theorem dX5_hasVariable_14 : decode cX5_hasVariable 14 = .ok (.iload_n 1, 1) := by decide +kernel
theorem dX5_hasVariable_15 : decode cX5_hasVariable 15 = .ok (.aaload, 1) := by decide +kernel
theorem dX5_hasVariable_16 : decode cX5_hasVariable 16 = .ok (.bipush 10, 2) := by decide +kernel
theorem dX5_hasVariable_18 : decode cX5_hasVariable 18 = .ok (.iload_n 2, 1) := by decide +kernel
theorem dX5_hasVariable_19 : decode cX5_hasVariable 19 = .ok (.iadd, 1) := by decide +kernel
theorem dX5_hasVariable_20 : decode cX5_hasVariable 20 = .ok (.invokevirtual 130, 3) := by decide +kernel
theorem dX5_hasVariable_23 : decode cX5_hasVariable 23 = .ok (.ifCond .le 7, 3) := by decide +kernel
theorem dX5_hasVariable_26 : decode cX5_hasVariable 26 = .ok (.iconst 1, 1) := by decide +kernel
theorem dX5_hasVariable_27 : decode cX5_hasVariable 27 = .ok (.goto 4, 3) := by decide +kernel
theorem dX5_hasVariable_30 : decode cX5_hasVariable 30 = .ok (.iconst 0, 1) := by decide +kernel
theorem dX5_hasVariable_31 : decode cX5_hasVariable 31 = .ok (.ireturn, 1) := by decide +kernel
theorem dX5_replace_0 : decode cX5_replace 0 = .ok (.iload_n 1, 1) := by decide +kernel
theorem dX5_replace_1 : decode cX5_replace 1 = .ok (.invokestatic 112, 3) := by decide +kernel
theorem dX5_replace_4 : decode cX5_replace 4 = .ok (.ifCond .ne 6, 3) := by decide +kernel
theorem dX5_replace_7 : decode cX5_replace 7 = .ok (.bipush (-2), 2) := by decide +kernel
theorem dX5_replace_9 : decode cX5_replace 9 = .ok (.ireturn, 1) := by decide +kernel
theorem dX5_replace_10 : decode cX5_replace 10 = .ok (.aload_n 0, 1) := by decide +kernel
theorem dX5_replace_11 : decode cX5_replace 11 = .ok (.iload_n 1, 1) := by decide +kernel
theorem dX5_replace_12 : decode cX5_replace 12 = .ok (.iload_n 2, 1) := by decide +kernel
theorem dX5_replace_13 : decode cX5_replace 13 = .ok (.invokevirtual 126, 3) := by decide +kernel
theorem dX5_replace_16 : decode cX5_replace 16 = .ok (.ifCond .ne 6, 3) := by decide +kernel
theorem dX5_replace_19 : decode cX5_replace 19 = .ok (.bipush (-3), 2) := by decide +kernel
theorem dX5_replace_21 : decode cX5_replace 21 = .ok (.ireturn, 1) := by decide +kernel
theorem dX5_replace_22 : decode cX5_replace 22 = .ok (.iload_n 3, 1) := by decide +kernel
theorem dX5_replace_23 : decode cX5_replace 23 = .ok (.ifCond .lt 14, 3) := by decide +kernel
theorem dX5_replace_26 : decode cX5_replace 26 = .ok (.iload_n 3, 1) := by decide +kernel
theorem dX5_replace_27 : decode cX5_replace 27 = .ok (.aload_n 0, 1) := by decide +kernel
theorem dX5_replace_28 : decode cX5_replace 28 = .ok (.getfield 12, 3) := by decide +kernel
theorem dX5_replace_31 : decode cX5_replace 31 = .ok (.getfield 61, 3) := by decide +kernel
theorem dX5_replace_34 : decode cX5_replace 34 = .ok (.if_icmp .lt 5, 3) := by decide +kernel
theorem dX5_replace_37 : decode cX5_replace 37 = .ok (.iconst (-1), 1) := by decide +kernel
theorem dX5_replace_38 : decode cX5_replace 38 = .ok (.ireturn, 1) := by decide +kernel
theorem dX5_replace_39 : decode cX5_replace 39 = .ok (.aload_n 0, 1) := by decide +kernel
theorem dX5_replace_40 : decode cX5_replace 40 = .ok (.iload_n 1, 1) := by decide +kernel
theorem dX5_replace_41 : decode cX5_replace 41 = .ok (.iload_n 2, 1) := by decide +kernel
theorem dX5_replace_42 : decode cX5_replace 42 = .ok (.iload_n 3, 1) := by decide +kernel
theorem dX5_replace_43 : decode cX5_replace 43 = .ok (.invokevirtual 150, 3) := by decide +kernel
theorem dX5_replace_46 : decode cX5_replace 46 = .ok (.ireturn, 1) := by decide +kernel
theorem dX5_merge_0 : decode cX5_merge 0 = .ok (.iload_n 1, 1) := by decide +kernel
theorem dX5_merge_1 : decode cX5_merge 1 = .ok (.invokestatic 112, 3) := by decide +kernel
theorem dX5_merge_4 : decode cX5_merge 4 = .ok (.ifCond .ne 6, 3) := by decide +kernel
theorem dX5_merge_7 : decode cX5_merge 7 = .ok (.bipush (-2), 2) := by decide +kernel
theorem dX5_merge_9 : decode cX5_merge 9 = .ok (.ireturn, 1) := by decide +kernel
theorem dX5_merge_10 : decode cX5_merge 10 = .ok (.aload_n 0, 1) := by decide +kernel
theorem dX5_merge_11 : decode cX5_merge 11 = .ok (.iload_n 1, 1) := by decide +kernel
theorem dX5_merge_12 : decode cX5_merge 12 = .ok (.iload_n 2, 1) := by decide +kernel
theorem dX5_merge_13 : decode cX5_merge 13 = .ok (.invokevirtual 126, 3) := by decide +kernel
theorem dX5_merge_16 : decode cX5_merge 16 = .ok (.ifCond .eq 12, 3) := by decide +kernel
theorem dX5_merge_19 : decode cX5_merge 19 = .ok (.aload_n 0, 1) := by decide +kernel
theorem dX5_merge_20 : decode cX5_merge 20 = .ok (.iload_n 1, 1) := by decide +kernel
theorem dX5_merge_21 : decode cX5_merge 21 = .ok (.iload_n 3, 1) := by decide +kernel
theorem dX5_merge_22 : decode cX5_merge 22 = .ok (.invokevirtual 126, 3) := by decide +kernel
theorem dX5_merge_25 : decode cX5_merge 25 = .ok (.ifCond .ne 6, 3) := by decide +kernel
theorem dX5_merge_28 : decode cX5_merge 28 = .ok (.bipush (-3), 2) := by decide +kernel
theorem dX5_merge_30 : decode cX5_merge 30 = .ok (.ireturn, 1) := by decide +kernel
theorem dX5_merge_31 : decode cX5_merge 31 = .ok (.iload_n 2, 1) := by decide +kernel
theorem dX5_merge_32 : decode cX5_merge 32 = .ok (.iload_n 3, 1) := by decide +kernel
theorem dX5_merge_33 : decode cX5_merge 33 = .ok (.if_icmp .ne 5, 3) := by decide +kernel
theorem dX5_merge_36 : decode cX5_merge 36 = .ok (.iconst (-1), 1) := by decide +kernel
theorem dX5_merge_37 : decode cX5_merge 37 = .ok (.ireturn, 1) := by decide +kernel
theorem dX5_merge_38 : decode cX5_merge 38 = .ok (.aload_n 0, 1) := by decide +kernel
theorem dX5_merge_39 : decode cX5_merge 39 = .ok (.iload_n 1, 1) := by decide +kernel
theorem dX5_merge_40 : decode cX5_merge 40 = .ok (.iload_n 2, 1) := by decide +kernel
theorem dX5_merge_41 : decode cX5_merge 41 = .ok (.bipush 10, 2) := by decide +kernel
theorem dX5_merge_43 : decode cX5_merge 43 = .ok (.iload_n 3, 1) := by decide +kernel
theorem dX5_merge_44 : decode cX5_merge 44 = .ok (.iadd, 1) := by decide +kernel
theorem dX5_merge_45 : decode cX5_merge 45 = .ok (.invokevirtual 150, 3) := by decide +kernel
theorem dX5_merge_48 : decode cX5_merge 48 = .ok (.ireturn, 1) := by decide +kernel
theorem dX5_putForVariable_0 : decode cX5_putForVariable 0 = .ok (.aload_n 0, 1) := by decide +kernel
theorem dX5_putForVariable_1 : decode cX5_putForVariable 1 = .ok (.getfield 12, 3) := by decide +kernel
theorem dX5_putForVariable_4 : decode cX5_putForVariable 4 = .ok (.getfield 119, 3) := by decide +kernel
theorem dX5_putForVariable_7 : decode cX5_putForVariable 7 = .ok (.iload_n 1, 1) := by decide +kernel
theorem dX5_putForVariable_8 : decode cX5_putForVariable 8 = .ok (.aaload, 1) := by decide +kernel
theorem dX5_putForVariable_9 : decode cX5_putForVariable 9 = .ok (.astore 4, 2) := by decide +kernel
theorem dX5_putForVariable_11 : decode cX5_putForVariable 11 = .ok (.aload 4, 2) := by decide +kernel
theorem dX5_putForVariable_13 : decode cX5_putForVariable 13 = .ok (.bipush 10, 2) := by decide +kernel
theorem dX5_putForVariable_15 : decode cX5_putForVariable 15 = .ok (.iload_n 2, 1) := by decide +kernel
theorem dX5_putForVariable_16 : decode cX5_putForVariable 16 = .ok (.iadd, 1) := by decide +kernel
theorem dX5_putForVariable_17 : decode cX5_putForVariable 17 = .ok (.bipush 10, 2) := by decide +kernel
theorem dX5_putForVariable_19 : decode cX5_putForVariable 19 = .ok (.iload_n 2, 1) := by decide +kernel
theorem dX5_putForVariable_20 : decode cX5_putForVariable 20 = .ok (.iadd, 1) := by decide +kernel
theorem dX5_putForVariable_21 : decode cX5_putForVariable 21 = .ok (.iload_n 3, 1) := by decide +kernel
theorem dX5_putForVariable_22 : decode cX5_putForVariable 22 = .ok (.invokevirtual 154, 3) := by decide +kernel
theorem dX5_putForVariable_25 : decode cX5_putForVariable 25 = .ok (.aload 4, 2) := by decide +kernel
theorem dX5_putForVariable_27 : decode cX5_putForVariable 27 = .ok (.invokevirtual 89, 3) := by decide +kernel
theorem dX5_putForVariable_30 : decode cX5_putForVariable 30 = .ok (.aload 4, 2) := by decide +kernel
theorem dX5_putForVariable_32 : decode cX5_putForVariable 32 = .ok (.invokevirtual 123, 3) := by decide +kernel
theorem dX5_putForVariable_35 : decode cX5_putForVariable 35 = .ok (.ireturn, 1) := by decide +kernel
theorem dX5_split_0 : decode cX5_split 0 = .ok (.iload_n 1, 1) := by decide +kernel
theorem dX5_split_1 : decode cX5_split 1 = .ok (.invokestatic 112, 3) := by decide +kernel
theorem dX5_split_4 : decode cX5_split 4 = .ok (.ifCond .ne 6, 3) := by decide +kernel
theorem dX5_split_7 : decode cX5_split 7 = .ok (.bipush (-2), 2) := by decide +kernel
theorem dX5_split_9 : decode cX5_split 9 = .ok (.ireturn, 1) := by decide +kernel
theorem dX5_split_10 : decode cX5_split 10 = .ok (.aload_n 0, 1) := by decide +kernel
theorem dX5_split_11 : decode cX5_split 11 = .ok (.iload_n 1, 1) := by decide +kernel
theorem dX5_split_12 : decode cX5_split 12 = .ok (.iload_n 2, 1) := by decide +kernel
theorem dX5_split_13 : decode cX5_split 13 = .ok (.invokevirtual 126, 3) := by decide +kernel
theorem dX5_split_16 : decode cX5_split 16 = .ok (.ifCond .ne 6, 3) := by decide +kernel
theorem dX5_split_19 : decode cX5_split 19 = .ok (.bipush (-3), 2) := by decide +kernel
theorem dX5_split_21 : decode cX5_split 21 = .ok (.ireturn, 1) := by decide +kernel
theorem dX5_split_22 : decode cX5_split 22 = .ok (.aload_n 0, 1) := by decide +kernel
theorem dX5_split_23 : decode cX5_split 23 = .ok (.getfield 12, 3) := by decide +kernel
theorem dX5_split_26 : decode cX5_split 26 = .ok (.getfield 119, 3) := by decide +kernel
theorem dX5_split_29 : decode cX5_split 29 = .ok (.iload_n 1, 1) := by decide +kernel
theorem dX5_split_30 : decode cX5_split 30 = .ok (.aaload, 1) := by decide +kernel
theorem dX5_split_31 : decode cX5_split 31 = .ok (.astore_n 3, 1) := by decide +kernel
theorem dX5_split_32 : decode cX5_split 32 = .ok (.bipush 10, 2) := by decide +kernel
theorem dX5_split_34 : decode cX5_split 34 = .ok (.iload_n 2, 1) := by decide +kernel
theorem dX5_split_35 : decode cX5_split 35 = .ok (.iadd, 1) := by decide +kernel
theorem dX5_split_36 : decode cX5_split 36 = .ok (.istore 4, 2) := by decide +kernel
theorem dX5_split_38 : decode cX5_split 38 = .ok (.aload_n 3, 1) := by decide +kernel
theorem dX5_split_39 : decode cX5_split 39 = .ok (.invokevirtual 123, 3) := by decide +kernel
theorem dX5_split_42 : decode cX5_split 42 = .ok (.istore 5, 2) := by decide +kernel
theorem dX5_split_44 : decode cX5_split 44 = .ok (.iload 5, 2) := by decide +kernel
theorem dX5_split_46 : decode cX5_split 46 = .ok (.iconst 4, 1) := by decide +kernel
theorem dX5_split_47 : decode cX5_split 47 = .ok (.if_icmp .ge 19, 3) := by decide +kernel
theorem dX5_split_50 : decode cX5_split 50 = .ok (.aload_n 3, 1) := by decide +kernel
theorem dX5_split_51 : decode cX5_split 51 = .ok (.getfield 68, 3) := by decide +kernel
theorem dX5_split_54 : decode cX5_split 54 = .ok (.aload_n 3, 1) := by decide +kernel
theorem dX5_split_55 : decode cX5_split 55 = .ok (.iload 4, 2) := by decide +kernel
theorem dX5_split_57 : decode cX5_split 57 = .ok (.invokevirtual 130, 3) := by decide +kernel
theorem dX5_split_60 : decode cX5_split 60 = .ok (.iadd, 1) := by decide +kernel
theorem dX5_split_61 : decode cX5_split 61 = .ok (.bipush 8, 2) := by decide +kernel
theorem dX5_split_63 : decode cX5_split 63 = .ok (.if_icmp .le 6, 3) := by decide +kernel
theorem dX5_split_66 : decode cX5_split 66 = .ok (.bipush (-4), 2) := by decide +kernel
theorem dX5_split_68 : decode cX5_split 68 = .ok (.ireturn, 1) := by decide +kernel
theorem dX5_split_69 : decode cX5_split 69 = .ok (.aload_n 0, 1) := by decide +kernel
theorem dX5_split_70 : decode cX5_split 70 = .ok (.getfield 54, 3) := by decide +kernel
theorem dX5_split_73 : decode cX5_split 73 = .ok (.invokevirtual 75, 3) := by decide +kernel
theorem dX5_split_76 : decode cX5_split 76 = .ok (.iconst 0, 1) := by decide +kernel
theorem dX5_split_77 : decode cX5_split 77 = .ok (.istore 6, 2) := by decide +kernel
theorem dX5_split_79 : decode cX5_split 79 = .ok (.iload 6, 2) := by decide +kernel
theorem dX5_split_81 : decode cX5_split 81 = .ok (.aload_n 3, 1) := by decide +kernel
theorem dX5_split_82 : decode cX5_split 82 = .ok (.getfield 68, 3) := by decide +kernel
theorem dX5_split_85 : decode cX5_split 85 = .ok (.if_icmp .ge 47, 3) := by decide +kernel
theorem dX5_split_88 : decode cX5_split 88 = .ok (.aload_n 0, 1) := by decide +kernel
theorem dX5_split_89 : decode cX5_split 89 = .ok (.getfield 54, 3) := by decide +kernel
theorem dX5_split_92 : decode cX5_split 92 = .ok (.aload_n 3, 1) := by decide +kernel
theorem dX5_split_93 : decode cX5_split 93 = .ok (.iload 6, 2) := by decide +kernel
theorem dX5_split_95 : decode cX5_split 95 = .ok (.invokevirtual 92, 3) := by decide +kernel
theorem dX5_split_98 : decode cX5_split 98 = .ok (.invokevirtual 71, 3) := by decide +kernel
theorem dX5_split_101 : decode cX5_split 101 = .ok (.pop, 1) := by decide +kernel
theorem dX5_split_102 : decode cX5_split 102 = .ok (.aload_n 3, 1) := by decide +kernel
theorem dX5_split_103 : decode cX5_split 103 = .ok (.iload 6, 2) := by decide +kernel
theorem dX5_split_105 : decode cX5_split 105 = .ok (.invokevirtual 92, 3) := by decide +kernel
theorem dX5_split_108 : decode cX5_split 108 = .ok (.iload 4, 2) := by decide +kernel
theorem dX5_split_110 : decode cX5_split 110 = .ok (.if_icmp .ne 16, 3) := by decide +kernel
theorem dX5_split_113 : decode cX5_split 113 = .ok (.aload_n 0, 1) := by decide +kernel
theorem dX5_split_114 : decode cX5_split 114 = .ok (.getfield 54, 3) := by decide +kernel
theorem dX5_split_117 : decode cX5_split 117 = .ok (.bipush 10, 2) := by decide +kernel
theorem dX5_split_119 : decode cX5_split 119 = .ok (.iload 5, 2) := by decide +kernel
theorem dX5_split_121 : decode cX5_split 121 = .ok (.iadd, 1) := by decide +kernel
theorem dX5_split_122 : decode cX5_split 122 = .ok (.invokevirtual 71, 3) := by decide +kernel
theorem dX5_split_125 : decode cX5_split 125 = .ok (.pop, 1) := by decide +kernel
theorem dX5_split_126 : decode cX5_split 126 = .ok (.iinc 6 1, 3) := by decide +kernel
theorem dX5_split_129 : decode cX5_split 129 = .ok (.goto (-50), 3) := by decide +kernel
theorem dX5_split_132 : decode cX5_split 132 = .ok (.aload_n 0, 1) := by decide +kernel
theorem dX5_split_133 : decode cX5_split 133 = .ok (.getfield 54, 3) := by decide +kernel
theorem dX5_split_136 : decode cX5_split 136 = .ok (.invokevirtual 89, 3) := by decide +kernel
theorem dX5_split_139 : decode cX5_split 139 = .ok (.aload_n 0, 1) := by decide +kernel
theorem dX5_split_140 : decode cX5_split 140 = .ok (.iload_n 1, 1) := by decide +kernel
theorem dX5_split_141 : decode cX5_split 141 = .ok (.aload_n 0, 1) := by decide +kernel
theorem dX5_split_142 : decode cX5_split 142 = .ok (.getfield 54, 3) := by decide +kernel
theorem dX5_split_145 : decode cX5_split 145 = .ok (.invokevirtual 115, 3) := by decide +kernel
theorem dX5_split_148 : decode cX5_split 148 = .ok (.ireturn, 1) := by decide +kernel
theorem dX5_transform_0 : decode cX5_transform 0 = .ok (.iload_n 1, 1) := by decide +kernel
theorem dX5_transform_1 : decode cX5_transform 1 = .ok (.invokestatic 112, 3) := by decide +kernel
theorem dX5_transform_4 : decode cX5_transform 4 = .ok (.ifCond .eq 11, 3) := by decide +kernel
theorem dX5_transform_7 : decode cX5_transform 7 = .ok (.aload_n 0, 1) := by decide +kernel
theorem dX5_transform_8 : decode cX5_transform 8 = .ok (.iload_n 1, 1) := by decide +kernel
theorem dX5_transform_9 : decode cX5_transform 9 = .ok (.invokevirtual 158, 3) := by decide +kernel
theorem dX5_transform_12 : decode cX5_transform 12 = .ok (.goto 5, 3) := by decide +kernel
theorem dX5_transform_15 : decode cX5_transform 15 = .ok (.bipush (-2), 2) := by decide +kernel
theorem dX5_transform_17 : decode cX5_transform 17 = .ok (.istore_n 2, 1) := by decide +kernel
theorem dX5_transform_18 : decode cX5_transform 18 = .ok (.aload_n 0, 1) := by decide +kernel
theorem dX5_transform_19 : decode cX5_transform 19 = .ok (.getfield 30, 3) := by decide +kernel
theorem dX5_transform_22 : decode cX5_transform 22 = .ok (.invokevirtual 75, 3) := by decide +kernel
theorem dX5_transform_25 : decode cX5_transform 25 = .ok (.iload_n 2, 1) := by decide +kernel
theorem dX5_transform_26 : decode cX5_transform 26 = .ok (.ireturn, 1) := by decide +kernel
theorem dX5_changeAsTold_0 : decode cX5_changeAsTold 0 = .ok (.aload_n 0, 1) := by decide +kernel
theorem dX5_changeAsTold_1 : decode cX5_changeAsTold 1 = .ok (.getfield 12, 3) := by decide +kernel
theorem dX5_changeAsTold_4 : decode cX5_changeAsTold 4 = .ok (.getfield 119, 3) := by decide +kernel
theorem dX5_changeAsTold_7 : decode cX5_changeAsTold 7 = .ok (.iload_n 1, 1) := by decide +kernel
theorem dX5_changeAsTold_8 : decode cX5_changeAsTold 8 = .ok (.aaload, 1) := by decide +kernel
theorem dX5_changeAsTold_9 : decode cX5_changeAsTold 9 = .ok (.astore_n 2, 1) := by decide +kernel
theorem dX5_changeAsTold_10 : decode cX5_changeAsTold 10 = .ok (.aload_n 0, 1) := by decide +kernel
theorem dX5_changeAsTold_11 : decode cX5_changeAsTold 11 = .ok (.ldc 161, 2) := by decide +kernel
theorem dX5_changeAsTold_13 : decode cX5_changeAsTold 13 = .ok (.invokevirtual 163, 3) := by decide +kernel
theorem dX5_changeAsTold_16 : decode cX5_changeAsTold 16 = .ok (.ifCond .eq 10, 3) := by decide +kernel
theorem dX5_changeAsTold_19 : decode cX5_changeAsTold 19 = .ok (.aload_n 2, 1) := by decide +kernel
theorem dX5_changeAsTold_20 : decode cX5_changeAsTold 20 = .ok (.invokevirtual 167, 3) := by decide +kernel
theorem dX5_changeAsTold_23 : decode cX5_changeAsTold 23 = .ok (.goto 82, 3) := by decide +kernel
theorem dX5_changeAsTold_26 : decode cX5_changeAsTold 26 = .ok (.aload_n 0, 1) := by decide +kernel
theorem dX5_changeAsTold_27 : decode cX5_changeAsTold 27 = .ok (.ldc 170, 2) := by decide +kernel
theorem dX5_changeAsTold_29 : decode cX5_changeAsTold 29 = .ok (.invokevirtual 163, 3) := by decide +kernel
theorem dX5_changeAsTold_32 : decode cX5_changeAsTold 32 = .ok (.ifCond .eq 11, 3) := by decide +kernel
theorem dX5_changeAsTold_35 : decode cX5_changeAsTold 35 = .ok (.aload_n 0, 1) := by decide +kernel
theorem dX5_changeAsTold_36 : decode cX5_changeAsTold 36 = .ok (.aload_n 2, 1) := by decide +kernel
theorem dX5_changeAsTold_37 : decode cX5_changeAsTold 37 = .ok (.invokevirtual 172, 3) := by decide +kernel
theorem dX5_changeAsTold_40 : decode cX5_changeAsTold 40 = .ok (.goto 65, 3) := by decide +kernel
theorem dX5_changeAsTold_43 : decode cX5_changeAsTold 43 = .ok (.aload_n 0, 1) := by decide +kernel
theorem dX5_changeAsTold_44 : decode cX5_changeAsTold 44 = .ok (.ldc 175, 2) := by decide +kernel
theorem dX5_changeAsTold_46 : decode cX5_changeAsTold 46 = .ok (.invokevirtual 163, 3) := by decide +kernel
theorem dX5_changeAsTold_49 : decode cX5_changeAsTold 49 = .ok (.ifCond .eq 10, 3) := by decide +kernel
theorem dX5_changeAsTold_52 : decode cX5_changeAsTold 52 = .ok (.aload_n 2, 1) := by decide +kernel
theorem dX5_changeAsTold_53 : decode cX5_changeAsTold 53 = .ok (.invokestatic 177, 3) := by decide +kernel
theorem dX5_changeAsTold_56 : decode cX5_changeAsTold 56 = .ok (.goto 49, 3) := by decide +kernel
theorem dX5_changeAsTold_59 : decode cX5_changeAsTold 59 = .ok (.aload_n 0, 1) := by decide +kernel
theorem dX5_changeAsTold_60 : decode cX5_changeAsTold 60 = .ok (.ldc 180, 2) := by decide +kernel
theorem dX5_changeAsTold_62 : decode cX5_changeAsTold 62 = .ok (.invokevirtual 163, 3) := by decide +kernel
theorem dX5_changeAsTold_65 : decode cX5_changeAsTold 65 = .ok (.ifCond .eq 16, 3) := by decide +kernel
theorem dX5_changeAsTold_68 : decode cX5_changeAsTold 68 = .ok (.aload_n 2, 1) := by decide +kernel
theorem dX5_changeAsTold_69 : decode cX5_changeAsTold 69 = .ok (.bipush 10, 2) := by decide +kernel
theorem dX5_changeAsTold_71 : decode cX5_changeAsTold 71 = .ok (.bipush 13, 2) := by decide +kernel
theorem dX5_changeAsTold_73 : decode cX5_changeAsTold 73 = .ok (.bipush 10, 2) := by decide +kernel
theorem dX5_changeAsTold_75 : decode cX5_changeAsTold 75 = .ok (.invokevirtual 154, 3) := by decide +kernel
theorem dX5_changeAsTold_78 : decode cX5_changeAsTold 78 = .ok (.goto 27, 3) := by decide +kernel
theorem dX5_changeAsTold_81 : decode cX5_changeAsTold 81 = .ok (.aload_n 0, 1) := by decide +kernel
theorem dX5_changeAsTold_82 : decode cX5_changeAsTold 82 = .ok (.ldc 182, 2) := by decide +kernel
theorem dX5_changeAsTold_84 : decode cX5_changeAsTold 84 = .ok (.invokevirtual 163, 3) := by decide +kernel
theorem dX5_changeAsTold_87 : decode cX5_changeAsTold 87 = .ok (.ifCond .eq 15, 3) := by decide +kernel
theorem dX5_changeAsTold_90 : decode cX5_changeAsTold 90 = .ok (.aload_n 2, 1) := by decide +kernel
theorem dX5_changeAsTold_91 : decode cX5_changeAsTold 91 = .ok (.iconst 0, 1) := by decide +kernel
theorem dX5_changeAsTold_92 : decode cX5_changeAsTold 92 = .ok (.bipush 9, 2) := by decide +kernel
theorem dX5_changeAsTold_94 : decode cX5_changeAsTold 94 = .ok (.bipush 10, 2) := by decide +kernel
theorem dX5_changeAsTold_96 : decode cX5_changeAsTold 96 = .ok (.invokevirtual 154, 3) := by decide +kernel
theorem dX5_changeAsTold_99 : decode cX5_changeAsTold 99 = .ok (.goto 6, 3) := by decide +kernel
theorem dX5_changeAsTold_102 : decode cX5_changeAsTold 102 = .ok (.bipush (-5), 2) := by decide +kernel
theorem dX5_changeAsTold_104 : decode cX5_changeAsTold 104 = .ok (.ireturn, 1) := by decide +kernel
theorem dX5_changeAsTold_105 : decode cX5_changeAsTold 105 = .ok (.aload_n 2, 1) := by decide +kernel
theorem dX5_changeAsTold_106 : decode cX5_changeAsTold 106 = .ok (.invokevirtual 89, 3) := by decide +kernel
theorem dX5_changeAsTold_109 : decode cX5_changeAsTold 109 = .ok (.aload_n 2, 1) := by decide +kernel
theorem dX5_changeAsTold_110 : decode cX5_changeAsTold 110 = .ok (.getfield 68, 3) := by decide +kernel
theorem dX5_changeAsTold_113 : decode cX5_changeAsTold 113 = .ok (.ireturn, 1) := by decide +kernel
theorem dX5_swapLetters_0 : decode cX5_swapLetters 0 = .ok (.aload_n 0, 1) := by decide +kernel
theorem dX5_swapLetters_1 : decode cX5_swapLetters 1 = .ok (.getfield 12, 3) := by decide +kernel
theorem dX5_swapLetters_4 : decode cX5_swapLetters 4 = .ok (.getfield 61, 3) := by decide +kernel
theorem dX5_swapLetters_7 : decode cX5_swapLetters 7 = .ok (.iconst 1, 1) := by decide +kernel
theorem dX5_swapLetters_8 : decode cX5_swapLetters 8 = .ok (.if_icmp .le 9, 3) := by decide +kernel
theorem dX5_swapLetters_11 : decode cX5_swapLetters 11 = .ok (.aload_n 1, 1) := by decide +kernel
theorem dX5_swapLetters_12 : decode cX5_swapLetters 12 = .ok (.iconst 0, 1) := by decide +kernel
theorem dX5_swapLetters_13 : decode cX5_swapLetters 13 = .ok (.iconst 1, 1) := by decide +kernel
theorem dX5_swapLetters_14 : decode cX5_swapLetters 14 = .ok (.invokevirtual 184, 3) := by decide +kernel
theorem dX5_swapLetters_17 : decode cX5_swapLetters 17 = .ok (.return_, 1) := by decide +kernel
theorem dX5_dropLast_0 : decode cX5_dropLast 0 = .ok (.aload_n 0, 1) := by decide +kernel
theorem dX5_dropLast_1 : decode cX5_dropLast 1 = .ok (.getfield 68, 3) := by decide +kernel
theorem dX5_dropLast_4 : decode cX5_dropLast 4 = .ok (.iconst 1, 1) := by decide +kernel
theorem dX5_dropLast_5 : decode cX5_dropLast 5 = .ok (.if_icmp .le 7, 3) := by decide +kernel
theorem dX5_dropLast_8 : decode cX5_dropLast 8 = .ok (.aload_n 0, 1) := by decide +kernel
theorem dX5_dropLast_9 : decode cX5_dropLast 9 = .ok (.invokevirtual 188, 3) := by decide +kernel
theorem dX5_dropLast_12 : decode cX5_dropLast 12 = .ok (.return_, 1) := by decide +kernel
theorem dX5_matches_0 : decode cX5_matches 0 = .ok (.iload_n 1, 1) := by decide +kernel
theorem dX5_matches_1 : decode cX5_matches 1 = .ok (.iload_n 2, 1) := by decide +kernel
theorem dX5_matches_2 : decode cX5_matches 2 = .ok (.aload_n 0, 1) := by decide +kernel
theorem dX5_matches_3 : decode cX5_matches 3 = .ok (.invokevirtual 191, 3) := by decide +kernel
theorem dX5_matches_6 : decode cX5_matches 6 = .ok (.invokestatic 194, 3) := by decide +kernel
theorem dX5_matches_9 : decode cX5_matches 9 = .ok (.istore_n 3, 1) := by decide +kernel
theorem dX5_matches_10 : decode cX5_matches 10 = .ok (.iload_n 3, 1) := by decide +kernel
theorem dX5_matches_11 : decode cX5_matches 11 = .ok (.ifCond .eq 5, 3) := by decide +kernel
theorem dX5_matches_14 : decode cX5_matches 14 = .ok (.iload_n 3, 1) := by decide +kernel
theorem dX5_matches_15 : decode cX5_matches 15 = .ok (.ireturn, 1) := by decide +kernel
theorem dX5_matches_16 : decode cX5_matches 16 = .ok (.aload_n 0, 1) := by decide +kernel
theorem dX5_matches_17 : decode cX5_matches 17 = .ok (.getfield 43, 3) := by decide +kernel
theorem dX5_matches_20 : decode cX5_matches 20 = .ok (.aload_n 0, 1) := by decide +kernel
theorem dX5_matches_21 : decode cX5_matches 21 = .ok (.getfield 12, 3) := by decide +kernel
theorem dX5_matches_24 : decode cX5_matches 24 = .ok (.getfield 119, 3) := by decide +kernel
theorem dX5_matches_27 : decode cX5_matches 27 = .ok (.iload_n 1, 1) := by decide +kernel
theorem dX5_matches_28 : decode cX5_matches 28 = .ok (.aaload, 1) := by decide +kernel
theorem dX5_matches_29 : decode cX5_matches 29 = .ok (.aload_n 0, 1) := by decide +kernel
theorem dX5_matches_30 : decode cX5_matches 30 = .ok (.getfield 54, 3) := by decide +kernel
theorem dX5_matches_33 : decode cX5_matches 33 = .ok (.iload_n 2, 1) := by decide +kernel
theorem dX5_matches_34 : decode cX5_matches 34 = .ok (.invokevirtual 198, 3) := by decide +kernel
theorem dX5_matches_37 : decode cX5_matches 37 = .ok (.ifCond .eq 7, 3) := by decide +kernel
theorem dX5_matches_40 : decode cX5_matches 40 = .ok (.iconst 1, 1) := by decide +kernel
theorem dX5_matches_41 : decode cX5_matches 41 = .ok (.goto 4, 3) := by decide +kernel
theorem dX5_matches_44 : decode cX5_matches 44 = .ok (.iconst 0, 1) := by decide +kernel
theorem dX5_matches_45 : decode cX5_matches 45 = .ok (.ireturn, 1) := by decide +kernel
theorem dX5_matchCount_0 : decode cX5_matchCount 0 = .ok (.iload_n 1, 1) := by decide +kernel
theorem dX5_matchCount_1 : decode cX5_matchCount 1 = .ok (.iload_n 2, 1) := by decide +kernel
theorem dX5_matchCount_2 : decode cX5_matchCount 2 = .ok (.aload_n 0, 1) := by decide +kernel
theorem dX5_matchCount_3 : decode cX5_matchCount 3 = .ok (.invokevirtual 191, 3) := by decide +kernel
theorem dX5_matchCount_6 : decode cX5_matchCount 6 = .ok (.invokestatic 194, 3) := by decide +kernel
theorem dX5_matchCount_9 : decode cX5_matchCount 9 = .ok (.istore_n 3, 1) := by decide +kernel
theorem dX5_matchCount_10 : decode cX5_matchCount 10 = .ok (.iload_n 3, 1) := by decide +kernel
theorem dX5_matchCount_11 : decode cX5_matchCount 11 = .ok (.ifCond .eq 5, 3) := by decide +kernel
theorem dX5_matchCount_14 : decode cX5_matchCount 14 = .ok (.iload_n 3, 1) := by decide +kernel
theorem dX5_matchCount_15 : decode cX5_matchCount 15 = .ok (.ireturn, 1) := by decide +kernel
theorem dX5_matchCount_16 : decode cX5_matchCount 16 = .ok (.aload_n 0, 1) := by decide +kernel
theorem dX5_matchCount_17 : decode cX5_matchCount 17 = .ok (.getfield 43, 3) := by decide +kernel
theorem dX5_matchCount_20 : decode cX5_matchCount 20 = .ok (.aload_n 0, 1) := by decide +kernel
theorem dX5_matchCount_21 : decode cX5_matchCount 21 = .ok (.getfield 12, 3) := by decide +kernel
theorem dX5_matchCount_24 : decode cX5_matchCount 24 = .ok (.getfield 119, 3) := by decide +kernel
theorem dX5_matchCount_27 : decode cX5_matchCount 27 = .ok (.iload_n 1, 1) := by decide +kernel
theorem dX5_matchCount_28 : decode cX5_matchCount 28 = .ok (.aaload, 1) := by decide +kernel
theorem dX5_matchCount_29 : decode cX5_matchCount 29 = .ok (.aload_n 0, 1) := by decide +kernel
theorem dX5_matchCount_30 : decode cX5_matchCount 30 = .ok (.getfield 54, 3) := by decide +kernel
theorem dX5_matchCount_33 : decode cX5_matchCount 33 = .ok (.iload_n 2, 1) := by decide +kernel
theorem dX5_matchCount_34 : decode cX5_matchCount 34 = .ok (.invokevirtual 202, 3) := by decide +kernel
theorem dX5_matchCount_37 : decode cX5_matchCount 37 = .ok (.ireturn, 1) := by decide +kernel
theorem dX5_match_0 : decode cX5_match 0 = .ok (.iload_n 1, 1) := by decide +kernel
theorem dX5_match_1 : decode cX5_match 1 = .ok (.iload_n 2, 1) := by decide +kernel
theorem dX5_match_2 : decode cX5_match 2 = .ok (.aload_n 0, 1) := by decide +kernel
theorem dX5_match_3 : decode cX5_match 3 = .ok (.invokevirtual 191, 3) := by decide +kernel
theorem dX5_match_6 : decode cX5_match 6 = .ok (.invokestatic 194, 3) := by decide +kernel
theorem dX5_match_9 : decode cX5_match 9 = .ok (.istore_n 3, 1) := by decide +kernel
theorem dX5_match_10 : decode cX5_match 10 = .ok (.iload_n 3, 1) := by decide +kernel
theorem dX5_match_11 : decode cX5_match 11 = .ok (.ifCond .eq 5, 3) := by decide +kernel
theorem dX5_match_14 : decode cX5_match 14 = .ok (.iload_n 3, 1) := by decide +kernel
theorem dX5_match_15 : decode cX5_match 15 = .ok (.ireturn, 1) := by decide +kernel
theorem dX5_match_16 : decode cX5_match 16 = .ok (.aload_n 0, 1) := by decide +kernel
theorem dX5_match_17 : decode cX5_match 17 = .ok (.getfield 12, 3) := by decide +kernel
theorem dX5_match_20 : decode cX5_match 20 = .ok (.getfield 119, 3) := by decide +kernel
theorem dX5_match_23 : decode cX5_match 23 = .ok (.iload_n 1, 1) := by decide +kernel
theorem dX5_match_24 : decode cX5_match 24 = .ok (.aaload, 1) := by decide +kernel
theorem dX5_match_25 : decode cX5_match 25 = .ok (.astore 4, 2) := by decide +kernel
theorem dX5_match_27 : decode cX5_match 27 = .ok (.aload_n 0, 1) := by decide +kernel
theorem dX5_match_28 : decode cX5_match 28 = .ok (.getfield 43, 3) := by decide +kernel
theorem dX5_match_31 : decode cX5_match 31 = .ok (.aload 4, 2) := by decide +kernel
theorem dX5_match_33 : decode cX5_match 33 = .ok (.aload_n 0, 1) := by decide +kernel
theorem dX5_match_34 : decode cX5_match 34 = .ok (.getfield 54, 3) := by decide +kernel
theorem dX5_match_37 : decode cX5_match 37 = .ok (.iload_n 2, 1) := by decide +kernel
theorem dX5_match_38 : decode cX5_match 38 = .ok (.invokevirtual 198, 3) := by decide +kernel
theorem dX5_match_41 : decode cX5_match 41 = .ok (.ifCond .ne 6, 3) := by decide +kernel
theorem dX5_match_44 : decode cX5_match 44 = .ok (.bipush (-6), 2) := by decide +kernel
theorem dX5_match_46 : decode cX5_match 46 = .ok (.ireturn, 1) := by decide +kernel
theorem dX5_match_47 : decode cX5_match 47 = .ok (.aload 4, 2) := by decide +kernel
theorem dX5_match_49 : decode cX5_match 49 = .ok (.invokevirtual 123, 3) := by decide +kernel
theorem dX5_match_52 : decode cX5_match 52 = .ok (.iconst 4, 1) := by decide +kernel
theorem dX5_match_53 : decode cX5_match 53 = .ok (.invokestatic 206, 3) := by decide +kernel
theorem dX5_match_56 : decode cX5_match 56 = .ok (.istore 5, 2) := by decide +kernel
theorem dX5_match_58 : decode cX5_match 58 = .ok (.iconst 0, 1) := by decide +kernel
theorem dX5_match_59 : decode cX5_match 59 = .ok (.istore 6, 2) := by decide +kernel
theorem dX5_match_61 : decode cX5_match 61 = .ok (.iload 6, 2) := by decide +kernel
theorem dX5_match_63 : decode cX5_match 63 = .ok (.iload 5, 2) := by decide +kernel
theorem dX5_match_65 : decode cX5_match 65 = .ok (.if_icmp .ge 32, 3) := by decide +kernel
theorem dX5_match_68 : decode cX5_match 68 = .ok (.aload_n 0, 1) := by decide +kernel
theorem dX5_match_69 : decode cX5_match 69 = .ok (.getfield 43, 3) := by decide +kernel
theorem dX5_match_72 : decode cX5_match 72 = .ok (.iload 6, 2) := by decide +kernel
theorem dX5_match_74 : decode cX5_match 74 = .ok (.aload_n 0, 1) := by decide +kernel
theorem dX5_match_75 : decode cX5_match 75 = .ok (.getfield 54, 3) := by decide +kernel
theorem dX5_match_78 : decode cX5_match 78 = .ok (.aload_n 0, 1) := by decide +kernel
theorem dX5_match_79 : decode cX5_match 79 = .ok (.getfield 12, 3) := by decide +kernel
theorem dX5_match_82 : decode cX5_match 82 = .ok (.getfield 211, 3) := by decide +kernel
theorem dX5_match_85 : decode cX5_match 85 = .ok (.iload 6, 2) := by decide +kernel
theorem dX5_match_87 : decode cX5_match 87 = .ok (.aaload, 1) := by decide +kernel
theorem dX5_match_88 : decode cX5_match 88 = .ok (.invokevirtual 214, 3) := by decide +kernel
theorem dX5_match_91 : decode cX5_match 91 = .ok (.iinc 6 1, 3) := by decide +kernel
theorem dX5_match_94 : decode cX5_match 94 = .ok (.goto (-33), 3) := by decide +kernel
theorem dX5_match_97 : decode cX5_match 97 = .ok (.iload 5, 2) := by decide +kernel
theorem dX5_match_99 : decode cX5_match 99 = .ok (.ifCond .le 18, 3) := by decide +kernel
theorem dX5_match_102 : decode cX5_match 102 = .ok (.aload_n 0, 1) := by decide +kernel
theorem dX5_match_103 : decode cX5_match 103 = .ok (.getfield 12, 3) := by decide +kernel
theorem dX5_match_106 : decode cX5_match 106 = .ok (.getfield 211, 3) := by decide +kernel
theorem dX5_match_109 : decode cX5_match 109 = .ok (.iconst 0, 1) := by decide +kernel
theorem dX5_match_110 : decode cX5_match 110 = .ok (.aaload, 1) := by decide +kernel
theorem dX5_match_111 : decode cX5_match 111 = .ok (.getfield 68, 3) := by decide +kernel
theorem dX5_match_114 : decode cX5_match 114 = .ok (.goto 4, 3) := by decide +kernel
theorem dX5_match_117 : decode cX5_match 117 = .ok (.iconst 0, 1) := by decide +kernel
theorem dX5_match_118 : decode cX5_match 118 = .ok (.ireturn, 1) := by decide +kernel
theorem dX5_refusalOfMatching_0 : decode cX5_refusalOfMatching 0 = .ok (.iload_n 0, 1) := by decide +kernel
theorem dX5_refusalOfMatching_1 : decode cX5_refusalOfMatching 1 = .ok (.invokestatic 112, 3) := by decide +kernel
theorem dX5_refusalOfMatching_4 : decode cX5_refusalOfMatching 4 = .ok (.ifCond .ne 6, 3) := by decide +kernel
theorem dX5_refusalOfMatching_7 : decode cX5_refusalOfMatching 7 = .ok (.bipush (-2), 2) := by decide +kernel
theorem dX5_refusalOfMatching_9 : decode cX5_refusalOfMatching 9 = .ok (.ireturn, 1) := by decide +kernel
theorem dX5_refusalOfMatching_10 : decode cX5_refusalOfMatching 10 = .ok (.iload_n 1, 1) := by decide +kernel
theorem dX5_refusalOfMatching_11 : decode cX5_refusalOfMatching 11 = .ok (.invokestatic 218, 3) := by decide +kernel
theorem dX5_refusalOfMatching_14 : decode cX5_refusalOfMatching 14 = .ok (.ifCond .ne 5, 3) := by decide +kernel
theorem dX5_refusalOfMatching_17 : decode cX5_refusalOfMatching 17 = .ok (.iconst (-1), 1) := by decide +kernel
theorem dX5_refusalOfMatching_18 : decode cX5_refusalOfMatching 18 = .ok (.ireturn, 1) := by decide +kernel
theorem dX5_refusalOfMatching_19 : decode cX5_refusalOfMatching 19 = .ok (.iload_n 2, 1) := by decide +kernel
theorem dX5_refusalOfMatching_20 : decode cX5_refusalOfMatching 20 = .ok (.ifCond .eq 7, 3) := by decide +kernel
theorem dX5_refusalOfMatching_23 : decode cX5_refusalOfMatching 23 = .ok (.iconst 0, 1) := by decide +kernel
theorem dX5_refusalOfMatching_24 : decode cX5_refusalOfMatching 24 = .ok (.goto 5, 3) := by decide +kernel
theorem dX5_refusalOfMatching_27 : decode cX5_refusalOfMatching 27 = .ok (.bipush (-5), 2) := by decide +kernel
theorem dX5_refusalOfMatching_29 : decode cX5_refusalOfMatching 29 = .ok (.ireturn, 1) := by decide +kernel
theorem dX5_setImage_0 : decode cX5_setImage 0 = .ok (.aload_n 0, 1) := by decide +kernel
theorem dX5_setImage_1 : decode cX5_setImage 1 = .ok (.invokevirtual 191, 3) := by decide +kernel
theorem dX5_setImage_4 : decode cX5_setImage 4 = .ok (.istore_n 2, 1) := by decide +kernel
theorem dX5_setImage_5 : decode cX5_setImage 5 = .ok (.iload_n 1, 1) := by decide +kernel
theorem dX5_setImage_6 : decode cX5_setImage 6 = .ok (.invokestatic 147, 3) := by decide +kernel
theorem dX5_setImage_9 : decode cX5_setImage 9 = .ok (.ifCond .ne 6, 3) := by decide +kernel
theorem dX5_setImage_12 : decode cX5_setImage 12 = .ok (.bipush (-3), 2) := by decide +kernel
theorem dX5_setImage_14 : decode cX5_setImage 14 = .ok (.ireturn, 1) := by decide +kernel
theorem dX5_setImage_15 : decode cX5_setImage 15 = .ok (.iload_n 2, 1) := by decide +kernel
theorem dX5_setImage_16 : decode cX5_setImage 16 = .ok (.ifCond .ne 6, 3) := by decide +kernel
theorem dX5_setImage_19 : decode cX5_setImage 19 = .ok (.bipush (-5), 2) := by decide +kernel
theorem dX5_setImage_21 : decode cX5_setImage 21 = .ok (.ireturn, 1) := by decide +kernel
theorem dX5_setImage_22 : decode cX5_setImage 22 = .ok (.aload_n 0, 1) := by decide +kernel
theorem dX5_setImage_23 : decode cX5_setImage 23 = .ok (.getfield 12, 3) := by decide +kernel
theorem dX5_setImage_26 : decode cX5_setImage 26 = .ok (.getfield 211, 3) := by decide +kernel
theorem dX5_setImage_29 : decode cX5_setImage 29 = .ok (.iload_n 1, 1) := by decide +kernel
theorem dX5_setImage_30 : decode cX5_setImage 30 = .ok (.aaload, 1) := by decide +kernel
theorem dX5_setImage_31 : decode cX5_setImage 31 = .ok (.aload_n 0, 1) := by decide +kernel
theorem dX5_setImage_32 : decode cX5_setImage 32 = .ok (.getfield 54, 3) := by decide +kernel
theorem dX5_setImage_35 : decode cX5_setImage 35 = .ok (.invokevirtual 143, 3) := by decide +kernel
theorem dX5_setImage_38 : decode cX5_setImage 38 = .ok (.aload_n 0, 1) := by decide +kernel
theorem dX5_setImage_39 : decode cX5_setImage 39 = .ok (.getfield 54, 3) := by decide +kernel
theorem dX5_setImage_42 : decode cX5_setImage 42 = .ok (.getfield 68, 3) := by decide +kernel
theorem dX5_setImage_45 : decode cX5_setImage 45 = .ok (.ireturn, 1) := by decide +kernel
theorem dX5_imageLetter_0 : decode cX5_imageLetter 0 = .ok (.iload_n 1, 1) := by decide +kernel
theorem dX5_imageLetter_1 : decode cX5_imageLetter 1 = .ok (.invokestatic 147, 3) := by decide +kernel
theorem dX5_imageLetter_4 : decode cX5_imageLetter 4 = .ok (.ifCond .ne 6, 3) := by decide +kernel
theorem dX5_imageLetter_7 : decode cX5_imageLetter 7 = .ok (.bipush (-3), 2) := by decide +kernel
theorem dX5_imageLetter_9 : decode cX5_imageLetter 9 = .ok (.ireturn, 1) := by decide +kernel
theorem dX5_imageLetter_10 : decode cX5_imageLetter 10 = .ok (.aload_n 0, 1) := by decide +kernel
theorem dX5_imageLetter_11 : decode cX5_imageLetter 11 = .ok (.getfield 12, 3) := by decide +kernel
theorem dX5_imageLetter_14 : decode cX5_imageLetter 14 = .ok (.getfield 211, 3) := by decide +kernel
theorem dX5_imageLetter_17 : decode cX5_imageLetter 17 = .ok (.iload_n 1, 1) := by decide +kernel
theorem dX5_imageLetter_18 : decode cX5_imageLetter 18 = .ok (.aaload, 1) := by decide +kernel
theorem dX5_imageLetter_19 : decode cX5_imageLetter 19 = .ok (.iload_n 2, 1) := by decide +kernel
theorem dX5_imageLetter_20 : decode cX5_imageLetter 20 = .ok (.invokevirtual 92, 3) := by decide +kernel
theorem dX5_imageLetter_23 : decode cX5_imageLetter 23 = .ok (.istore_n 3, 1) := by decide +kernel
theorem dX5_imageLetter_24 : decode cX5_imageLetter 24 = .ok (.iload_n 3, 1) := by decide +kernel
theorem dX5_imageLetter_25 : decode cX5_imageLetter 25 = .ok (.iconst (-1), 1) := by decide +kernel
theorem dX5_imageLetter_26 : decode cX5_imageLetter 26 = .ok (.if_icmp .ne 8, 3) := by decide +kernel
theorem dX5_imageLetter_29 : decode cX5_imageLetter 29 = .ok (.bipush (-6), 2) := by decide +kernel
theorem dX5_imageLetter_31 : decode cX5_imageLetter 31 = .ok (.goto 4, 3) := by decide +kernel
theorem dX5_imageLetter_34 : decode cX5_imageLetter 34 = .ok (.iload_n 3, 1) := by decide +kernel
theorem dX5_imageLetter_35 : decode cX5_imageLetter 35 = .ok (.ireturn, 1) := by decide +kernel
theorem dX5_addProduced_0 : decode cX5_addProduced 0 = .ok (.iload_n 1, 1) := by decide +kernel
theorem dX5_addProduced_1 : decode cX5_addProduced 1 = .ok (.invokestatic 112, 3) := by decide +kernel
theorem dX5_addProduced_4 : decode cX5_addProduced 4 = .ok (.ifCond .ne 6, 3) := by decide +kernel
theorem dX5_addProduced_7 : decode cX5_addProduced 7 = .ok (.bipush (-2), 2) := by decide +kernel
theorem dX5_addProduced_9 : decode cX5_addProduced 9 = .ok (.ireturn, 1) := by decide +kernel
theorem dX5_addProduced_10 : decode cX5_addProduced 10 = .ok (.aload_n 0, 1) := by decide +kernel
theorem dX5_addProduced_11 : decode cX5_addProduced 11 = .ok (.aload_n 0, 1) := by decide +kernel
theorem dX5_addProduced_12 : decode cX5_addProduced 12 = .ok (.getfield 12, 3) := by decide +kernel
theorem dX5_addProduced_15 : decode cX5_addProduced 15 = .ok (.getfield 119, 3) := by decide +kernel
theorem dX5_addProduced_18 : decode cX5_addProduced 18 = .ok (.iload_n 1, 1) := by decide +kernel
theorem dX5_addProduced_19 : decode cX5_addProduced 19 = .ok (.aaload, 1) := by decide +kernel
theorem dX5_addProduced_20 : decode cX5_addProduced 20 = .ok (.invokevirtual 221, 3) := by decide +kernel
theorem dX5_addProduced_23 : decode cX5_addProduced 23 = .ok (.ifCond .eq 10, 3) := by decide +kernel
theorem dX5_addProduced_26 : decode cX5_addProduced 26 = .ok (.aload_n 0, 1) := by decide +kernel
theorem dX5_addProduced_27 : decode cX5_addProduced 27 = .ok (.invokevirtual 224, 3) := by decide +kernel
theorem dX5_addProduced_30 : decode cX5_addProduced 30 = .ok (.goto 5, 3) := by decide +kernel
theorem dX5_addProduced_33 : decode cX5_addProduced 33 = .ok (.bipush (-4), 2) := by decide +kernel
theorem dX5_addProduced_35 : decode cX5_addProduced 35 = .ok (.ireturn, 1) := by decide +kernel
theorem dX5_produce_0 : decode cX5_produce 0 = .ok (.aload_n 0, 1) := by decide +kernel
theorem dX5_produce_1 : decode cX5_produce 1 = .ok (.getfield 54, 3) := by decide +kernel
theorem dX5_produce_4 : decode cX5_produce 4 = .ok (.invokevirtual 75, 3) := by decide +kernel
theorem dX5_produce_7 : decode cX5_produce 7 = .ok (.iconst 1, 1) := by decide +kernel
theorem dX5_produce_8 : decode cX5_produce 8 = .ok (.istore_n 2, 1) := by decide +kernel
theorem dX5_produce_9 : decode cX5_produce 9 = .ok (.iconst 0, 1) := by decide +kernel
theorem dX5_produce_10 : decode cX5_produce 10 = .ok (.istore_n 3, 1) := by decide +kernel
theorem dX5_produce_11 : decode cX5_produce 11 = .ok (.iload_n 3, 1) := by decide +kernel
theorem dX5_produce_12 : decode cX5_produce 12 = .ok (.aload_n 1, 1) := by decide +kernel
theorem dX5_produce_13 : decode cX5_produce 13 = .ok (.getfield 68, 3) := by decide +kernel
theorem dX5_produce_16 : decode cX5_produce 16 = .ok (.if_icmp .ge 65, 3) := by decide +kernel
theorem dX5_produce_19 : decode cX5_produce 19 = .ok (.iload_n 2, 1) := by decide +kernel
theorem dX5_produce_20 : decode cX5_produce 20 = .ok (.ifCond .eq 61, 3) := by decide +kernel
theorem dX5_produce_23 : decode cX5_produce 23 = .ok (.aload_n 1, 1) := by decide +kernel
theorem dX5_produce_24 : decode cX5_produce 24 = .ok (.iload_n 3, 1) := by decide +kernel
theorem dX5_produce_25 : decode cX5_produce 25 = .ok (.invokevirtual 92, 3) := by decide +kernel
theorem dX5_produce_28 : decode cX5_produce 28 = .ok (.istore 4, 2) := by decide +kernel
theorem dX5_produce_30 : decode cX5_produce 30 = .ok (.iload 4, 2) := by decide +kernel
theorem dX5_produce_32 : decode cX5_produce 32 = .ok (.bipush 10, 2) := by decide +kernel
theorem dX5_produce_34 : decode cX5_produce 34 = .ok (.isub, 1) := by decide +kernel
theorem dX5_produce_35 : decode cX5_produce 35 = .ok (.istore 5, 2) := by decide +kernel
theorem dX5_produce_37 : decode cX5_produce 37 = .ok (.iload 5, 2) := by decide +kernel
theorem dX5_produce_39 : decode cX5_produce 39 = .ok (.invokestatic 147, 3) := by decide +kernel
theorem dX5_produce_42 : decode cX5_produce 42 = .ok (.ifCond .eq 23, 3) := by decide +kernel
theorem dX5_produce_45 : decode cX5_produce 45 = .ok (.aload_n 0, 1) := by decide +kernel
theorem dX5_produce_46 : decode cX5_produce 46 = .ok (.getfield 54, 3) := by decide +kernel
theorem dX5_produce_49 : decode cX5_produce 49 = .ok (.aload_n 0, 1) := by decide +kernel
theorem dX5_produce_50 : decode cX5_produce 50 = .ok (.getfield 12, 3) := by decide +kernel
theorem dX5_produce_53 : decode cX5_produce 53 = .ok (.getfield 211, 3) := by decide +kernel
theorem dX5_produce_56 : decode cX5_produce 56 = .ok (.iload 5, 2) := by decide +kernel
theorem dX5_produce_58 : decode cX5_produce 58 = .ok (.aaload, 1) := by decide +kernel
theorem dX5_produce_59 : decode cX5_produce 59 = .ok (.invokevirtual 227, 3) := by decide +kernel
theorem dX5_produce_62 : decode cX5_produce 62 = .ok (.goto 12, 3) := by decide +kernel
theorem dX5_produce_65 : decode cX5_produce 65 = .ok (.aload_n 0, 1) := by decide +kernel
theorem dX5_produce_66 : decode cX5_produce 66 = .ok (.getfield 54, 3) := by decide +kernel
theorem dX5_produce_69 : decode cX5_produce 69 = .ok (.iload 4, 2) := by decide +kernel
theorem dX5_produce_71 : decode cX5_produce 71 = .ok (.invokevirtual 71, 3) := by decide +kernel
theorem dX5_produce_74 : decode cX5_produce 74 = .ok (.istore_n 2, 1) := by decide +kernel
theorem dX5_produce_75 : decode cX5_produce 75 = .ok (.iinc 3 1, 3) := by decide +kernel
theorem dX5_produce_78 : decode cX5_produce 78 = .ok (.goto (-67), 3) := by decide +kernel
theorem dX5_produce_81 : decode cX5_produce 81 = .ok (.iload_n 2, 1) := by decide +kernel
theorem dX5_produce_82 : decode cX5_produce 82 = .ok (.ireturn, 1) := by decide +kernel
theorem dX5_addWord_0 : decode cX5_addWord 0 = .ok (.aload_n 0, 1) := by decide +kernel
theorem dX5_addWord_1 : decode cX5_addWord 1 = .ok (.invokevirtual 191, 3) := by decide +kernel
theorem dX5_addWord_4 : decode cX5_addWord 4 = .ok (.ifCond .eq 10, 3) := by decide +kernel
theorem dX5_addWord_7 : decode cX5_addWord 7 = .ok (.aload_n 0, 1) := by decide +kernel
theorem dX5_addWord_8 : decode cX5_addWord 8 = .ok (.invokevirtual 224, 3) := by decide +kernel
theorem dX5_addWord_11 : decode cX5_addWord 11 = .ok (.goto 5, 3) := by decide +kernel
theorem dX5_addWord_14 : decode cX5_addWord 14 = .ok (.bipush (-5), 2) := by decide +kernel
theorem dX5_addWord_16 : decode cX5_addWord 16 = .ok (.ireturn, 1) := by decide +kernel
theorem dX5_addToSample_0 : decode cX5_addToSample 0 = .ok (.aload_n 0, 1) := by decide +kernel
theorem dX5_addToSample_1 : decode cX5_addToSample 1 = .ok (.getfield 12, 3) := by decide +kernel
theorem dX5_addToSample_4 : decode cX5_addToSample 4 = .ok (.getfield 230, 3) := by decide +kernel
theorem dX5_addToSample_7 : decode cX5_addToSample 7 = .ok (.ifCond .lt 15, 3) := by decide +kernel
theorem dX5_addToSample_10 : decode cX5_addToSample 10 = .ok (.aload_n 0, 1) := by decide +kernel
theorem dX5_addToSample_11 : decode cX5_addToSample 11 = .ok (.getfield 12, 3) := by decide +kernel
theorem dX5_addToSample_14 : decode cX5_addToSample 14 = .ok (.getfield 230, 3) := by decide +kernel
theorem dX5_addToSample_17 : decode cX5_addToSample 17 = .ok (.bipush 6, 2) := by decide +kernel
theorem dX5_addToSample_19 : decode cX5_addToSample 19 = .ok (.if_icmp .lt 6, 3) := by decide +kernel
theorem dX5_addToSample_22 : decode cX5_addToSample 22 = .ok (.bipush (-4), 2) := by decide +kernel
theorem dX5_addToSample_24 : decode cX5_addToSample 24 = .ok (.ireturn, 1) := by decide +kernel
theorem dX5_addToSample_25 : decode cX5_addToSample 25 = .ok (.aload_n 0, 1) := by decide +kernel
theorem dX5_addToSample_26 : decode cX5_addToSample 26 = .ok (.getfield 12, 3) := by decide +kernel
theorem dX5_addToSample_29 : decode cX5_addToSample 29 = .ok (.getfield 233, 3) := by decide +kernel
theorem dX5_addToSample_32 : decode cX5_addToSample 32 = .ok (.aload_n 0, 1) := by decide +kernel
theorem dX5_addToSample_33 : decode cX5_addToSample 33 = .ok (.getfield 12, 3) := by decide +kernel
theorem dX5_addToSample_36 : decode cX5_addToSample 36 = .ok (.getfield 230, 3) := by decide +kernel
theorem dX5_addToSample_39 : decode cX5_addToSample 39 = .ok (.aaload, 1) := by decide +kernel
theorem dX5_addToSample_40 : decode cX5_addToSample 40 = .ok (.aload_n 0, 1) := by decide +kernel
theorem dX5_addToSample_41 : decode cX5_addToSample 41 = .ok (.getfield 54, 3) := by decide +kernel
theorem dX5_addToSample_44 : decode cX5_addToSample 44 = .ok (.invokevirtual 143, 3) := by decide +kernel
theorem dX5_addToSample_47 : decode cX5_addToSample 47 = .ok (.aload_n 0, 1) := by decide +kernel
theorem dX5_addToSample_48 : decode cX5_addToSample 48 = .ok (.getfield 12, 3) := by decide +kernel
theorem dX5_addToSample_51 : decode cX5_addToSample 51 = .ok (.dup, 1) := by decide +kernel
theorem dX5_addToSample_52 : decode cX5_addToSample 52 = .ok (.getfield 230, 3) := by decide +kernel
theorem dX5_addToSample_55 : decode cX5_addToSample 55 = .ok (.iconst 1, 1) := by decide +kernel
theorem dX5_addToSample_56 : decode cX5_addToSample 56 = .ok (.iadd, 1) := by decide +kernel
theorem dX5_addToSample_57 : decode cX5_addToSample 57 = .ok (.putfield 230, 3) := by decide +kernel
theorem dX5_addToSample_60 : decode cX5_addToSample 60 = .ok (.aload_n 0, 1) := by decide +kernel
theorem dX5_addToSample_61 : decode cX5_addToSample 61 = .ok (.getfield 12, 3) := by decide +kernel
theorem dX5_addToSample_64 : decode cX5_addToSample 64 = .ok (.getfield 230, 3) := by decide +kernel
theorem dX5_addToSample_67 : decode cX5_addToSample 67 = .ok (.ireturn, 1) := by decide +kernel
theorem dX5_removeWord_0 : decode cX5_removeWord 0 = .ok (.aload_n 0, 1) := by decide +kernel
theorem dX5_removeWord_1 : decode cX5_removeWord 1 = .ok (.iload_n 1, 1) := by decide +kernel
theorem dX5_removeWord_2 : decode cX5_removeWord 2 = .ok (.invokevirtual 236, 3) := by decide +kernel
theorem dX5_removeWord_5 : decode cX5_removeWord 5 = .ok (.ifCond .ne 6, 3) := by decide +kernel
theorem dX5_removeWord_8 : decode cX5_removeWord 8 = .ok (.bipush (-6), 2) := by decide +kernel
theorem dX5_removeWord_10 : decode cX5_removeWord 10 = .ok (.ireturn, 1) := by decide +kernel
theorem dX5_removeWord_11 : decode cX5_removeWord 11 = .ok (.iload_n 1, 1) := by decide +kernel
theorem dX5_removeWord_12 : decode cX5_removeWord 12 = .ok (.istore_n 2, 1) := by decide +kernel
theorem dX5_removeWord_13 : decode cX5_removeWord 13 = .ok (.iload_n 2, 1) := by decide +kernel
theorem dX5_removeWord_14 : decode cX5_removeWord 14 = .ok (.iconst 1, 1) := by decide +kernel
theorem dX5_removeWord_15 : decode cX5_removeWord 15 = .ok (.iadd, 1) := by decide +kernel
theorem dX5_removeWord_16 : decode cX5_removeWord 16 = .ok (.aload_n 0, 1) := by decide +kernel
theorem dX5_removeWord_17 : decode cX5_removeWord 17 = .ok (.getfield 12, 3) := by decide +kernel
theorem dX5_removeWord_20 : decode cX5_removeWord 20 = .ok (.getfield 230, 3) := by decide +kernel
theorem dX5_removeWord_23 : decode cX5_removeWord 23 = .ok (.if_icmp .ge 40, 3) := by decide +kernel
theorem dX5_removeWord_26 : decode cX5_removeWord 26 = .ok (.iload_n 2, 1) := by decide +kernel
theorem dX5_removeWord_27 : decode cX5_removeWord 27 = .ok (.iconst 1, 1) := by decide +kernel
theorem dX5_removeWord_28 : decode cX5_removeWord 28 = .ok (.iadd, 1) := by decide +kernel
theorem dX5_removeWord_29 : decode cX5_removeWord 29 = .ok (.bipush 6, 2) := by decide +kernel
theorem dX5_removeWord_31 : decode cX5_removeWord 31 = .ok (.if_icmp .ge 32, 3) := by decide +kernel
theorem dX5_removeWord_34 : decode cX5_removeWord 34 = .ok (.aload_n 0, 1) := by decide +kernel
theorem dX5_removeWord_35 : decode cX5_removeWord 35 = .ok (.getfield 12, 3) := by decide +kernel
theorem dX5_removeWord_38 : decode cX5_removeWord 38 = .ok (.getfield 233, 3) := by decide +kernel
theorem dX5_removeWord_41 : decode cX5_removeWord 41 = .ok (.iload_n 2, 1) := by decide +kernel
theorem dX5_removeWord_42 : decode cX5_removeWord 42 = .ok (.aaload, 1) := by decide +kernel
theorem dX5_removeWord_43 : decode cX5_removeWord 43 = .ok (.aload_n 0, 1) := by decide +kernel
theorem dX5_removeWord_44 : decode cX5_removeWord 44 = .ok (.getfield 12, 3) := by decide +kernel
theorem dX5_removeWord_47 : decode cX5_removeWord 47 = .ok (.getfield 233, 3) := by decide +kernel
theorem dX5_removeWord_50 : decode cX5_removeWord 50 = .ok (.iload_n 2, 1) := by decide +kernel
theorem dX5_removeWord_51 : decode cX5_removeWord 51 = .ok (.iconst 1, 1) := by decide +kernel
theorem dX5_removeWord_52 : decode cX5_removeWord 52 = .ok (.iadd, 1) := by decide +kernel
theorem dX5_removeWord_53 : decode cX5_removeWord 53 = .ok (.aaload, 1) := by decide +kernel
theorem dX5_removeWord_54 : decode cX5_removeWord 54 = .ok (.invokevirtual 143, 3) := by decide +kernel
theorem dX5_removeWord_57 : decode cX5_removeWord 57 = .ok (.iinc 2 1, 3) := by decide +kernel
theorem dX5_removeWord_60 : decode cX5_removeWord 60 = .ok (.goto (-47), 3) := by decide +kernel
theorem dX5_removeWord_63 : decode cX5_removeWord 63 = .ok (.aload_n 0, 1) := by decide +kernel
theorem dX5_removeWord_64 : decode cX5_removeWord 64 = .ok (.getfield 12, 3) := by decide +kernel
theorem dX5_removeWord_67 : decode cX5_removeWord 67 = .ok (.dup, 1) := by decide +kernel
theorem dX5_removeWord_68 : decode cX5_removeWord 68 = .ok (.getfield 230, 3) := by decide +kernel
theorem dX5_removeWord_71 : decode cX5_removeWord 71 = .ok (.iconst 1, 1) := by decide +kernel
theorem dX5_removeWord_72 : decode cX5_removeWord 72 = .ok (.isub, 1) := by decide +kernel
theorem dX5_removeWord_73 : decode cX5_removeWord 73 = .ok (.putfield 230, 3) := by decide +kernel
theorem dX5_removeWord_76 : decode cX5_removeWord 76 = .ok (.aload_n 0, 1) := by decide +kernel
theorem dX5_removeWord_77 : decode cX5_removeWord 77 = .ok (.getfield 12, 3) := by decide +kernel
theorem dX5_removeWord_80 : decode cX5_removeWord 80 = .ok (.getfield 230, 3) := by decide +kernel
theorem dX5_removeWord_83 : decode cX5_removeWord 83 = .ok (.ireturn, 1) := by decide +kernel
theorem dX5_sampleSize_0 : decode cX5_sampleSize 0 = .ok (.aload_n 0, 1) := by decide +kernel
theorem dX5_sampleSize_1 : decode cX5_sampleSize 1 = .ok (.getfield 12, 3) := by decide +kernel
theorem dX5_sampleSize_4 : decode cX5_sampleSize 4 = .ok (.getfield 230, 3) := by decide +kernel
theorem dX5_sampleSize_7 : decode cX5_sampleSize 7 = .ok (.ireturn, 1) := by decide +kernel
theorem dX5_sampleCode_0 : decode cX5_sampleCode 0 = .ok (.aload_n 0, 1) := by decide +kernel
theorem dX5_sampleCode_1 : decode cX5_sampleCode 1 = .ok (.iload_n 1, 1) := by decide +kernel
theorem dX5_sampleCode_2 : decode cX5_sampleCode 2 = .ok (.invokevirtual 236, 3) := by decide +kernel
theorem dX5_sampleCode_5 : decode cX5_sampleCode 5 = .ok (.ifCond .eq 18, 3) := by decide +kernel
theorem dX5_sampleCode_8 : decode cX5_sampleCode 8 = .ok (.aload_n 0, 1) := by decide +kernel
theorem dX5_sampleCode_9 : decode cX5_sampleCode 9 = .ok (.getfield 12, 3) := by decide +kernel
theorem dX5_sampleCode_12 : decode cX5_sampleCode 12 = .ok (.getfield 233, 3) := by decide +kernel
theorem dX5_sampleCode_15 : decode cX5_sampleCode 15 = .ok (.iload_n 1, 1) := by decide +kernel
theorem dX5_sampleCode_16 : decode cX5_sampleCode 16 = .ok (.aaload, 1) := by decide +kernel
theorem dX5_sampleCode_17 : decode cX5_sampleCode 17 = .ok (.invokevirtual 239, 3) := by decide +kernel
theorem dX5_sampleCode_20 : decode cX5_sampleCode 20 = .ok (.goto 6, 3) := by decide +kernel
theorem dX5_sampleCode_23 : decode cX5_sampleCode 23 = .ok (.ldc2_w 243, 3) := by decide +kernel
theorem dX5_sampleCode_26 : decode cX5_sampleCode 26 = .ok (.lreturn, 1) := by decide +kernel
theorem dX5_firstMisfit_0 : decode cX5_firstMisfit 0 = .ok (.iload_n 1, 1) := by decide +kernel
theorem dX5_firstMisfit_1 : decode cX5_firstMisfit 1 = .ok (.invokestatic 112, 3) := by decide +kernel
theorem dX5_firstMisfit_4 : decode cX5_firstMisfit 4 = .ok (.ifCond .ne 6, 3) := by decide +kernel
theorem dX5_firstMisfit_7 : decode cX5_firstMisfit 7 = .ok (.bipush (-2), 2) := by decide +kernel
theorem dX5_firstMisfit_9 : decode cX5_firstMisfit 9 = .ok (.ireturn, 1) := by decide +kernel
theorem dX5_firstMisfit_10 : decode cX5_firstMisfit 10 = .ok (.iload_n 2, 1) := by decide +kernel
theorem dX5_firstMisfit_11 : decode cX5_firstMisfit 11 = .ok (.invokestatic 218, 3) := by decide +kernel
theorem dX5_firstMisfit_14 : decode cX5_firstMisfit 14 = .ok (.ifCond .ne 5, 3) := by decide +kernel
theorem dX5_firstMisfit_17 : decode cX5_firstMisfit 17 = .ok (.iconst (-1), 1) := by decide +kernel
theorem dX5_firstMisfit_18 : decode cX5_firstMisfit 18 = .ok (.ireturn, 1) := by decide +kernel
theorem dX5_firstMisfit_19 : decode cX5_firstMisfit 19 = .ok (.iconst 0, 1) := by decide +kernel
theorem dX5_firstMisfit_20 : decode cX5_firstMisfit 20 = .ok (.istore_n 3, 1) := by decide +kernel
theorem dX5_firstMisfit_21 : decode cX5_firstMisfit 21 = .ok (.iload_n 3, 1) := by decide +kernel
theorem dX5_firstMisfit_22 : decode cX5_firstMisfit 22 = .ok (.aload_n 0, 1) := by decide +kernel
theorem dX5_firstMisfit_23 : decode cX5_firstMisfit 23 = .ok (.getfield 12, 3) := by decide +kernel
theorem dX5_firstMisfit_26 : decode cX5_firstMisfit 26 = .ok (.getfield 230, 3) := by decide +kernel
theorem dX5_firstMisfit_29 : decode cX5_firstMisfit 29 = .ok (.if_icmp .ge 46, 3) := by decide +kernel
theorem dX5_firstMisfit_32 : decode cX5_firstMisfit 32 = .ok (.iload_n 3, 1) := by decide +kernel
theorem dX5_firstMisfit_33 : decode cX5_firstMisfit 33 = .ok (.bipush 6, 2) := by decide +kernel
theorem dX5_firstMisfit_35 : decode cX5_firstMisfit 35 = .ok (.if_icmp .ge 40, 3) := by decide +kernel
theorem dX5_firstMisfit_38 : decode cX5_firstMisfit 38 = .ok (.aload_n 0, 1) := by decide +kernel
theorem dX5_firstMisfit_39 : decode cX5_firstMisfit 39 = .ok (.getfield 43, 3) := by decide +kernel
theorem dX5_firstMisfit_42 : decode cX5_firstMisfit 42 = .ok (.aload_n 0, 1) := by decide +kernel
theorem dX5_firstMisfit_43 : decode cX5_firstMisfit 43 = .ok (.getfield 12, 3) := by decide +kernel
theorem dX5_firstMisfit_46 : decode cX5_firstMisfit 46 = .ok (.getfield 119, 3) := by decide +kernel
theorem dX5_firstMisfit_49 : decode cX5_firstMisfit 49 = .ok (.iload_n 1, 1) := by decide +kernel
theorem dX5_firstMisfit_50 : decode cX5_firstMisfit 50 = .ok (.aaload, 1) := by decide +kernel
theorem dX5_firstMisfit_51 : decode cX5_firstMisfit 51 = .ok (.aload_n 0, 1) := by decide +kernel
theorem dX5_firstMisfit_52 : decode cX5_firstMisfit 52 = .ok (.getfield 12, 3) := by decide +kernel
theorem dX5_firstMisfit_55 : decode cX5_firstMisfit 55 = .ok (.getfield 233, 3) := by decide +kernel
theorem dX5_firstMisfit_58 : decode cX5_firstMisfit 58 = .ok (.iload_n 3, 1) := by decide +kernel
theorem dX5_firstMisfit_59 : decode cX5_firstMisfit 59 = .ok (.aaload, 1) := by decide +kernel
theorem dX5_firstMisfit_60 : decode cX5_firstMisfit 60 = .ok (.iload_n 2, 1) := by decide +kernel
theorem dX5_firstMisfit_61 : decode cX5_firstMisfit 61 = .ok (.invokevirtual 198, 3) := by decide +kernel
theorem dX5_firstMisfit_64 : decode cX5_firstMisfit 64 = .ok (.ifCond .ne 5, 3) := by decide +kernel
theorem dX5_firstMisfit_67 : decode cX5_firstMisfit 67 = .ok (.iload_n 3, 1) := by decide +kernel
theorem dX5_firstMisfit_68 : decode cX5_firstMisfit 68 = .ok (.ireturn, 1) := by decide +kernel
theorem dX5_firstMisfit_69 : decode cX5_firstMisfit 69 = .ok (.iinc 3 1, 3) := by decide +kernel
theorem dX5_firstMisfit_72 : decode cX5_firstMisfit 72 = .ok (.goto (-51), 3) := by decide +kernel
theorem dX5_firstMisfit_75 : decode cX5_firstMisfit 75 = .ok (.bipush (-6), 2) := by decide +kernel
theorem dX5_firstMisfit_77 : decode cX5_firstMisfit 77 = .ok (.ireturn, 1) := by decide +kernel
theorem dX5_isSampleIndex_0 : decode cX5_isSampleIndex 0 = .ok (.iload_n 1, 1) := by decide +kernel
theorem dX5_isSampleIndex_1 : decode cX5_isSampleIndex 1 = .ok (.ifCond .lt 24, 3) := by decide +kernel
theorem dX5_isSampleIndex_4 : decode cX5_isSampleIndex 4 = .ok (.iload_n 1, 1) := by decide +kernel
theorem dX5_isSampleIndex_5 : decode cX5_isSampleIndex 5 = .ok (.aload_n 0, 1) := by decide +kernel
theorem dX5_isSampleIndex_6 : decode cX5_isSampleIndex 6 = .ok (.getfield 12, 3) := by decide +kernel
theorem dX5_isSampleIndex_9 : decode cX5_isSampleIndex 9 = .ok (.getfield 230, 3) := by decide +kernel
theorem dX5_isSampleIndex_12 : decode cX5_isSampleIndex 12 = .ok (.if_icmp .ge 13, 3) := by decide +kernel
theorem dX5_isSampleIndex_15 : decode cX5_isSampleIndex 15 = .ok (.iload_n 1, 1) := by decide +kernel
theorem dX5_isSampleIndex_16 : decode cX5_isSampleIndex 16 = .ok (.bipush 6, 2) := by decide +kernel
theorem dX5_isSampleIndex_18 : decode cX5_isSampleIndex 18 = .ok (.if_icmp .ge 7, 3) := by decide +kernel
theorem dX5_isSampleIndex_21 : decode cX5_isSampleIndex 21 = .ok (.iconst 1, 1) := by decide +kernel
theorem dX5_isSampleIndex_22 : decode cX5_isSampleIndex 22 = .ok (.goto 4, 3) := by decide +kernel
theorem dX5_isSampleIndex_25 : decode cX5_isSampleIndex 25 = .ok (.iconst 0, 1) := by decide +kernel
theorem dX5_isSampleIndex_26 : decode cX5_isSampleIndex 26 = .ok (.ireturn, 1) := by decide +kernel
theorem dX5_isMoreGeneral_0 : decode cX5_isMoreGeneral 0 = .ok (.iload_n 1, 1) := by decide +kernel
theorem dX5_isMoreGeneral_1 : decode cX5_isMoreGeneral 1 = .ok (.invokestatic 112, 3) := by decide +kernel
theorem dX5_isMoreGeneral_4 : decode cX5_isMoreGeneral 4 = .ok (.ifCond .eq 10, 3) := by decide +kernel
theorem dX5_isMoreGeneral_7 : decode cX5_isMoreGeneral 7 = .ok (.iload_n 2, 1) := by decide +kernel
theorem dX5_isMoreGeneral_8 : decode cX5_isMoreGeneral 8 = .ok (.invokestatic 112, 3) := by decide +kernel
theorem dX5_isMoreGeneral_11 : decode cX5_isMoreGeneral 11 = .ok (.ifCond .ne 6, 3) := by decide +kernel
theorem dX5_isMoreGeneral_14 : decode cX5_isMoreGeneral 14 = .ok (.bipush (-2), 2) := by decide +kernel
theorem dX5_isMoreGeneral_16 : decode cX5_isMoreGeneral 16 = .ok (.ireturn, 1) := by decide +kernel
theorem dX5_isMoreGeneral_17 : decode cX5_isMoreGeneral 17 = .ok (.iload_n 3, 1) := by decide +kernel
theorem dX5_isMoreGeneral_18 : decode cX5_isMoreGeneral 18 = .ok (.invokestatic 218, 3) := by decide +kernel
theorem dX5_isMoreGeneral_21 : decode cX5_isMoreGeneral 21 = .ok (.ifCond .ne 5, 3) := by decide +kernel
theorem dX5_isMoreGeneral_24 : decode cX5_isMoreGeneral 24 = .ok (.iconst (-1), 1) := by decide +kernel
theorem dX5_isMoreGeneral_25 : decode cX5_isMoreGeneral 25 = .ok (.ireturn, 1) := by decide +kernel
theorem dX5_isMoreGeneral_26 : decode cX5_isMoreGeneral 26 = .ok (.aload_n 0, 1) := by decide +kernel
theorem dX5_isMoreGeneral_27 : decode cX5_isMoreGeneral 27 = .ok (.iload_n 1, 1) := by decide +kernel
theorem dX5_isMoreGeneral_28 : decode cX5_isMoreGeneral 28 = .ok (.iload_n 2, 1) := by decide +kernel
theorem dX5_isMoreGeneral_29 : decode cX5_isMoreGeneral 29 = .ok (.iload_n 3, 1) := by decide +kernel
theorem dX5_isMoreGeneral_30 : decode cX5_isMoreGeneral 30 = .ok (.invokevirtual 245, 3) := by decide +kernel
theorem dX5_isMoreGeneral_33 : decode cX5_isMoreGeneral 33 = .ok (.ifCond .eq 7, 3) := by decide +kernel
theorem dX5_isMoreGeneral_36 : decode cX5_isMoreGeneral 36 = .ok (.iconst 1, 1) := by decide +kernel
theorem dX5_isMoreGeneral_37 : decode cX5_isMoreGeneral 37 = .ok (.goto 4, 3) := by decide +kernel
theorem dX5_isMoreGeneral_40 : decode cX5_isMoreGeneral 40 = .ok (.iconst 0, 1) := by decide +kernel
theorem dX5_isMoreGeneral_41 : decode cX5_isMoreGeneral 41 = .ok (.ireturn, 1) := by decide +kernel
theorem dX5_chainBreak_0 : decode cX5_chainBreak 0 = .ok (.iload_n 1, 1) := by decide +kernel
theorem dX5_chainBreak_1 : decode cX5_chainBreak 1 = .ok (.invokestatic 112, 3) := by decide +kernel
theorem dX5_chainBreak_4 : decode cX5_chainBreak 4 = .ok (.ifCond .eq 10, 3) := by decide +kernel
theorem dX5_chainBreak_7 : decode cX5_chainBreak 7 = .ok (.iload_n 2, 1) := by decide +kernel
theorem dX5_chainBreak_8 : decode cX5_chainBreak 8 = .ok (.invokestatic 112, 3) := by decide +kernel
theorem dX5_chainBreak_11 : decode cX5_chainBreak 11 = .ok (.ifCond .ne 6, 3) := by decide +kernel
theorem dX5_chainBreak_14 : decode cX5_chainBreak 14 = .ok (.bipush (-2), 2) := by decide +kernel
theorem dX5_chainBreak_16 : decode cX5_chainBreak 16 = .ok (.ireturn, 1) := by decide +kernel
theorem dX5_chainBreak_17 : decode cX5_chainBreak 17 = .ok (.iload_n 2, 1) := by decide +kernel
theorem dX5_chainBreak_18 : decode cX5_chainBreak 18 = .ok (.iload_n 1, 1) := by decide +kernel
theorem dX5_chainBreak_19 : decode cX5_chainBreak 19 = .ok (.if_icmp .lt 10, 3) := by decide +kernel
theorem dX5_chainBreak_22 : decode cX5_chainBreak 22 = .ok (.iload_n 3, 1) := by decide +kernel
theorem dX5_chainBreak_23 : decode cX5_chainBreak 23 = .ok (.invokestatic 218, 3) := by decide +kernel
theorem dX5_chainBreak_26 : decode cX5_chainBreak 26 = .ok (.ifCond .ne 5, 3) := by decide +kernel
theorem dX5_chainBreak_29 : decode cX5_chainBreak 29 = .ok (.iconst (-1), 1) := by decide +kernel
theorem dX5_chainBreak_30 : decode cX5_chainBreak 30 = .ok (.ireturn, 1) := by decide +kernel
theorem dX5_chainBreak_31 : decode cX5_chainBreak 31 = .ok (.iload_n 1, 1) := by decide +kernel
theorem dX5_chainBreak_32 : decode cX5_chainBreak 32 = .ok (.istore 4, 2) := by decide +kernel
theorem dX5_chainBreak_34 : decode cX5_chainBreak 34 = .ok (.iload 4, 2) := by decide +kernel
theorem dX5_chainBreak_36 : decode cX5_chainBreak 36 = .ok (.iload_n 2, 1) := by decide +kernel
theorem dX5_chainBreak_37 : decode cX5_chainBreak 37 = .ok (.if_icmp .ge 40, 3) := by decide +kernel
theorem dX5_chainBreak_40 : decode cX5_chainBreak 40 = .ok (.aload_n 0, 1) := by decide +kernel
theorem dX5_chainBreak_41 : decode cX5_chainBreak 41 = .ok (.iload 4, 2) := by decide +kernel
theorem dX5_chainBreak_43 : decode cX5_chainBreak 43 = .ok (.iload 4, 2) := by decide +kernel
theorem dX5_chainBreak_45 : decode cX5_chainBreak 45 = .ok (.iconst 1, 1) := by decide +kernel
theorem dX5_chainBreak_46 : decode cX5_chainBreak 46 = .ok (.iadd, 1) := by decide +kernel
theorem dX5_chainBreak_47 : decode cX5_chainBreak 47 = .ok (.iload_n 3, 1) := by decide +kernel
theorem dX5_chainBreak_48 : decode cX5_chainBreak 48 = .ok (.invokevirtual 245, 3) := by decide +kernel
theorem dX5_chainBreak_51 : decode cX5_chainBreak 51 = .ok (.ifCond .eq 17, 3) := by decide +kernel
theorem dX5_chainBreak_54 : decode cX5_chainBreak 54 = .ok (.aload_n 0, 1) := by decide +kernel
theorem dX5_chainBreak_55 : decode cX5_chainBreak 55 = .ok (.iload 4, 2) := by decide +kernel
theorem dX5_chainBreak_57 : decode cX5_chainBreak 57 = .ok (.iconst 1, 1) := by decide +kernel
theorem dX5_chainBreak_58 : decode cX5_chainBreak 58 = .ok (.iadd, 1) := by decide +kernel
theorem dX5_chainBreak_59 : decode cX5_chainBreak 59 = .ok (.iload 4, 2) := by decide +kernel
theorem dX5_chainBreak_61 : decode cX5_chainBreak 61 = .ok (.iload_n 3, 1) := by decide +kernel
theorem dX5_chainBreak_62 : decode cX5_chainBreak 62 = .ok (.invokevirtual 245, 3) := by decide +kernel
theorem dX5_chainBreak_65 : decode cX5_chainBreak 65 = .ok (.ifCond .eq 6, 3) := by decide +kernel
theorem dX5_chainBreak_68 : decode cX5_chainBreak 68 = .ok (.iload 4, 2) := by decide +kernel
theorem dX5_chainBreak_70 : decode cX5_chainBreak 70 = .ok (.ireturn, 1) := by decide +kernel
theorem dX5_chainBreak_71 : decode cX5_chainBreak 71 = .ok (.iinc 4 1, 3) := by decide +kernel
theorem dX5_chainBreak_74 : decode cX5_chainBreak 74 = .ok (.goto (-40), 3) := by decide +kernel
theorem dX5_chainBreak_77 : decode cX5_chainBreak 77 = .ok (.bipush (-6), 2) := by decide +kernel
theorem dX5_chainBreak_79 : decode cX5_chainBreak 79 = .ok (.ireturn, 1) := by decide +kernel
theorem dX5_isAsGeneral_0 : decode cX5_isAsGeneral 0 = .ok (.aload_n 0, 1) := by decide +kernel
theorem dX5_isAsGeneral_1 : decode cX5_isAsGeneral 1 = .ok (.getfield 43, 3) := by decide +kernel
theorem dX5_isAsGeneral_4 : decode cX5_isAsGeneral 4 = .ok (.aload_n 0, 1) := by decide +kernel
theorem dX5_isAsGeneral_5 : decode cX5_isAsGeneral 5 = .ok (.getfield 12, 3) := by decide +kernel
theorem dX5_isAsGeneral_8 : decode cX5_isAsGeneral 8 = .ok (.getfield 119, 3) := by decide +kernel
theorem dX5_isAsGeneral_11 : decode cX5_isAsGeneral 11 = .ok (.iload_n 1, 1) := by decide +kernel
theorem dX5_isAsGeneral_12 : decode cX5_isAsGeneral 12 = .ok (.aaload, 1) := by decide +kernel
theorem dX5_isAsGeneral_13 : decode cX5_isAsGeneral 13 = .ok (.aload_n 0, 1) := by decide +kernel
theorem dX5_isAsGeneral_14 : decode cX5_isAsGeneral 14 = .ok (.getfield 12, 3) := by decide +kernel
theorem dX5_isAsGeneral_17 : decode cX5_isAsGeneral 17 = .ok (.getfield 119, 3) := by decide +kernel
theorem dX5_isAsGeneral_20 : decode cX5_isAsGeneral 20 = .ok (.iload_n 2, 1) := by decide +kernel
theorem dX5_isAsGeneral_21 : decode cX5_isAsGeneral 21 = .ok (.aaload, 1) := by decide +kernel
theorem dX5_isAsGeneral_22 : decode cX5_isAsGeneral 22 = .ok (.iload_n 3, 1) := by decide +kernel
theorem dX5_isAsGeneral_23 : decode cX5_isAsGeneral 23 = .ok (.invokevirtual 198, 3) := by decide +kernel
theorem dX5_isAsGeneral_26 : decode cX5_isAsGeneral 26 = .ok (.ireturn, 1) := by decide +kernel
theorem dX5_findPattern_0 : decode cX5_findPattern 0 = .ok (.iload_n 1, 1) := by decide +kernel
theorem dX5_findPattern_1 : decode cX5_findPattern 1 = .ok (.invokestatic 112, 3) := by decide +kernel
theorem dX5_findPattern_4 : decode cX5_findPattern 4 = .ok (.ifCond .ne 6, 3) := by decide +kernel
theorem dX5_findPattern_7 : decode cX5_findPattern 7 = .ok (.bipush (-2), 2) := by decide +kernel
theorem dX5_findPattern_9 : decode cX5_findPattern 9 = .ok (.ireturn, 1) := by decide +kernel
theorem dX5_findPattern_10 : decode cX5_findPattern 10 = .ok (.iload_n 2, 1) := by decide +kernel
theorem dX5_findPattern_11 : decode cX5_findPattern 11 = .ok (.iconst 1, 1) := by decide +kernel
theorem dX5_findPattern_12 : decode cX5_findPattern 12 = .ok (.if_icmp .lt 15, 3) := by decide +kernel
theorem dX5_findPattern_15 : decode cX5_findPattern 15 = .ok (.iload_n 2, 1) := by decide +kernel
theorem dX5_findPattern_16 : decode cX5_findPattern 16 = .ok (.iconst 5, 1) := by decide +kernel
theorem dX5_findPattern_17 : decode cX5_findPattern 17 = .ok (.if_icmp .gt 10, 3) := by decide +kernel
theorem dX5_findPattern_20 : decode cX5_findPattern 20 = .ok (.iload_n 3, 1) := by decide +kernel
theorem dX5_findPattern_21 : decode cX5_findPattern 21 = .ok (.invokestatic 218, 3) := by decide +kernel
theorem dX5_findPattern_24 : decode cX5_findPattern 24 = .ok (.ifCond .ne 5, 3) := by decide +kernel
theorem dX5_findPattern_27 : decode cX5_findPattern 27 = .ok (.iconst (-1), 1) := by decide +kernel
theorem dX5_findPattern_28 : decode cX5_findPattern 28 = .ok (.ireturn, 1) := by decide +kernel
theorem dX5_findPattern_29 : decode cX5_findPattern 29 = .ok (.aload_n 0, 1) := by decide +kernel
theorem dX5_findPattern_30 : decode cX5_findPattern 30 = .ok (.getfield 50, 3) := by decide +kernel
theorem dX5_findPattern_33 : decode cX5_findPattern 33 = .ok (.aload_n 0, 1) := by decide +kernel
theorem dX5_findPattern_34 : decode cX5_findPattern 34 = .ok (.getfield 12, 3) := by decide +kernel
theorem dX5_findPattern_37 : decode cX5_findPattern 37 = .ok (.iload_n 2, 1) := by decide +kernel
theorem dX5_findPattern_38 : decode cX5_findPattern 38 = .ok (.iload_n 3, 1) := by decide +kernel
theorem dX5_findPattern_39 : decode cX5_findPattern 39 = .ok (.invokevirtual 249, 3) := by decide +kernel
theorem dX5_findPattern_42 : decode cX5_findPattern 42 = .ok (.ifCond .ne 6, 3) := by decide +kernel
theorem dX5_findPattern_45 : decode cX5_findPattern 45 = .ok (.bipush (-6), 2) := by decide +kernel
theorem dX5_findPattern_47 : decode cX5_findPattern 47 = .ok (.ireturn, 1) := by decide +kernel
theorem dX5_findPattern_48 : decode cX5_findPattern 48 = .ok (.aload_n 0, 1) := by decide +kernel
theorem dX5_findPattern_49 : decode cX5_findPattern 49 = .ok (.iload_n 1, 1) := by decide +kernel
theorem dX5_findPattern_50 : decode cX5_findPattern 50 = .ok (.aload_n 0, 1) := by decide +kernel
theorem dX5_findPattern_51 : decode cX5_findPattern 51 = .ok (.getfield 50, 3) := by decide +kernel
theorem dX5_findPattern_54 : decode cX5_findPattern 54 = .ok (.getfield 253, 3) := by decide +kernel
theorem dX5_findPattern_57 : decode cX5_findPattern 57 = .ok (.invokevirtual 115, 3) := by decide +kernel
theorem dX5_findPattern_60 : decode cX5_findPattern 60 = .ok (.pop, 1) := by decide +kernel
theorem dX5_findPattern_61 : decode cX5_findPattern 61 = .ok (.aload_n 0, 1) := by decide +kernel
theorem dX5_findPattern_62 : decode cX5_findPattern 62 = .ok (.getfield 50, 3) := by decide +kernel
theorem dX5_findPattern_65 : decode cX5_findPattern 65 = .ok (.getfield 253, 3) := by decide +kernel
theorem dX5_findPattern_68 : decode cX5_findPattern 68 = .ok (.invokevirtual 85, 3) := by decide +kernel
theorem dX5_findPattern_71 : decode cX5_findPattern 71 = .ok (.ireturn, 1) := by decide +kernel
theorem dX5_findOneVariable_0 : decode cX5_findOneVariable 0 = .ok (.iload_n 1, 1) := by decide +kernel
theorem dX5_findOneVariable_1 : decode cX5_findOneVariable 1 = .ok (.invokestatic 112, 3) := by decide +kernel
theorem dX5_findOneVariable_4 : decode cX5_findOneVariable 4 = .ok (.ifCond .ne 6, 3) := by decide +kernel
theorem dX5_findOneVariable_7 : decode cX5_findOneVariable 7 = .ok (.bipush (-2), 2) := by decide +kernel
theorem dX5_findOneVariable_9 : decode cX5_findOneVariable 9 = .ok (.ireturn, 1) := by decide +kernel
theorem dX5_findOneVariable_10 : decode cX5_findOneVariable 10 = .ok (.aload_n 0, 1) := by decide +kernel
theorem dX5_findOneVariable_11 : decode cX5_findOneVariable 11 = .ok (.getfield 50, 3) := by decide +kernel
theorem dX5_findOneVariable_14 : decode cX5_findOneVariable 14 = .ok (.aload_n 0, 1) := by decide +kernel
theorem dX5_findOneVariable_15 : decode cX5_findOneVariable 15 = .ok (.getfield 12, 3) := by decide +kernel
theorem dX5_findOneVariable_18 : decode cX5_findOneVariable 18 = .ok (.invokevirtual 256, 3) := by decide +kernel
theorem dX5_findOneVariable_21 : decode cX5_findOneVariable 21 = .ok (.ifCond .eq 18, 3) := by decide +kernel
theorem dX5_findOneVariable_24 : decode cX5_findOneVariable 24 = .ok (.aload_n 0, 1) := by decide +kernel
theorem dX5_findOneVariable_25 : decode cX5_findOneVariable 25 = .ok (.iload_n 1, 1) := by decide +kernel
theorem dX5_findOneVariable_26 : decode cX5_findOneVariable 26 = .ok (.aload_n 0, 1) := by decide +kernel
theorem dX5_findOneVariable_27 : decode cX5_findOneVariable 27 = .ok (.getfield 50, 3) := by decide +kernel
theorem dX5_findOneVariable_30 : decode cX5_findOneVariable 30 = .ok (.getfield 253, 3) := by decide +kernel
theorem dX5_findOneVariable_33 : decode cX5_findOneVariable 33 = .ok (.invokevirtual 115, 3) := by decide +kernel
theorem dX5_findOneVariable_36 : decode cX5_findOneVariable 36 = .ok (.goto 5, 3) := by decide +kernel
theorem dX5_findOneVariable_39 : decode cX5_findOneVariable 39 = .ok (.bipush (-6), 2) := by decide +kernel
theorem dX5_findOneVariable_41 : decode cX5_findOneVariable 41 = .ok (.ireturn, 1) := by decide +kernel
theorem dX5_countWords_0 : decode cX5_countWords 0 = .ok (.iload_n 1, 1) := by decide +kernel
theorem dX5_countWords_1 : decode cX5_countWords 1 = .ok (.invokestatic 112, 3) := by decide +kernel
theorem dX5_countWords_4 : decode cX5_countWords 4 = .ok (.ifCond .ne 6, 3) := by decide +kernel
theorem dX5_countWords_7 : decode cX5_countWords 7 = .ok (.bipush (-2), 2) := by decide +kernel
theorem dX5_countWords_9 : decode cX5_countWords 9 = .ok (.ireturn, 1) := by decide +kernel
theorem dX5_countWords_10 : decode cX5_countWords 10 = .ok (.iload_n 2, 1) := by decide +kernel
theorem dX5_countWords_11 : decode cX5_countWords 11 = .ok (.invokestatic 218, 3) := by decide +kernel
theorem dX5_countWords_14 : decode cX5_countWords 14 = .ok (.ifCond .eq 13, 3) := by decide +kernel
theorem dX5_countWords_17 : decode cX5_countWords 17 = .ok (.iload_n 3, 1) := by decide +kernel
theorem dX5_countWords_18 : decode cX5_countWords 18 = .ok (.ifCond .lt 9, 3) := by decide +kernel
theorem dX5_countWords_21 : decode cX5_countWords 21 = .ok (.iload_n 3, 1) := by decide +kernel
theorem dX5_countWords_22 : decode cX5_countWords 22 = .ok (.bipush 6, 2) := by decide +kernel
theorem dX5_countWords_24 : decode cX5_countWords 24 = .ok (.if_icmp .le 5, 3) := by decide +kernel
theorem dX5_countWords_27 : decode cX5_countWords 27 = .ok (.iconst (-1), 1) := by decide +kernel
theorem dX5_countWords_28 : decode cX5_countWords 28 = .ok (.ireturn, 1) := by decide +kernel
theorem dX5_countWords_29 : decode cX5_countWords 29 = .ok (.iconst 0, 1) := by decide +kernel
theorem dX5_countWords_30 : decode cX5_countWords 30 = .ok (.istore 4, 2) := by decide +kernel
theorem dX5_countWords_32 : decode cX5_countWords 32 = .ok (.aload_n 0, 1) := by decide +kernel
theorem dX5_countWords_33 : decode cX5_countWords 33 = .ok (.iload_n 3, 1) := by decide +kernel
theorem dX5_countWords_34 : decode cX5_countWords 34 = .ok (.invokevirtual 260, 3) := by decide +kernel
theorem dX5_countWords_37 : decode cX5_countWords 37 = .ok (.istore 5, 2) := by decide +kernel
theorem dX5_countWords_39 : decode cX5_countWords 39 = .ok (.aload_n 0, 1) := by decide +kernel
theorem dX5_countWords_40 : decode cX5_countWords 40 = .ok (.getfield 57, 3) := by decide +kernel
theorem dX5_countWords_43 : decode cX5_countWords 43 = .ok (.iconst 0, 1) := by decide +kernel
theorem dX5_countWords_44 : decode cX5_countWords 44 = .ok (.iload_n 3, 1) := by decide +kernel
theorem dX5_countWords_45 : decode cX5_countWords 45 = .ok (.invokevirtual 263, 3) := by decide +kernel
theorem dX5_countWords_48 : decode cX5_countWords 48 = .ok (.iconst 0, 1) := by decide +kernel
theorem dX5_countWords_49 : decode cX5_countWords 49 = .ok (.istore 6, 2) := by decide +kernel
theorem dX5_countWords_51 : decode cX5_countWords 51 = .ok (.iload 6, 2) := by decide +kernel
theorem dX5_countWords_53 : decode cX5_countWords 53 = .ok (.iload 5, 2) := by decide +kernel
theorem dX5_countWords_55 : decode cX5_countWords 55 = .ok (.if_icmp .ge 50, 3) := by decide +kernel
theorem dX5_countWords_58 : decode cX5_countWords 58 = .ok (.aload_n 0, 1) := by decide +kernel
theorem dX5_countWords_59 : decode cX5_countWords 59 = .ok (.getfield 43, 3) := by decide +kernel
theorem dX5_countWords_62 : decode cX5_countWords 62 = .ok (.aload_n 0, 1) := by decide +kernel
theorem dX5_countWords_63 : decode cX5_countWords 63 = .ok (.getfield 12, 3) := by decide +kernel
theorem dX5_countWords_66 : decode cX5_countWords 66 = .ok (.getfield 119, 3) := by decide +kernel
theorem dX5_countWords_69 : decode cX5_countWords 69 = .ok (.iload_n 1, 1) := by decide +kernel
theorem dX5_countWords_70 : decode cX5_countWords 70 = .ok (.aaload, 1) := by decide +kernel
theorem dX5_countWords_71 : decode cX5_countWords 71 = .ok (.aload_n 0, 1) := by decide +kernel
theorem dX5_countWords_72 : decode cX5_countWords 72 = .ok (.getfield 57, 3) := by decide +kernel
theorem dX5_countWords_75 : decode cX5_countWords 75 = .ok (.iload_n 2, 1) := by decide +kernel
theorem dX5_countWords_76 : decode cX5_countWords 76 = .ok (.invokevirtual 198, 3) := by decide +kernel
theorem dX5_countWords_79 : decode cX5_countWords 79 = .ok (.ifCond .eq 6, 3) := by decide +kernel
theorem dX5_countWords_82 : decode cX5_countWords 82 = .ok (.iinc 4 1, 3) := by decide +kernel
theorem dX5_countWords_85 : decode cX5_countWords 85 = .ok (.aload_n 0, 1) := by decide +kernel
theorem dX5_countWords_86 : decode cX5_countWords 86 = .ok (.getfield 57, 3) := by decide +kernel
theorem dX5_countWords_89 : decode cX5_countWords 89 = .ok (.aload_n 0, 1) := by decide +kernel
theorem dX5_countWords_90 : decode cX5_countWords 90 = .ok (.getfield 12, 3) := by decide +kernel
theorem dX5_countWords_93 : decode cX5_countWords 93 = .ok (.getfield 61, 3) := by decide +kernel
theorem dX5_countWords_96 : decode cX5_countWords 96 = .ok (.invokevirtual 266, 3) := by decide +kernel
theorem dX5_countWords_99 : decode cX5_countWords 99 = .ok (.iinc 6 1, 3) := by decide +kernel
theorem dX5_countWords_102 : decode cX5_countWords 102 = .ok (.goto (-51), 3) := by decide +kernel
theorem dX5_countWords_105 : decode cX5_countWords 105 = .ok (.iload 4, 2) := by decide +kernel
theorem dX5_countWords_107 : decode cX5_countWords 107 = .ok (.ireturn, 1) := by decide +kernel
theorem dX5_difference_0 : decode cX5_difference 0 = .ok (.iload_n 1, 1) := by decide +kernel
theorem dX5_difference_1 : decode cX5_difference 1 = .ok (.invokestatic 112, 3) := by decide +kernel
theorem dX5_difference_4 : decode cX5_difference 4 = .ok (.ifCond .eq 10, 3) := by decide +kernel
theorem dX5_difference_7 : decode cX5_difference 7 = .ok (.iload_n 2, 1) := by decide +kernel
theorem dX5_difference_8 : decode cX5_difference 8 = .ok (.invokestatic 112, 3) := by decide +kernel
theorem dX5_difference_11 : decode cX5_difference 11 = .ok (.ifCond .ne 7, 3) := by decide +kernel
theorem dX5_difference_14 : decode cX5_difference 14 = .ok (.ldc2_w 243, 3) := by decide +kernel
theorem dX5_difference_17 : decode cX5_difference 17 = .ok (.lreturn, 1) := by decide +kernel
theorem dX5_difference_18 : decode cX5_difference 18 = .ok (.iload_n 3, 1) := by decide +kernel
theorem dX5_difference_19 : decode cX5_difference 19 = .ok (.invokestatic 218, 3) := by decide +kernel
theorem dX5_difference_22 : decode cX5_difference 22 = .ok (.ifCond .eq 15, 3) := by decide +kernel
theorem dX5_difference_25 : decode cX5_difference 25 = .ok (.iload 4, 2) := by decide +kernel
theorem dX5_difference_27 : decode cX5_difference 27 = .ok (.ifCond .lt 10, 3) := by decide +kernel
theorem dX5_difference_30 : decode cX5_difference 30 = .ok (.iload 4, 2) := by decide +kernel
theorem dX5_difference_32 : decode cX5_difference 32 = .ok (.bipush 6, 2) := by decide +kernel
theorem dX5_difference_34 : decode cX5_difference 34 = .ok (.if_icmp .le 7, 3) := by decide +kernel
theorem dX5_difference_37 : decode cX5_difference 37 = .ok (.ldc2_w 243, 3) := by decide +kernel
theorem dX5_difference_40 : decode cX5_difference 40 = .ok (.lreturn, 1) := by decide +kernel
theorem dX5_difference_41 : decode cX5_difference 41 = .ok (.iconst 0, 1) := by decide +kernel
theorem dX5_difference_42 : decode cX5_difference 42 = .ok (.istore 5, 2) := by decide +kernel
theorem dX5_difference_44 : decode cX5_difference 44 = .ok (.iload 5, 2) := by decide +kernel
theorem dX5_difference_46 : decode cX5_difference 46 = .ok (.iload 4, 2) := by decide +kernel
theorem dX5_difference_48 : decode cX5_difference 48 = .ok (.if_icmp .gt 45, 3) := by decide +kernel
theorem dX5_difference_51 : decode cX5_difference 51 = .ok (.aload_n 0, 1) := by decide +kernel
theorem dX5_difference_52 : decode cX5_difference 52 = .ok (.aload_n 0, 1) := by decide +kernel
theorem dX5_difference_53 : decode cX5_difference 53 = .ok (.getfield 12, 3) := by decide +kernel
theorem dX5_difference_56 : decode cX5_difference 56 = .ok (.getfield 119, 3) := by decide +kernel
theorem dX5_difference_59 : decode cX5_difference 59 = .ok (.iload_n 1, 1) := by decide +kernel
theorem dX5_difference_60 : decode cX5_difference 60 = .ok (.aaload, 1) := by decide +kernel
theorem dX5_difference_61 : decode cX5_difference 61 = .ok (.aload_n 0, 1) := by decide +kernel
theorem dX5_difference_62 : decode cX5_difference 62 = .ok (.getfield 12, 3) := by decide +kernel
theorem dX5_difference_65 : decode cX5_difference 65 = .ok (.getfield 119, 3) := by decide +kernel
theorem dX5_difference_68 : decode cX5_difference 68 = .ok (.iload_n 2, 1) := by decide +kernel
theorem dX5_difference_69 : decode cX5_difference 69 = .ok (.aaload, 1) := by decide +kernel
theorem dX5_difference_70 : decode cX5_difference 70 = .ok (.iload_n 3, 1) := by decide +kernel
theorem dX5_difference_71 : decode cX5_difference 71 = .ok (.iload 5, 2) := by decide +kernel
theorem dX5_difference_73 : decode cX5_difference 73 = .ok (.invokevirtual 269, 3) := by decide +kernel
theorem dX5_difference_76 : decode cX5_difference 76 = .ok (.ifCond .eq 11, 3) := by decide +kernel
theorem dX5_difference_79 : decode cX5_difference 79 = .ok (.aload_n 0, 1) := by decide +kernel
theorem dX5_difference_80 : decode cX5_difference 80 = .ok (.getfield 57, 3) := by decide +kernel
theorem dX5_difference_83 : decode cX5_difference 83 = .ok (.invokevirtual 239, 3) := by decide +kernel
theorem dX5_difference_86 : decode cX5_difference 86 = .ok (.lreturn, 1) := by decide +kernel
theorem dX5_difference_87 : decode cX5_difference 87 = .ok (.iinc 5 1, 3) := by decide +kernel
theorem dX5_difference_90 : decode cX5_difference 90 = .ok (.goto (-46), 3) := by decide +kernel
theorem dX5_difference_93 : decode cX5_difference 93 = .ok (.ldc2_w 243, 3) := by decide +kernel
theorem dX5_difference_96 : decode cX5_difference 96 = .ok (.lreturn, 1) := by decide +kernel
theorem dX5_findDifference_0 : decode cX5_findDifference 0 = .ok (.aload_n 0, 1) := by decide +kernel
theorem dX5_findDifference_1 : decode cX5_findDifference 1 = .ok (.iload 4, 2) := by decide +kernel
theorem dX5_findDifference_3 : decode cX5_findDifference 3 = .ok (.invokevirtual 260, 3) := by decide +kernel
theorem dX5_findDifference_6 : decode cX5_findDifference 6 = .ok (.istore 5, 2) := by decide +kernel
theorem dX5_findDifference_8 : decode cX5_findDifference 8 = .ok (.aload_n 0, 1) := by decide +kernel
theorem dX5_findDifference_9 : decode cX5_findDifference 9 = .ok (.getfield 57, 3) := by decide +kernel
theorem dX5_findDifference_12 : decode cX5_findDifference 12 = .ok (.iconst 0, 1) := by decide +kernel
theorem dX5_findDifference_13 : decode cX5_findDifference 13 = .ok (.iload 4, 2) := by decide +kernel
theorem dX5_findDifference_15 : decode cX5_findDifference 15 = .ok (.invokevirtual 263, 3) := by decide +kernel
theorem dX5_findDifference_18 : decode cX5_findDifference 18 = .ok (.iconst 0, 1) := by decide +kernel
theorem dX5_findDifference_19 : decode cX5_findDifference 19 = .ok (.istore 6, 2) := by decide +kernel
theorem dX5_findDifference_21 : decode cX5_findDifference 21 = .ok (.iload 6, 2) := by decide +kernel
theorem dX5_findDifference_23 : decode cX5_findDifference 23 = .ok (.iload 5, 2) := by decide +kernel
theorem dX5_findDifference_25 : decode cX5_findDifference 25 = .ok (.if_icmp .ge 57, 3) := by decide +kernel
theorem dX5_findDifference_28 : decode cX5_findDifference 28 = .ok (.aload_n 0, 1) := by decide +kernel
theorem dX5_findDifference_29 : decode cX5_findDifference 29 = .ok (.getfield 43, 3) := by decide +kernel
theorem dX5_findDifference_32 : decode cX5_findDifference 32 = .ok (.aload_n 1, 1) := by decide +kernel
theorem dX5_findDifference_33 : decode cX5_findDifference 33 = .ok (.aload_n 0, 1) := by decide +kernel
theorem dX5_findDifference_34 : decode cX5_findDifference 34 = .ok (.getfield 57, 3) := by decide +kernel
theorem dX5_findDifference_37 : decode cX5_findDifference 37 = .ok (.iload_n 3, 1) := by decide +kernel
theorem dX5_findDifference_38 : decode cX5_findDifference 38 = .ok (.invokevirtual 198, 3) := by decide +kernel
theorem dX5_findDifference_41 : decode cX5_findDifference 41 = .ok (.ifCond .eq 21, 3) := by decide +kernel
theorem dX5_findDifference_44 : decode cX5_findDifference 44 = .ok (.aload_n 0, 1) := by decide +kernel
theorem dX5_findDifference_45 : decode cX5_findDifference 45 = .ok (.getfield 43, 3) := by decide +kernel
theorem dX5_findDifference_48 : decode cX5_findDifference 48 = .ok (.aload_n 2, 1) := by decide +kernel
theorem dX5_findDifference_49 : decode cX5_findDifference 49 = .ok (.aload_n 0, 1) := by decide +kernel
theorem dX5_findDifference_50 : decode cX5_findDifference 50 = .ok (.getfield 57, 3) := by decide +kernel
theorem dX5_findDifference_53 : decode cX5_findDifference 53 = .ok (.iload_n 3, 1) := by decide +kernel
theorem dX5_findDifference_54 : decode cX5_findDifference 54 = .ok (.invokevirtual 198, 3) := by decide +kernel
theorem dX5_findDifference_57 : decode cX5_findDifference 57 = .ok (.ifCond .ne 5, 3) := by decide +kernel
theorem dX5_findDifference_60 : decode cX5_findDifference 60 = .ok (.iconst 1, 1) := by decide +kernel
theorem dX5_findDifference_61 : decode cX5_findDifference 61 = .ok (.ireturn, 1) := by decide +kernel
theorem dX5_findDifference_62 : decode cX5_findDifference 62 = .ok (.aload_n 0, 1) := by decide +kernel
theorem dX5_findDifference_63 : decode cX5_findDifference 63 = .ok (.getfield 57, 3) := by decide +kernel
theorem dX5_findDifference_66 : decode cX5_findDifference 66 = .ok (.aload_n 0, 1) := by decide +kernel
theorem dX5_findDifference_67 : decode cX5_findDifference 67 = .ok (.getfield 12, 3) := by decide +kernel
theorem dX5_findDifference_70 : decode cX5_findDifference 70 = .ok (.getfield 61, 3) := by decide +kernel
theorem dX5_findDifference_73 : decode cX5_findDifference 73 = .ok (.invokevirtual 266, 3) := by decide +kernel
theorem dX5_findDifference_76 : decode cX5_findDifference 76 = .ok (.iinc 6 1, 3) := by decide +kernel
theorem dX5_findDifference_79 : decode cX5_findDifference 79 = .ok (.goto (-58), 3) := by decide +kernel
theorem dX5_findDifference_82 : decode cX5_findDifference 82 = .ok (.iconst 0, 1) := by decide +kernel
theorem dX5_findDifference_83 : decode cX5_findDifference 83 = .ok (.ireturn, 1) := by decide +kernel
theorem dX5_wordsOfLength_0 : decode cX5_wordsOfLength 0 = .ok (.iconst 1, 1) := by decide +kernel
theorem dX5_wordsOfLength_1 : decode cX5_wordsOfLength 1 = .ok (.istore_n 2, 1) := by decide +kernel
theorem dX5_wordsOfLength_2 : decode cX5_wordsOfLength 2 = .ok (.iconst 0, 1) := by decide +kernel
theorem dX5_wordsOfLength_3 : decode cX5_wordsOfLength 3 = .ok (.istore_n 3, 1) := by decide +kernel
theorem dX5_wordsOfLength_4 : decode cX5_wordsOfLength 4 = .ok (.iload_n 3, 1) := by decide +kernel
theorem dX5_wordsOfLength_5 : decode cX5_wordsOfLength 5 = .ok (.iload_n 1, 1) := by decide +kernel
theorem dX5_wordsOfLength_6 : decode cX5_wordsOfLength 6 = .ok (.if_icmp .ge 19, 3) := by decide +kernel
theorem dX5_wordsOfLength_9 : decode cX5_wordsOfLength 9 = .ok (.iload_n 2, 1) := by decide +kernel
theorem dX5_wordsOfLength_10 : decode cX5_wordsOfLength 10 = .ok (.aload_n 0, 1) := by decide +kernel
theorem dX5_wordsOfLength_11 : decode cX5_wordsOfLength 11 = .ok (.getfield 12, 3) := by decide +kernel
theorem dX5_wordsOfLength_14 : decode cX5_wordsOfLength 14 = .ok (.getfield 61, 3) := by decide +kernel
theorem dX5_wordsOfLength_17 : decode cX5_wordsOfLength 17 = .ok (.imul, 1) := by decide +kernel
theorem dX5_wordsOfLength_18 : decode cX5_wordsOfLength 18 = .ok (.istore_n 2, 1) := by decide +kernel
theorem dX5_wordsOfLength_19 : decode cX5_wordsOfLength 19 = .ok (.iinc 3 1, 3) := by decide +kernel
theorem dX5_wordsOfLength_22 : decode cX5_wordsOfLength 22 = .ok (.goto (-18), 3) := by decide +kernel
theorem dX5_wordsOfLength_25 : decode cX5_wordsOfLength 25 = .ok (.iload_n 2, 1) := by decide +kernel
theorem dX5_wordsOfLength_26 : decode cX5_wordsOfLength 26 = .ok (.ireturn, 1) := by decide +kernel
theorem dX5_allocate_0 : decode cX5_allocate 0 = .ok (.iload_n 1, 1) := by decide +kernel
theorem dX5_allocate_1 : decode cX5_allocate 1 = .ok (.invokestatic 273, 3) := by decide +kernel
theorem dX5_allocate_4 : decode cX5_allocate 4 = .ok (.ifCond .eq 18, 3) := by decide +kernel
theorem dX5_allocate_7 : decode cX5_allocate 7 = .ok (.iload_n 2, 1) := by decide +kernel
theorem dX5_allocate_8 : decode cX5_allocate 8 = .ok (.ifCond .lt 14, 3) := by decide +kernel
theorem dX5_allocate_11 : decode cX5_allocate 11 = .ok (.iload_n 2, 1) := by decide +kernel
theorem dX5_allocate_12 : decode cX5_allocate 12 = .ok (.iconst 3, 1) := by decide +kernel
theorem dX5_allocate_13 : decode cX5_allocate 13 = .ok (.if_icmp .gt 9, 3) := by decide +kernel
theorem dX5_allocate_16 : decode cX5_allocate 16 = .ok (.iload_n 3, 1) := by decide +kernel
theorem dX5_allocate_17 : decode cX5_allocate 17 = .ok (.bipush 40, 2) := by decide +kernel
theorem dX5_allocate_19 : decode cX5_allocate 19 = .ok (.if_icmp .le 5, 3) := by decide +kernel
theorem dX5_allocate_22 : decode cX5_allocate 22 = .ok (.iconst (-1), 1) := by decide +kernel
theorem dX5_allocate_23 : decode cX5_allocate 23 = .ok (.ireturn, 1) := by decide +kernel
theorem dX5_allocate_24 : decode cX5_allocate 24 = .ok (.iload_n 3, 1) := by decide +kernel
theorem dX5_allocate_25 : decode cX5_allocate 25 = .ok (.ifCond .ge 6, 3) := by decide +kernel
theorem dX5_allocate_28 : decode cX5_allocate 28 = .ok (.bipush (-14), 2) := by decide +kernel
theorem dX5_allocate_30 : decode cX5_allocate 30 = .ok (.ireturn, 1) := by decide +kernel
theorem dX5_allocate_31 : decode cX5_allocate 31 = .ok (.aload_n 0, 1) := by decide +kernel
theorem dX5_allocate_32 : decode cX5_allocate 32 = .ok (.getfield 36, 3) := by decide +kernel
theorem dX5_allocate_35 : decode cX5_allocate 35 = .ok (.iload_n 1, 1) := by decide +kernel
theorem dX5_allocate_36 : decode cX5_allocate 36 = .ok (.aaload, 1) := by decide +kernel
theorem dX5_allocate_37 : decode cX5_allocate 37 = .ok (.iload_n 2, 1) := by decide +kernel
theorem dX5_allocate_38 : decode cX5_allocate 38 = .ok (.putfield 276, 3) := by decide +kernel
theorem dX5_allocate_41 : decode cX5_allocate 41 = .ok (.aload_n 0, 1) := by decide +kernel
theorem dX5_allocate_42 : decode cX5_allocate 42 = .ok (.getfield 36, 3) := by decide +kernel
theorem dX5_allocate_45 : decode cX5_allocate 45 = .ok (.iload_n 1, 1) := by decide +kernel
theorem dX5_allocate_46 : decode cX5_allocate 46 = .ok (.aaload, 1) := by decide +kernel
theorem dX5_allocate_47 : decode cX5_allocate 47 = .ok (.getfield 279, 3) := by decide +kernel
theorem dX5_allocate_50 : decode cX5_allocate 50 = .ok (.iconst 0, 1) := by decide +kernel
theorem dX5_allocate_51 : decode cX5_allocate 51 = .ok (.iload_n 3, 1) := by decide +kernel
theorem dX5_allocate_52 : decode cX5_allocate 52 = .ok (.invokevirtual 263, 3) := by decide +kernel
theorem dX5_allocate_55 : decode cX5_allocate 55 = .ok (.iload_n 3, 1) := by decide +kernel
theorem dX5_allocate_56 : decode cX5_allocate 56 = .ok (.ireturn, 1) := by decide +kernel
theorem dX5_release_0 : decode cX5_release 0 = .ok (.iload_n 1, 1) := by decide +kernel
theorem dX5_release_1 : decode cX5_release 1 = .ok (.invokestatic 273, 3) := by decide +kernel
theorem dX5_release_4 : decode cX5_release 4 = .ok (.ifCond .ne 5, 3) := by decide +kernel
theorem dX5_release_7 : decode cX5_release 7 = .ok (.iconst (-1), 1) := by decide +kernel
theorem dX5_release_8 : decode cX5_release 8 = .ok (.ireturn, 1) := by decide +kernel
theorem dX5_release_9 : decode cX5_release 9 = .ok (.aload_n 0, 1) := by decide +kernel
theorem dX5_release_10 : decode cX5_release 10 = .ok (.getfield 36, 3) := by decide +kernel
theorem dX5_release_13 : decode cX5_release 13 = .ok (.iload_n 1, 1) := by decide +kernel
theorem dX5_release_14 : decode cX5_release 14 = .ok (.aaload, 1) := by decide +kernel
theorem dX5_release_15 : decode cX5_release 15 = .ok (.getfield 276, 3) := by decide +kernel
theorem dX5_release_18 : decode cX5_release 18 = .ok (.iconst (-1), 1) := by decide +kernel
theorem dX5_release_19 : decode cX5_release 19 = .ok (.if_icmp .eq 7, 3) := by decide +kernel
theorem dX5_release_22 : decode cX5_release 22 = .ok (.iconst 1, 1) := by decide +kernel
theorem dX5_release_23 : decode cX5_release 23 = .ok (.goto 4, 3) := by decide +kernel
theorem dX5_release_26 : decode cX5_release 26 = .ok (.iconst 0, 1) := by decide +kernel
theorem dX5_release_27 : decode cX5_release 27 = .ok (.istore_n 2, 1) := by decide +kernel
theorem dX5_release_28 : decode cX5_release 28 = .ok (.aload_n 0, 1) := by decide +kernel
theorem dX5_release_29 : decode cX5_release 29 = .ok (.getfield 36, 3) := by decide +kernel
theorem dX5_release_32 : decode cX5_release 32 = .ok (.iload_n 1, 1) := by decide +kernel
theorem dX5_release_33 : decode cX5_release 33 = .ok (.aaload, 1) := by decide +kernel
theorem dX5_release_34 : decode cX5_release 34 = .ok (.iconst (-1), 1) := by decide +kernel
theorem dX5_release_35 : decode cX5_release 35 = .ok (.putfield 276, 3) := by decide +kernel
theorem dX5_release_38 : decode cX5_release 38 = .ok (.iload_n 2, 1) := by decide +kernel
theorem dX5_release_39 : decode cX5_release 39 = .ok (.ifCond .eq 7, 3) := by decide +kernel
theorem dX5_release_42 : decode cX5_release 42 = .ok (.iconst 1, 1) := by decide +kernel
theorem dX5_release_43 : decode cX5_release 43 = .ok (.goto 4, 3) := by decide +kernel
theorem dX5_release_46 : decode cX5_release 46 = .ok (.iconst 0, 1) := by decide +kernel
theorem dX5_release_47 : decode cX5_release 47 = .ok (.ireturn, 1) := by decide +kernel
theorem dX5_putElement_0 : decode cX5_putElement 0 = .ok (.iload_n 1, 1) := by decide +kernel
theorem dX5_putElement_1 : decode cX5_putElement 1 = .ok (.invokestatic 273, 3) := by decide +kernel
theorem dX5_putElement_4 : decode cX5_putElement 4 = .ok (.ifCond .ne 5, 3) := by decide +kernel
theorem dX5_putElement_7 : decode cX5_putElement 7 = .ok (.iconst (-1), 1) := by decide +kernel
theorem dX5_putElement_8 : decode cX5_putElement 8 = .ok (.ireturn, 1) := by decide +kernel
theorem dX5_putElement_9 : decode cX5_putElement 9 = .ok (.aload_n 0, 1) := by decide +kernel
theorem dX5_putElement_10 : decode cX5_putElement 10 = .ok (.getfield 36, 3) := by decide +kernel
theorem dX5_putElement_13 : decode cX5_putElement 13 = .ok (.iload_n 1, 1) := by decide +kernel
theorem dX5_putElement_14 : decode cX5_putElement 14 = .ok (.aaload, 1) := by decide +kernel
theorem dX5_putElement_15 : decode cX5_putElement 15 = .ok (.astore 5, 2) := by decide +kernel
theorem dX5_putElement_17 : decode cX5_putElement 17 = .ok (.aload 5, 2) := by decide +kernel
theorem dX5_putElement_19 : decode cX5_putElement 19 = .ok (.getfield 276, 3) := by decide +kernel
theorem dX5_putElement_22 : decode cX5_putElement 22 = .ok (.iconst (-1), 1) := by decide +kernel
theorem dX5_putElement_23 : decode cX5_putElement 23 = .ok (.if_icmp .ne 6, 3) := by decide +kernel
theorem dX5_putElement_26 : decode cX5_putElement 26 = .ok (.bipush (-11), 2) := by decide +kernel
theorem dX5_putElement_28 : decode cX5_putElement 28 = .ok (.ireturn, 1) := by decide +kernel
theorem dX5_putElement_29 : decode cX5_putElement 29 = .ok (.aload 5, 2) := by decide +kernel
theorem dX5_putElement_31 : decode cX5_putElement 31 = .ok (.getfield 279, 3) := by decide +kernel
theorem dX5_putElement_34 : decode cX5_putElement 34 = .ok (.iload_n 2, 1) := by decide +kernel
theorem dX5_putElement_35 : decode cX5_putElement 35 = .ok (.invokevirtual 282, 3) := by decide +kernel
theorem dX5_putElement_38 : decode cX5_putElement 38 = .ok (.ifCond .ne 6, 3) := by decide +kernel
theorem dX5_putElement_41 : decode cX5_putElement 41 = .ok (.bipush (-13), 2) := by decide +kernel
theorem dX5_putElement_43 : decode cX5_putElement 43 = .ok (.ireturn, 1) := by decide +kernel
theorem dX5_putElement_44 : decode cX5_putElement 44 = .ok (.aload 5, 2) := by decide +kernel
theorem dX5_putElement_46 : decode cX5_putElement 46 = .ok (.getfield 279, 3) := by decide +kernel
theorem dX5_putElement_49 : decode cX5_putElement 49 = .ok (.iload_n 2, 1) := by decide +kernel
theorem dX5_putElement_50 : decode cX5_putElement 50 = .ok (.lload_n 3, 1) := by decide +kernel
theorem dX5_putElement_51 : decode cX5_putElement 51 = .ok (.aload 5, 2) := by decide +kernel
theorem dX5_putElement_53 : decode cX5_putElement 53 = .ok (.getfield 276, 3) := by decide +kernel
theorem dX5_putElement_56 : decode cX5_putElement 56 = .ok (.invokestatic 285, 3) := by decide +kernel
theorem dX5_putElement_59 : decode cX5_putElement 59 = .ok (.invokevirtual 289, 3) := by decide +kernel
theorem dX5_putElement_62 : decode cX5_putElement 62 = .ok (.iconst 1, 1) := by decide +kernel
theorem dX5_putElement_63 : decode cX5_putElement 63 = .ok (.ireturn, 1) := by decide +kernel
theorem dX5_narrowed_0 : decode cX5_narrowed 0 = .ok (.iload_n 2, 1) := by decide +kernel
theorem dX5_narrowed_1 : decode cX5_narrowed 1 = .ok (.tableswitch 38 0 2 #[27, 31, 35], 27) := by decide +kernel
theorem dX5_narrowed_28 : decode cX5_narrowed 28 = .ok (.lload_n 0, 1) := by decide +kernel
theorem dX5_narrowed_29 : decode cX5_narrowed 29 = .ok (.l2i, 1) := by decide +kernel
theorem dX5_narrowed_30 : decode cX5_narrowed 30 = .ok (.i2b, 1) := by decide +kernel
theorem dX5_narrowed_31 : decode cX5_narrowed 31 = .ok (.ireturn, 1) := by decide +kernel
theorem dX5_narrowed_32 : decode cX5_narrowed 32 = .ok (.lload_n 0, 1) := by decide +kernel
theorem dX5_narrowed_33 : decode cX5_narrowed 33 = .ok (.l2i, 1) := by decide +kernel
theorem dX5_narrowed_34 : decode cX5_narrowed 34 = .ok (.i2c, 1) := by decide +kernel
theorem dX5_narrowed_35 : decode cX5_narrowed 35 = .ok (.ireturn, 1) := by decide +kernel
theorem dX5_narrowed_36 : decode cX5_narrowed 36 = .ok (.lload_n 0, 1) := by decide +kernel
theorem dX5_narrowed_37 : decode cX5_narrowed 37 = .ok (.l2i, 1) := by decide +kernel
theorem dX5_narrowed_38 : decode cX5_narrowed 38 = .ok (.ireturn, 1) := by decide +kernel
theorem dX5_narrowed_39 : decode cX5_narrowed 39 = .ok (.lload_n 0, 1) := by decide +kernel
theorem dX5_narrowed_40 : decode cX5_narrowed 40 = .ok (.lconst 0, 1) := by decide +kernel
theorem dX5_narrowed_41 : decode cX5_narrowed 41 = .ok (.lcmp, 1) := by decide +kernel
theorem dX5_narrowed_42 : decode cX5_narrowed 42 = .ok (.ifCond .eq 7, 3) := by decide +kernel
theorem dX5_narrowed_45 : decode cX5_narrowed 45 = .ok (.iconst 1, 1) := by decide +kernel
theorem dX5_narrowed_46 : decode cX5_narrowed 46 = .ok (.goto 4, 3) := by decide +kernel
theorem dX5_narrowed_49 : decode cX5_narrowed 49 = .ok (.iconst 0, 1) := by decide +kernel
theorem dX5_narrowed_50 : decode cX5_narrowed 50 = .ok (.ireturn, 1) := by decide +kernel
theorem dX5_element_0 : decode cX5_element 0 = .ok (.iload_n 1, 1) := by decide +kernel
theorem dX5_element_1 : decode cX5_element 1 = .ok (.invokestatic 273, 3) := by decide +kernel
theorem dX5_element_4 : decode cX5_element 4 = .ok (.ifCond .eq 16, 3) := by decide +kernel
theorem dX5_element_7 : decode cX5_element 7 = .ok (.aload_n 0, 1) := by decide +kernel
theorem dX5_element_8 : decode cX5_element 8 = .ok (.getfield 36, 3) := by decide +kernel
theorem dX5_element_11 : decode cX5_element 11 = .ok (.iload_n 1, 1) := by decide +kernel
theorem dX5_element_12 : decode cX5_element 12 = .ok (.aaload, 1) := by decide +kernel
theorem dX5_element_13 : decode cX5_element 13 = .ok (.getfield 276, 3) := by decide +kernel
theorem dX5_element_16 : decode cX5_element 16 = .ok (.iconst (-1), 1) := by decide +kernel
theorem dX5_element_17 : decode cX5_element 17 = .ok (.if_icmp .ne 7, 3) := by decide +kernel
theorem dX5_element_20 : decode cX5_element 20 = .ok (.ldc2_w 243, 3) := by decide +kernel
theorem dX5_element_23 : decode cX5_element 23 = .ok (.lreturn, 1) := by decide +kernel
theorem dX5_element_24 : decode cX5_element 24 = .ok (.aload_n 0, 1) := by decide +kernel
theorem dX5_element_25 : decode cX5_element 25 = .ok (.getfield 36, 3) := by decide +kernel
theorem dX5_element_28 : decode cX5_element 28 = .ok (.iload_n 1, 1) := by decide +kernel
theorem dX5_element_29 : decode cX5_element 29 = .ok (.aaload, 1) := by decide +kernel
theorem dX5_element_30 : decode cX5_element 30 = .ok (.getfield 279, 3) := by decide +kernel
theorem dX5_element_33 : decode cX5_element 33 = .ok (.astore_n 3, 1) := by decide +kernel
theorem dX5_element_34 : decode cX5_element 34 = .ok (.aload_n 3, 1) := by decide +kernel
theorem dX5_element_35 : decode cX5_element 35 = .ok (.iload_n 2, 1) := by decide +kernel
theorem dX5_element_36 : decode cX5_element 36 = .ok (.invokevirtual 282, 3) := by decide +kernel
theorem dX5_element_39 : decode cX5_element 39 = .ok (.ifCond .eq 12, 3) := by decide +kernel
theorem dX5_element_42 : decode cX5_element 42 = .ok (.aload_n 3, 1) := by decide +kernel
theorem dX5_element_43 : decode cX5_element 43 = .ok (.iload_n 2, 1) := by decide +kernel
theorem dX5_element_44 : decode cX5_element 44 = .ok (.invokevirtual 92, 3) := by decide +kernel
theorem dX5_element_47 : decode cX5_element 47 = .ok (.i2l, 1) := by decide +kernel
theorem dX5_element_48 : decode cX5_element 48 = .ok (.goto 6, 3) := by decide +kernel
theorem dX5_element_51 : decode cX5_element 51 = .ok (.ldc2_w 243, 3) := by decide +kernel
theorem dX5_element_54 : decode cX5_element 54 = .ok (.lreturn, 1) := by decide +kernel
theorem dX5_copyElements_0 : decode cX5_copyElements 0 = .ok (.iload_n 1, 1) := by decide +kernel
theorem dX5_copyElements_1 : decode cX5_copyElements 1 = .ok (.invokestatic 273, 3) := by decide +kernel
theorem dX5_copyElements_4 : decode cX5_copyElements 4 = .ok (.ifCond .eq 10, 3) := by decide +kernel
theorem dX5_copyElements_7 : decode cX5_copyElements 7 = .ok (.iload_n 3, 1) := by decide +kernel
theorem dX5_copyElements_8 : decode cX5_copyElements 8 = .ok (.invokestatic 273, 3) := by decide +kernel
theorem dX5_copyElements_11 : decode cX5_copyElements 11 = .ok (.ifCond .ne 5, 3) := by decide +kernel
theorem dX5_copyElements_14 : decode cX5_copyElements 14 = .ok (.iconst (-1), 1) := by decide +kernel
theorem dX5_copyElements_15 : decode cX5_copyElements 15 = .ok (.ireturn, 1) := by decide +kernel
theorem dX5_copyElements_16 : decode cX5_copyElements 16 = .ok (.aload_n 0, 1) := by decide +kernel
theorem dX5_copyElements_17 : decode cX5_copyElements 17 = .ok (.getfield 36, 3) := by decide +kernel
theorem dX5_copyElements_20 : decode cX5_copyElements 20 = .ok (.iload_n 1, 1) := by decide +kernel
theorem dX5_copyElements_21 : decode cX5_copyElements 21 = .ok (.aaload, 1) := by decide +kernel
theorem dX5_copyElements_22 : decode cX5_copyElements 22 = .ok (.astore 6, 2) := by decide +kernel
theorem dX5_copyElements_24 : decode cX5_copyElements 24 = .ok (.aload_n 0, 1) := by decide +kernel
theorem dX5_copyElements_25 : decode cX5_copyElements 25 = .ok (.getfield 36, 3) := by decide +kernel
theorem dX5_copyElements_28 : decode cX5_copyElements 28 = .ok (.iload_n 3, 1) := by decide +kernel
theorem dX5_copyElements_29 : decode cX5_copyElements 29 = .ok (.aaload, 1) := by decide +kernel
theorem dX5_copyElements_30 : decode cX5_copyElements 30 = .ok (.astore 7, 2) := by decide +kernel
theorem dX5_copyElements_32 : decode cX5_copyElements 32 = .ok (.aload 6, 2) := by decide +kernel
theorem dX5_copyElements_34 : decode cX5_copyElements 34 = .ok (.getfield 276, 3) := by decide +kernel
theorem dX5_copyElements_37 : decode cX5_copyElements 37 = .ok (.iconst (-1), 1) := by decide +kernel
theorem dX5_copyElements_38 : decode cX5_copyElements 38 = .ok (.if_icmp .eq 12, 3) := by decide +kernel
theorem dX5_copyElements_41 : decode cX5_copyElements 41 = .ok (.aload 7, 2) := by decide +kernel
theorem dX5_copyElements_43 : decode cX5_copyElements 43 = .ok (.getfield 276, 3) := by decide +kernel
theorem dX5_copyElements_46 : decode cX5_copyElements 46 = .ok (.iconst (-1), 1) := by decide +kernel
theorem dX5_copyElements_47 : decode cX5_copyElements 47 = .ok (.if_icmp .ne 6, 3) := by decide +kernel
theorem dX5_copyElements_50 : decode cX5_copyElements 50 = .ok (.bipush (-11), 2) := by decide +kernel
theorem dX5_copyElements_52 : decode cX5_copyElements 52 = .ok (.ireturn, 1) := by decide +kernel
theorem dX5_copyElements_53 : decode cX5_copyElements 53 = .ok (.aload 6, 2) := by decide +kernel
theorem dX5_copyElements_55 : decode cX5_copyElements 55 = .ok (.getfield 276, 3) := by decide +kernel
theorem dX5_copyElements_58 : decode cX5_copyElements 58 = .ok (.aload 7, 2) := by decide +kernel
theorem dX5_copyElements_60 : decode cX5_copyElements 60 = .ok (.getfield 276, 3) := by decide +kernel
theorem dX5_copyElements_63 : decode cX5_copyElements 63 = .ok (.if_icmp .eq 6, 3) := by decide +kernel
theorem dX5_copyElements_66 : decode cX5_copyElements 66 = .ok (.bipush (-12), 2) := by decide +kernel
theorem dX5_copyElements_68 : decode cX5_copyElements 68 = .ok (.ireturn, 1) := by decide +kernel
theorem dX5_copyElements_69 : decode cX5_copyElements 69 = .ok (.aload 6, 2) := by decide +kernel
theorem dX5_copyElements_71 : decode cX5_copyElements 71 = .ok (.getfield 279, 3) := by decide +kernel
theorem dX5_copyElements_74 : decode cX5_copyElements 74 = .ok (.iload_n 2, 1) := by decide +kernel
theorem dX5_copyElements_75 : decode cX5_copyElements 75 = .ok (.iload 5, 2) := by decide +kernel
theorem dX5_copyElements_77 : decode cX5_copyElements 77 = .ok (.invokevirtual 292, 3) := by decide +kernel
theorem dX5_copyElements_80 : decode cX5_copyElements 80 = .ok (.ifCond .eq 18, 3) := by decide +kernel
theorem dX5_copyElements_83 : decode cX5_copyElements 83 = .ok (.aload 7, 2) := by decide +kernel
theorem dX5_copyElements_85 : decode cX5_copyElements 85 = .ok (.getfield 279, 3) := by decide +kernel
theorem dX5_copyElements_88 : decode cX5_copyElements 88 = .ok (.iload 4, 2) := by decide +kernel
theorem dX5_copyElements_90 : decode cX5_copyElements 90 = .ok (.iload 5, 2) := by decide +kernel
theorem dX5_copyElements_92 : decode cX5_copyElements 92 = .ok (.invokevirtual 292, 3) := by decide +kernel
theorem dX5_copyElements_95 : decode cX5_copyElements 95 = .ok (.ifCond .ne 6, 3) := by decide +kernel
theorem dX5_copyElements_98 : decode cX5_copyElements 98 = .ok (.bipush (-13), 2) := by decide +kernel
theorem dX5_copyElements_100 : decode cX5_copyElements 100 = .ok (.ireturn, 1) := by decide +kernel
theorem dX5_copyElements_101 : decode cX5_copyElements 101 = .ok (.aload 6, 2) := by decide +kernel
theorem dX5_copyElements_103 : decode cX5_copyElements 103 = .ok (.getfield 279, 3) := by decide +kernel
theorem dX5_copyElements_106 : decode cX5_copyElements 106 = .ok (.getfield 295, 3) := by decide +kernel
theorem dX5_copyElements_109 : decode cX5_copyElements 109 = .ok (.iload_n 2, 1) := by decide +kernel
theorem dX5_copyElements_110 : decode cX5_copyElements 110 = .ok (.aload 7, 2) := by decide +kernel
theorem dX5_copyElements_112 : decode cX5_copyElements 112 = .ok (.getfield 279, 3) := by decide +kernel
theorem dX5_copyElements_115 : decode cX5_copyElements 115 = .ok (.getfield 295, 3) := by decide +kernel
theorem dX5_copyElements_118 : decode cX5_copyElements 118 = .ok (.iload 4, 2) := by decide +kernel
theorem dX5_copyElements_120 : decode cX5_copyElements 120 = .ok (.iload 5, 2) := by decide +kernel
theorem dX5_copyElements_122 : decode cX5_copyElements 122 = .ok (.invokestatic 299, 3) := by decide +kernel
theorem dX5_copyElements_125 : decode cX5_copyElements 125 = .ok (.iload 5, 2) := by decide +kernel
theorem dX5_copyElements_127 : decode cX5_copyElements 127 = .ok (.ireturn, 1) := by decide +kernel
theorem dX5_loadPattern_0 : decode cX5_loadPattern 0 = .ok (.iload_n 1, 1) := by decide +kernel
theorem dX5_loadPattern_1 : decode cX5_loadPattern 1 = .ok (.invokestatic 112, 3) := by decide +kernel
theorem dX5_loadPattern_4 : decode cX5_loadPattern 4 = .ok (.ifCond .ne 6, 3) := by decide +kernel
theorem dX5_loadPattern_7 : decode cX5_loadPattern 7 = .ok (.bipush (-2), 2) := by decide +kernel
theorem dX5_loadPattern_9 : decode cX5_loadPattern 9 = .ok (.ireturn, 1) := by decide +kernel
theorem dX5_loadPattern_10 : decode cX5_loadPattern 10 = .ok (.iload_n 2, 1) := by decide +kernel
theorem dX5_loadPattern_11 : decode cX5_loadPattern 11 = .ok (.invokestatic 273, 3) := by decide +kernel
theorem dX5_loadPattern_14 : decode cX5_loadPattern 14 = .ok (.ifCond .ne 5, 3) := by decide +kernel
theorem dX5_loadPattern_17 : decode cX5_loadPattern 17 = .ok (.iconst (-1), 1) := by decide +kernel
theorem dX5_loadPattern_18 : decode cX5_loadPattern 18 = .ok (.ireturn, 1) := by decide +kernel
theorem dX5_loadPattern_19 : decode cX5_loadPattern 19 = .ok (.aload_n 0, 1) := by decide +kernel
theorem dX5_loadPattern_20 : decode cX5_loadPattern 20 = .ok (.getfield 36, 3) := by decide +kernel
theorem dX5_loadPattern_23 : decode cX5_loadPattern 23 = .ok (.iload_n 2, 1) := by decide +kernel
theorem dX5_loadPattern_24 : decode cX5_loadPattern 24 = .ok (.aaload, 1) := by decide +kernel
theorem dX5_loadPattern_25 : decode cX5_loadPattern 25 = .ok (.getfield 276, 3) := by decide +kernel
theorem dX5_loadPattern_28 : decode cX5_loadPattern 28 = .ok (.iconst (-1), 1) := by decide +kernel
theorem dX5_loadPattern_29 : decode cX5_loadPattern 29 = .ok (.if_icmp .ne 6, 3) := by decide +kernel
theorem dX5_loadPattern_32 : decode cX5_loadPattern 32 = .ok (.bipush (-11), 2) := by decide +kernel
theorem dX5_loadPattern_34 : decode cX5_loadPattern 34 = .ok (.ireturn, 1) := by decide +kernel
theorem dX5_loadPattern_35 : decode cX5_loadPattern 35 = .ok (.aload_n 0, 1) := by decide +kernel
theorem dX5_loadPattern_36 : decode cX5_loadPattern 36 = .ok (.getfield 36, 3) := by decide +kernel
theorem dX5_loadPattern_39 : decode cX5_loadPattern 39 = .ok (.iload_n 2, 1) := by decide +kernel
theorem dX5_loadPattern_40 : decode cX5_loadPattern 40 = .ok (.aaload, 1) := by decide +kernel
theorem dX5_loadPattern_41 : decode cX5_loadPattern 41 = .ok (.getfield 276, 3) := by decide +kernel
theorem dX5_loadPattern_44 : decode cX5_loadPattern 44 = .ok (.iconst 1, 1) := by decide +kernel
theorem dX5_loadPattern_45 : decode cX5_loadPattern 45 = .ok (.if_icmp .eq 6, 3) := by decide +kernel
theorem dX5_loadPattern_48 : decode cX5_loadPattern 48 = .ok (.bipush (-12), 2) := by decide +kernel
theorem dX5_loadPattern_50 : decode cX5_loadPattern 50 = .ok (.ireturn, 1) := by decide +kernel
theorem dX5_loadPattern_51 : decode cX5_loadPattern 51 = .ok (.aload_n 0, 1) := by decide +kernel
theorem dX5_loadPattern_52 : decode cX5_loadPattern 52 = .ok (.aload_n 0, 1) := by decide +kernel
theorem dX5_loadPattern_53 : decode cX5_loadPattern 53 = .ok (.getfield 36, 3) := by decide +kernel
theorem dX5_loadPattern_56 : decode cX5_loadPattern 56 = .ok (.iload_n 2, 1) := by decide +kernel
theorem dX5_loadPattern_57 : decode cX5_loadPattern 57 = .ok (.aaload, 1) := by decide +kernel
theorem dX5_loadPattern_58 : decode cX5_loadPattern 58 = .ok (.getfield 279, 3) := by decide +kernel
theorem dX5_loadPattern_61 : decode cX5_loadPattern 61 = .ok (.invokevirtual 78, 3) := by decide +kernel
theorem dX5_loadPattern_64 : decode cX5_loadPattern 64 = .ok (.ifCond .eq 15, 3) := by decide +kernel
theorem dX5_loadPattern_67 : decode cX5_loadPattern 67 = .ok (.aload_n 0, 1) := by decide +kernel
theorem dX5_loadPattern_68 : decode cX5_loadPattern 68 = .ok (.iload_n 1, 1) := by decide +kernel
theorem dX5_loadPattern_69 : decode cX5_loadPattern 69 = .ok (.aload_n 0, 1) := by decide +kernel
theorem dX5_loadPattern_70 : decode cX5_loadPattern 70 = .ok (.getfield 54, 3) := by decide +kernel
theorem dX5_loadPattern_73 : decode cX5_loadPattern 73 = .ok (.invokevirtual 115, 3) := by decide +kernel
theorem dX5_loadPattern_76 : decode cX5_loadPattern 76 = .ok (.goto 5, 3) := by decide +kernel
theorem dX5_loadPattern_79 : decode cX5_loadPattern 79 = .ok (.bipush (-5), 2) := by decide +kernel
theorem dX5_loadPattern_81 : decode cX5_loadPattern 81 = .ok (.ireturn, 1) := by decide +kernel
theorem dX5_isSlot_0 : decode cX5_isSlot 0 = .ok (.iload_n 0, 1) := by decide +kernel
theorem dX5_isSlot_1 : decode cX5_isSlot 1 = .ok (.ifCond .lt 12, 3) := by decide +kernel
theorem dX5_isSlot_4 : decode cX5_isSlot 4 = .ok (.iload_n 0, 1) := by decide +kernel
theorem dX5_isSlot_5 : decode cX5_isSlot 5 = .ok (.iconst 4, 1) := by decide +kernel
theorem dX5_isSlot_6 : decode cX5_isSlot 6 = .ok (.if_icmp .ge 7, 3) := by decide +kernel
theorem dX5_isSlot_9 : decode cX5_isSlot 9 = .ok (.iconst 1, 1) := by decide +kernel
theorem dX5_isSlot_10 : decode cX5_isSlot 10 = .ok (.goto 4, 3) := by decide +kernel
theorem dX5_isSlot_13 : decode cX5_isSlot 13 = .ok (.iconst 0, 1) := by decide +kernel
theorem dX5_isSlot_14 : decode cX5_isSlot 14 = .ok (.ireturn, 1) := by decide +kernel
theorem dX5_snapshot_0 : decode cX5_snapshot 0 = .ok (.aload_n 0, 1) := by decide +kernel
theorem dX5_snapshot_1 : decode cX5_snapshot 1 = .ok (.getfield 18, 3) := by decide +kernel
theorem dX5_snapshot_4 : decode cX5_snapshot 4 = .ok (.aload_n 0, 1) := by decide +kernel
theorem dX5_snapshot_5 : decode cX5_snapshot 5 = .ok (.getfield 12, 3) := by decide +kernel
theorem dX5_snapshot_8 : decode cX5_snapshot 8 = .ok (.invokevirtual 305, 3) := by decide +kernel
theorem dX5_snapshot_11 : decode cX5_snapshot 11 = .ok (.aload_n 0, 1) := by decide +kernel
theorem dX5_snapshot_12 : decode cX5_snapshot 12 = .ok (.iconst 1, 1) := by decide +kernel
theorem dX5_snapshot_13 : decode cX5_snapshot 13 = .ok (.putfield 21, 3) := by decide +kernel
theorem dX5_snapshot_16 : decode cX5_snapshot 16 = .ok (.aload_n 0, 1) := by decide +kernel
theorem dX5_snapshot_17 : decode cX5_snapshot 17 = .ok (.getfield 12, 3) := by decide +kernel
theorem dX5_snapshot_20 : decode cX5_snapshot 20 = .ok (.getfield 230, 3) := by decide +kernel
theorem dX5_snapshot_23 : decode cX5_snapshot 23 = .ok (.ireturn, 1) := by decide +kernel
theorem dX5_restore_0 : decode cX5_restore 0 = .ok (.aload_n 0, 1) := by decide +kernel
theorem dX5_restore_1 : decode cX5_restore 1 = .ok (.getfield 21, 3) := by decide +kernel
theorem dX5_restore_4 : decode cX5_restore 4 = .ok (.ifCond .ne 6, 3) := by decide +kernel
theorem dX5_restore_7 : decode cX5_restore 7 = .ok (.bipush (-6), 2) := by decide +kernel
theorem dX5_restore_9 : decode cX5_restore 9 = .ok (.ireturn, 1) := by decide +kernel
theorem dX5_restore_10 : decode cX5_restore 10 = .ok (.aload_n 0, 1) := by decide +kernel
theorem dX5_restore_11 : decode cX5_restore 11 = .ok (.getfield 12, 3) := by decide +kernel
theorem dX5_restore_14 : decode cX5_restore 14 = .ok (.aload_n 0, 1) := by decide +kernel
theorem dX5_restore_15 : decode cX5_restore 15 = .ok (.getfield 18, 3) := by decide +kernel
theorem dX5_restore_18 : decode cX5_restore 18 = .ok (.invokevirtual 305, 3) := by decide +kernel
theorem dX5_restore_21 : decode cX5_restore 21 = .ok (.aload_n 0, 1) := by decide +kernel
theorem dX5_restore_22 : decode cX5_restore 22 = .ok (.getfield 12, 3) := by decide +kernel
theorem dX5_restore_25 : decode cX5_restore 25 = .ok (.getfield 230, 3) := by decide +kernel
theorem dX5_restore_28 : decode cX5_restore 28 = .ok (.ireturn, 1) := by decide +kernel

/-! decode rows: the check's own registry -/
theorem dX1_init_0 : decode cX1_init 0 = .ok (.aload_n 0, 1) := by decide +kernel
theorem dX1_init_1 : decode cX1_init 1 = .ok (.invokespecial 1, 3) := by decide +kernel
theorem dX1_init_4 : decode cX1_init 4 = .ok (.aload_n 0, 1) := by decide +kernel
theorem dX1_init_5 : decode cX1_init 5 = .ok (.iconst 0, 1) := by decide +kernel
theorem dX1_init_6 : decode cX1_init 6 = .ok (.anewarray 7, 3) := by decide +kernel
theorem dX1_init_9 : decode cX1_init 9 = .ok (.putfield 9, 3) := by decide +kernel
theorem dX1_init_12 : decode cX1_init 12 = .ok (.aload_n 0, 1) := by decide +kernel
theorem dX1_init_13 : decode cX1_init 13 = .ok (.iconst 0, 1) := by decide +kernel
theorem dX1_init_14 : decode cX1_init 14 = .ok (.anewarray 7, 3) := by decide +kernel
theorem dX1_init_17 : decode cX1_init 17 = .ok (.putfield 15, 3) := by decide +kernel
theorem dX1_init_20 : decode cX1_init 20 = .ok (.aload_n 0, 1) := by decide +kernel
theorem dX1_init_21 : decode cX1_init 21 = .ok (.iconst 0, 1) := by decide +kernel
theorem dX1_init_22 : decode cX1_init 22 = .ok (.anewarray 7, 3) := by decide +kernel
theorem dX1_init_25 : decode cX1_init 25 = .ok (.putfield 18, 3) := by decide +kernel
theorem dX1_init_28 : decode cX1_init 28 = .ok (.return_, 1) := by decide +kernel
theorem dX1_with_0 : decode cX1_with 0 = .ok (.aload_n 0, 1) := by decide +kernel
theorem dX1_with_1 : decode cX1_with 1 = .ok (.arraylength, 1) := by decide +kernel
theorem dX1_with_2 : decode cX1_with 2 = .ok (.iconst 1, 1) := by decide +kernel
theorem dX1_with_3 : decode cX1_with 3 = .ok (.iadd, 1) := by decide +kernel
theorem dX1_with_4 : decode cX1_with 4 = .ok (.anewarray 7, 3) := by decide +kernel
theorem dX1_with_7 : decode cX1_with 7 = .ok (.astore_n 2, 1) := by decide +kernel
theorem dX1_with_8 : decode cX1_with 8 = .ok (.iconst 0, 1) := by decide +kernel
theorem dX1_with_9 : decode cX1_with 9 = .ok (.istore_n 3, 1) := by decide +kernel
theorem dX1_with_10 : decode cX1_with 10 = .ok (.iload_n 3, 1) := by decide +kernel
theorem dX1_with_11 : decode cX1_with 11 = .ok (.aload_n 0, 1) := by decide +kernel
theorem dX1_with_12 : decode cX1_with 12 = .ok (.arraylength, 1) := by decide +kernel
theorem dX1_with_13 : decode cX1_with 13 = .ok (.if_icmp .ge 15, 3) := by decide +kernel
theorem dX1_with_16 : decode cX1_with 16 = .ok (.aload_n 2, 1) := by decide +kernel
theorem dX1_with_17 : decode cX1_with 17 = .ok (.iload_n 3, 1) := by decide +kernel
theorem dX1_with_18 : decode cX1_with 18 = .ok (.aload_n 0, 1) := by decide +kernel
theorem dX1_with_19 : decode cX1_with 19 = .ok (.iload_n 3, 1) := by decide +kernel
theorem dX1_with_20 : decode cX1_with 20 = .ok (.aaload, 1) := by decide +kernel
theorem dX1_with_21 : decode cX1_with 21 = .ok (.aastore, 1) := by decide +kernel
theorem dX1_with_22 : decode cX1_with 22 = .ok (.iinc 3 1, 3) := by decide +kernel
theorem dX1_with_25 : decode cX1_with 25 = .ok (.goto (-15), 3) := by decide +kernel
theorem dX1_with_28 : decode cX1_with 28 = .ok (.aload_n 2, 1) := by decide +kernel
theorem dX1_with_29 : decode cX1_with 29 = .ok (.aload_n 0, 1) := by decide +kernel
theorem dX1_with_30 : decode cX1_with 30 = .ok (.arraylength, 1) := by decide +kernel
theorem dX1_with_31 : decode cX1_with 31 = .ok (.aload_n 1, 1) := by decide +kernel
theorem dX1_with_32 : decode cX1_with 32 = .ok (.aastore, 1) := by decide +kernel
theorem dX1_with_33 : decode cX1_with 33 = .ok (.aload_n 2, 1) := by decide +kernel
theorem dX1_with_34 : decode cX1_with 34 = .ok (.areturn, 1) := by decide +kernel
theorem dX1_price_0 : decode cX1_price 0 = .ok (.iconst 5, 1) := by decide +kernel
theorem dX1_price_1 : decode cX1_price 1 = .ok (.bipush 99, 2) := by decide +kernel
theorem dX1_price_3 : decode cX1_price 3 = .ok (.aload_n 0, 1) := by decide +kernel
theorem dX1_price_4 : decode cX1_price 4 = .ok (.iconst 1, 1) := by decide +kernel
theorem dX1_price_5 : decode cX1_price 5 = .ok (.iaload, 1) := by decide +kernel
theorem dX1_price_6 : decode cX1_price 6 = .ok (.isub, 1) := by decide +kernel
theorem dX1_price_7 : decode cX1_price 7 = .ok (.bipush 10, 2) := by decide +kernel
theorem dX1_price_9 : decode cX1_price 9 = .ok (.idiv, 1) := by decide +kernel
theorem dX1_price_10 : decode cX1_price 10 = .ok (.iadd, 1) := by decide +kernel
theorem dX1_price_11 : decode cX1_price 11 = .ok (.ireturn, 1) := by decide +kernel
theorem dX1_lastHeir_0 : decode cX1_lastHeir 0 = .ok (.aload_n 0, 1) := by decide +kernel
theorem dX1_lastHeir_1 : decode cX1_lastHeir 1 = .ok (.getfield 9, 3) := by decide +kernel
theorem dX1_lastHeir_4 : decode cX1_lastHeir 4 = .ok (.arraylength, 1) := by decide +kernel
theorem dX1_lastHeir_5 : decode cX1_lastHeir 5 = .ok (.newarray .boolean, 2) := by decide +kernel
theorem dX1_lastHeir_7 : decode cX1_lastHeir 7 = .ok (.astore_n 2, 1) := by decide +kernel
theorem dX1_lastHeir_8 : decode cX1_lastHeir 8 = .ok (.iload_n 1, 1) := by decide +kernel
theorem dX1_lastHeir_9 : decode cX1_lastHeir 9 = .ok (.istore_n 3, 1) := by decide +kernel
theorem dX1_lastHeir_10 : decode cX1_lastHeir 10 = .ok (.aload_n 2, 1) := by decide +kernel
theorem dX1_lastHeir_11 : decode cX1_lastHeir 11 = .ok (.iload_n 3, 1) := by decide +kernel
theorem dX1_lastHeir_12 : decode cX1_lastHeir 12 = .ok (.baload, 1) := by decide +kernel
theorem dX1_lastHeir_13 : decode cX1_lastHeir 13 = .ok (.ifCond .ne 41, 3) := by decide +kernel
theorem dX1_lastHeir_16 : decode cX1_lastHeir 16 = .ok (.aload_n 2, 1) := by decide +kernel
theorem dX1_lastHeir_17 : decode cX1_lastHeir 17 = .ok (.iload_n 3, 1) := by decide +kernel
theorem dX1_lastHeir_18 : decode cX1_lastHeir 18 = .ok (.iconst 1, 1) := by decide +kernel
theorem dX1_lastHeir_19 : decode cX1_lastHeir 19 = .ok (.bastore, 1) := by decide +kernel
theorem dX1_lastHeir_20 : decode cX1_lastHeir 20 = .ok (.aload_n 0, 1) := by decide +kernel
theorem dX1_lastHeir_21 : decode cX1_lastHeir 21 = .ok (.getfield 9, 3) := by decide +kernel
theorem dX1_lastHeir_24 : decode cX1_lastHeir 24 = .ok (.iload_n 3, 1) := by decide +kernel
theorem dX1_lastHeir_25 : decode cX1_lastHeir 25 = .ok (.aaload, 1) := by decide +kernel
theorem dX1_lastHeir_26 : decode cX1_lastHeir 26 = .ok (.iconst 4, 1) := by decide +kernel
theorem dX1_lastHeir_27 : decode cX1_lastHeir 27 = .ok (.iaload, 1) := by decide +kernel
theorem dX1_lastHeir_28 : decode cX1_lastHeir 28 = .ok (.istore_n 3, 1) := by decide +kernel
theorem dX1_lastHeir_29 : decode cX1_lastHeir 29 = .ok (.iload_n 3, 1) := by decide +kernel
theorem dX1_lastHeir_30 : decode cX1_lastHeir 30 = .ok (.ifCond .lt 8, 3) := by decide +kernel
theorem dX1_lastHeir_33 : decode cX1_lastHeir 33 = .ok (.iload_n 3, 1) := by decide +kernel
theorem dX1_lastHeir_34 : decode cX1_lastHeir 34 = .ok (.iload_n 1, 1) := by decide +kernel
theorem dX1_lastHeir_35 : decode cX1_lastHeir 35 = .ok (.if_icmp .ne 5, 3) := by decide +kernel
theorem dX1_lastHeir_38 : decode cX1_lastHeir 38 = .ok (.iconst (-1), 1) := by decide +kernel
theorem dX1_lastHeir_39 : decode cX1_lastHeir 39 = .ok (.ireturn, 1) := by decide +kernel
theorem dX1_lastHeir_40 : decode cX1_lastHeir 40 = .ok (.aload_n 0, 1) := by decide +kernel
theorem dX1_lastHeir_41 : decode cX1_lastHeir 41 = .ok (.getfield 9, 3) := by decide +kernel
theorem dX1_lastHeir_44 : decode cX1_lastHeir 44 = .ok (.iload_n 3, 1) := by decide +kernel
theorem dX1_lastHeir_45 : decode cX1_lastHeir 45 = .ok (.aaload, 1) := by decide +kernel
theorem dX1_lastHeir_46 : decode cX1_lastHeir 46 = .ok (.iconst 0, 1) := by decide +kernel
theorem dX1_lastHeir_47 : decode cX1_lastHeir 47 = .ok (.iaload, 1) := by decide +kernel
theorem dX1_lastHeir_48 : decode cX1_lastHeir 48 = .ok (.iconst 1, 1) := by decide +kernel
theorem dX1_lastHeir_49 : decode cX1_lastHeir 49 = .ok (.if_icmp .ne (-39), 3) := by decide +kernel
theorem dX1_lastHeir_52 : decode cX1_lastHeir 52 = .ok (.iload_n 3, 1) := by decide +kernel
theorem dX1_lastHeir_53 : decode cX1_lastHeir 53 = .ok (.ireturn, 1) := by decide +kernel
theorem dX1_lastHeir_54 : decode cX1_lastHeir 54 = .ok (.iconst (-1), 1) := by decide +kernel
theorem dX1_lastHeir_55 : decode cX1_lastHeir 55 = .ok (.ireturn, 1) := by decide +kernel
theorem dX1_tells_0 : decode cX1_tells 0 = .ok (.aload_n 0, 1) := by decide +kernel
theorem dX1_tells_1 : decode cX1_tells 1 = .ok (.iconst 0, 1) := by decide +kernel
theorem dX1_tells_2 : decode cX1_tells 2 = .ok (.iaload, 1) := by decide +kernel
theorem dX1_tells_3 : decode cX1_tells 3 = .ok (.iconst 3, 1) := by decide +kernel
theorem dX1_tells_4 : decode cX1_tells 4 = .ok (.if_icmp .ge 5, 3) := by decide +kernel
theorem dX1_tells_7 : decode cX1_tells 7 = .ok (.iconst 0, 1) := by decide +kernel
theorem dX1_tells_8 : decode cX1_tells 8 = .ok (.ireturn, 1) := by decide +kernel
theorem dX1_tells_9 : decode cX1_tells 9 = .ok (.iload_n 1, 1) := by decide +kernel
theorem dX1_tells_10 : decode cX1_tells 10 = .ok (.bipush 9, 2) := by decide +kernel
theorem dX1_tells_12 : decode cX1_tells 12 = .ok (.aload_n 0, 1) := by decide +kernel
theorem dX1_tells_13 : decode cX1_tells 13 = .ok (.iconst 0, 1) := by decide +kernel
theorem dX1_tells_14 : decode cX1_tells 14 = .ok (.iaload, 1) := by decide +kernel
theorem dX1_tells_15 : decode cX1_tells 15 = .ok (.isub, 1) := by decide +kernel
theorem dX1_tells_16 : decode cX1_tells 16 = .ok (.iconst 2, 1) := by decide +kernel
theorem dX1_tells_17 : decode cX1_tells 17 = .ok (.idiv, 1) := by decide +kernel
theorem dX1_tells_18 : decode cX1_tells 18 = .ok (.isub, 1) := by decide +kernel
theorem dX1_tells_19 : decode cX1_tells 19 = .ok (.istore_n 2, 1) := by decide +kernel
theorem dX1_tells_20 : decode cX1_tells 20 = .ok (.iload_n 2, 1) := by decide +kernel
theorem dX1_tells_21 : decode cX1_tells 21 = .ok (.iconst 1, 1) := by decide +kernel
theorem dX1_tells_22 : decode cX1_tells 22 = .ok (.if_icmp .ge 7, 3) := by decide +kernel
theorem dX1_tells_25 : decode cX1_tells 25 = .ok (.iconst 1, 1) := by decide +kernel
theorem dX1_tells_26 : decode cX1_tells 26 = .ok (.goto 4, 3) := by decide +kernel
theorem dX1_tells_29 : decode cX1_tells 29 = .ok (.iload_n 2, 1) := by decide +kernel
theorem dX1_tells_30 : decode cX1_tells 30 = .ok (.ireturn, 1) := by decide +kernel
theorem dX1_certify_0 : decode cX1_certify 0 = .ok (.aload_n 0, 1) := by decide +kernel
theorem dX1_certify_1 : decode cX1_certify 1 = .ok (.getfield 15, 3) := by decide +kernel
theorem dX1_certify_4 : decode cX1_certify 4 = .ok (.arraylength, 1) := by decide +kernel
theorem dX1_certify_5 : decode cX1_certify 5 = .ok (.newarray .int, 2) := by decide +kernel
theorem dX1_certify_7 : decode cX1_certify 7 = .ok (.astore_n 2, 1) := by decide +kernel
theorem dX1_certify_8 : decode cX1_certify 8 = .ok (.iconst 0, 1) := by decide +kernel
theorem dX1_certify_9 : decode cX1_certify 9 = .ok (.istore_n 3, 1) := by decide +kernel
theorem dX1_certify_10 : decode cX1_certify 10 = .ok (.aload_n 0, 1) := by decide +kernel
theorem dX1_certify_11 : decode cX1_certify 11 = .ok (.getfield 15, 3) := by decide +kernel
theorem dX1_certify_14 : decode cX1_certify 14 = .ok (.astore 4, 2) := by decide +kernel
theorem dX1_certify_16 : decode cX1_certify 16 = .ok (.aload 4, 2) := by decide +kernel
theorem dX1_certify_18 : decode cX1_certify 18 = .ok (.arraylength, 1) := by decide +kernel
theorem dX1_certify_19 : decode cX1_certify 19 = .ok (.istore 5, 2) := by decide +kernel
theorem dX1_certify_21 : decode cX1_certify 21 = .ok (.iconst 0, 1) := by decide +kernel
theorem dX1_certify_22 : decode cX1_certify 22 = .ok (.istore 6, 2) := by decide +kernel
theorem dX1_certify_24 : decode cX1_certify 24 = .ok (.iload 6, 2) := by decide +kernel
theorem dX1_certify_26 : decode cX1_certify 26 = .ok (.iload 5, 2) := by decide +kernel
theorem dX1_certify_28 : decode cX1_certify 28 = .ok (.if_icmp .ge 83, 3) := by decide +kernel
theorem dX1_certify_31 : decode cX1_certify 31 = .ok (.aload 4, 2) := by decide +kernel
theorem dX1_certify_33 : decode cX1_certify 33 = .ok (.iload 6, 2) := by decide +kernel
theorem dX1_certify_35 : decode cX1_certify 35 = .ok (.aaload, 1) := by decide +kernel
theorem dX1_certify_36 : decode cX1_certify 36 = .ok (.astore 7, 2) := by decide +kernel
theorem dX1_certify_38 : decode cX1_certify 38 = .ok (.aload 7, 2) := by decide +kernel
theorem dX1_certify_40 : decode cX1_certify 40 = .ok (.iload_n 1, 1) := by decide +kernel
theorem dX1_certify_41 : decode cX1_certify 41 = .ok (.invokestatic 21, 3) := by decide +kernel
theorem dX1_certify_44 : decode cX1_certify 44 = .ok (.istore 8, 2) := by decide +kernel
theorem dX1_certify_46 : decode cX1_certify 46 = .ok (.aload 7, 2) := by decide +kernel
theorem dX1_certify_48 : decode cX1_certify 48 = .ok (.iconst 1, 1) := by decide +kernel
theorem dX1_certify_49 : decode cX1_certify 49 = .ok (.iaload, 1) := by decide +kernel
theorem dX1_certify_50 : decode cX1_certify 50 = .ok (.ifCond .eq 55, 3) := by decide +kernel
theorem dX1_certify_53 : decode cX1_certify 53 = .ok (.iload 8, 2) := by decide +kernel
theorem dX1_certify_55 : decode cX1_certify 55 = .ok (.ifCond .ne 6, 3) := by decide +kernel
theorem dX1_certify_58 : decode cX1_certify 58 = .ok (.goto 47, 3) := by decide +kernel
theorem dX1_certify_61 : decode cX1_certify 61 = .ok (.iload_n 3, 1) := by decide +kernel
theorem dX1_certify_62 : decode cX1_certify 62 = .ok (.istore 9, 2) := by decide +kernel
theorem dX1_certify_64 : decode cX1_certify 64 = .ok (.iload 9, 2) := by decide +kernel
theorem dX1_certify_66 : decode cX1_certify 66 = .ok (.ifCond .le 30, 3) := by decide +kernel
theorem dX1_certify_69 : decode cX1_certify 69 = .ok (.aload_n 2, 1) := by decide +kernel
theorem dX1_certify_70 : decode cX1_certify 70 = .ok (.iload 9, 2) := by decide +kernel
theorem dX1_certify_72 : decode cX1_certify 72 = .ok (.iconst 1, 1) := by decide +kernel
theorem dX1_certify_73 : decode cX1_certify 73 = .ok (.isub, 1) := by decide +kernel
theorem dX1_certify_74 : decode cX1_certify 74 = .ok (.iaload, 1) := by decide +kernel
theorem dX1_certify_75 : decode cX1_certify 75 = .ok (.iload 8, 2) := by decide +kernel
theorem dX1_certify_77 : decode cX1_certify 77 = .ok (.if_icmp .le 19, 3) := by decide +kernel
theorem dX1_certify_80 : decode cX1_certify 80 = .ok (.aload_n 2, 1) := by decide +kernel
theorem dX1_certify_81 : decode cX1_certify 81 = .ok (.iload 9, 2) := by decide +kernel
theorem dX1_certify_83 : decode cX1_certify 83 = .ok (.aload_n 2, 1) := by decide +kernel
theorem dX1_certify_84 : decode cX1_certify 84 = .ok (.iload 9, 2) := by decide +kernel
theorem dX1_certify_86 : decode cX1_certify 86 = .ok (.iconst 1, 1) := by decide +kernel
theorem dX1_certify_87 : decode cX1_certify 87 = .ok (.isub, 1) := by decide +kernel
theorem dX1_certify_88 : decode cX1_certify 88 = .ok (.iaload, 1) := by decide +kernel
theorem dX1_certify_89 : decode cX1_certify 89 = .ok (.iastore, 1) := by decide +kernel
theorem dX1_certify_90 : decode cX1_certify 90 = .ok (.iinc 9 (-1), 3) := by decide +kernel
theorem dX1_certify_93 : decode cX1_certify 93 = .ok (.goto (-29), 3) := by decide +kernel
theorem dX1_certify_96 : decode cX1_certify 96 = .ok (.aload_n 2, 1) := by decide +kernel
theorem dX1_certify_97 : decode cX1_certify 97 = .ok (.iload 9, 2) := by decide +kernel
theorem dX1_certify_99 : decode cX1_certify 99 = .ok (.iload 8, 2) := by decide +kernel
theorem dX1_certify_101 : decode cX1_certify 101 = .ok (.iastore, 1) := by decide +kernel
theorem dX1_certify_102 : decode cX1_certify 102 = .ok (.iinc 3 1, 3) := by decide +kernel
theorem dX1_certify_105 : decode cX1_certify 105 = .ok (.iinc 6 1, 3) := by decide +kernel
theorem dX1_certify_108 : decode cX1_certify 108 = .ok (.goto (-84), 3) := by decide +kernel
theorem dX1_certify_111 : decode cX1_certify 111 = .ok (.iload_n 3, 1) := by decide +kernel
theorem dX1_certify_112 : decode cX1_certify 112 = .ok (.ifCond .ne 7, 3) := by decide +kernel
theorem dX1_certify_115 : decode cX1_certify 115 = .ok (.iconst 0, 1) := by decide +kernel
theorem dX1_certify_116 : decode cX1_certify 116 = .ok (.goto 10, 3) := by decide +kernel
theorem dX1_certify_119 : decode cX1_certify 119 = .ok (.aload_n 2, 1) := by decide +kernel
theorem dX1_certify_120 : decode cX1_certify 120 = .ok (.iload_n 3, 1) := by decide +kernel
theorem dX1_certify_121 : decode cX1_certify 121 = .ok (.iconst 1, 1) := by decide +kernel
theorem dX1_certify_122 : decode cX1_certify 122 = .ok (.isub, 1) := by decide +kernel
theorem dX1_certify_123 : decode cX1_certify 123 = .ok (.iconst 2, 1) := by decide +kernel
theorem dX1_certify_124 : decode cX1_certify 124 = .ok (.idiv, 1) := by decide +kernel
theorem dX1_certify_125 : decode cX1_certify 125 = .ok (.iaload, 1) := by decide +kernel
theorem dX1_certify_126 : decode cX1_certify 126 = .ok (.ireturn, 1) := by decide +kernel
theorem dX1_refund_0 : decode cX1_refund 0 = .ok (.aload_n 1, 1) := by decide +kernel
theorem dX1_refund_1 : decode cX1_refund 1 = .ok (.iconst 0, 1) := by decide +kernel
theorem dX1_refund_2 : decode cX1_refund 2 = .ok (.iaload, 1) := by decide +kernel
theorem dX1_refund_3 : decode cX1_refund 3 = .ok (.ifCond .eq 19, 3) := by decide +kernel
theorem dX1_refund_6 : decode cX1_refund 6 = .ok (.aload_n 1, 1) := by decide +kernel
theorem dX1_refund_7 : decode cX1_refund 7 = .ok (.iconst 3, 1) := by decide +kernel
theorem dX1_refund_8 : decode cX1_refund 8 = .ok (.iaload, 1) := by decide +kernel
theorem dX1_refund_9 : decode cX1_refund 9 = .ok (.ifCond .eq 13, 3) := by decide +kernel
theorem dX1_refund_12 : decode cX1_refund 12 = .ok (.iload_n 2, 1) := by decide +kernel
theorem dX1_refund_13 : decode cX1_refund 13 = .ok (.ifCond .eq 9, 3) := by decide +kernel
theorem dX1_refund_16 : decode cX1_refund 16 = .ok (.iload_n 2, 1) := by decide +kernel
theorem dX1_refund_17 : decode cX1_refund 17 = .ok (.bipush 24, 2) := by decide +kernel
theorem dX1_refund_19 : decode cX1_refund 19 = .ok (.if_icmp .le 5, 3) := by decide +kernel
theorem dX1_refund_22 : decode cX1_refund 22 = .ok (.iconst 0, 1) := by decide +kernel
theorem dX1_refund_23 : decode cX1_refund 23 = .ok (.ireturn, 1) := by decide +kernel
theorem dX1_refund_24 : decode cX1_refund 24 = .ok (.aload_n 1, 1) := by decide +kernel
theorem dX1_refund_25 : decode cX1_refund 25 = .ok (.invokestatic 25, 3) := by decide +kernel
theorem dX1_refund_28 : decode cX1_refund 28 = .ok (.bipush 24, 2) := by decide +kernel
theorem dX1_refund_30 : decode cX1_refund 30 = .ok (.iadd, 1) := by decide +kernel
theorem dX1_refund_31 : decode cX1_refund 31 = .ok (.iload_n 2, 1) := by decide +kernel
theorem dX1_refund_32 : decode cX1_refund 32 = .ok (.isub, 1) := by decide +kernel
theorem dX1_refund_33 : decode cX1_refund 33 = .ok (.istore_n 3, 1) := by decide +kernel
theorem dX1_refund_34 : decode cX1_refund 34 = .ok (.iload_n 3, 1) := by decide +kernel
theorem dX1_refund_35 : decode cX1_refund 35 = .ok (.aload_n 0, 1) := by decide +kernel
theorem dX1_refund_36 : decode cX1_refund 36 = .ok (.getfield 29, 3) := by decide +kernel
theorem dX1_refund_39 : decode cX1_refund 39 = .ok (.if_icmp .le 10, 3) := by decide +kernel
theorem dX1_refund_42 : decode cX1_refund 42 = .ok (.aload_n 0, 1) := by decide +kernel
theorem dX1_refund_43 : decode cX1_refund 43 = .ok (.getfield 29, 3) := by decide +kernel
theorem dX1_refund_46 : decode cX1_refund 46 = .ok (.goto 4, 3) := by decide +kernel
theorem dX1_refund_49 : decode cX1_refund 49 = .ok (.iload_n 3, 1) := by decide +kernel
theorem dX1_refund_50 : decode cX1_refund 50 = .ok (.ireturn, 1) := by decide +kernel
theorem dX1_miss_0 : decode cX1_miss 0 = .ok (.aload_n 0, 1) := by decide +kernel
theorem dX1_miss_1 : decode cX1_miss 1 = .ok (.getfield 9, 3) := by decide +kernel
theorem dX1_miss_4 : decode cX1_miss 4 = .ok (.iload_n 1, 1) := by decide +kernel
theorem dX1_miss_5 : decode cX1_miss 5 = .ok (.aaload, 1) := by decide +kernel
theorem dX1_miss_6 : decode cX1_miss 6 = .ok (.astore_n 3, 1) := by decide +kernel
theorem dX1_miss_7 : decode cX1_miss 7 = .ok (.aload_n 0, 1) := by decide +kernel
theorem dX1_miss_8 : decode cX1_miss 8 = .ok (.iload_n 2, 1) := by decide +kernel
theorem dX1_miss_9 : decode cX1_miss 9 = .ok (.invokevirtual 33, 3) := by decide +kernel
theorem dX1_miss_12 : decode cX1_miss 12 = .ok (.istore 4, 2) := by decide +kernel
theorem dX1_miss_14 : decode cX1_miss 14 = .ok (.iload 4, 2) := by decide +kernel
theorem dX1_miss_16 : decode cX1_miss 16 = .ok (.ifCond .le 62, 3) := by decide +kernel
theorem dX1_miss_19 : decode cX1_miss 19 = .ok (.iload 4, 2) := by decide +kernel
theorem dX1_miss_21 : decode cX1_miss 21 = .ok (.bipush 25, 2) := by decide +kernel
theorem dX1_miss_23 : decode cX1_miss 23 = .ok (.if_icmp .ge 55, 3) := by decide +kernel
theorem dX1_miss_26 : decode cX1_miss 26 = .ok (.aload_n 3, 1) := by decide +kernel
theorem dX1_miss_27 : decode cX1_miss 27 = .ok (.iconst 3, 1) := by decide +kernel
theorem dX1_miss_28 : decode cX1_miss 28 = .ok (.iaload, 1) := by decide +kernel
theorem dX1_miss_29 : decode cX1_miss 29 = .ok (.ifCond .le 49, 3) := by decide +kernel
theorem dX1_miss_32 : decode cX1_miss 32 = .ok (.aload_n 0, 1) := by decide +kernel
theorem dX1_miss_33 : decode cX1_miss 33 = .ok (.aload_n 3, 1) := by decide +kernel
theorem dX1_miss_34 : decode cX1_miss 34 = .ok (.iload 4, 2) := by decide +kernel
theorem dX1_miss_36 : decode cX1_miss 36 = .ok (.invokevirtual 37, 3) := by decide +kernel
theorem dX1_miss_39 : decode cX1_miss 39 = .ok (.istore 5, 2) := by decide +kernel
theorem dX1_miss_41 : decode cX1_miss 41 = .ok (.aload_n 3, 1) := by decide +kernel
theorem dX1_miss_42 : decode cX1_miss 42 = .ok (.iconst 3, 1) := by decide +kernel
theorem dX1_miss_43 : decode cX1_miss 43 = .ok (.dup2, 1) := by decide +kernel
theorem dX1_miss_44 : decode cX1_miss 44 = .ok (.iaload, 1) := by decide +kernel
theorem dX1_miss_45 : decode cX1_miss 45 = .ok (.iconst 1, 1) := by decide +kernel
theorem dX1_miss_46 : decode cX1_miss 46 = .ok (.isub, 1) := by decide +kernel
theorem dX1_miss_47 : decode cX1_miss 47 = .ok (.iastore, 1) := by decide +kernel
theorem dX1_miss_48 : decode cX1_miss 48 = .ok (.aload_n 3, 1) := by decide +kernel
theorem dX1_miss_49 : decode cX1_miss 49 = .ok (.iconst 2, 1) := by decide +kernel
theorem dX1_miss_50 : decode cX1_miss 50 = .ok (.dup2, 1) := by decide +kernel
theorem dX1_miss_51 : decode cX1_miss 51 = .ok (.iaload, 1) := by decide +kernel
theorem dX1_miss_52 : decode cX1_miss 52 = .ok (.iload 5, 2) := by decide +kernel
theorem dX1_miss_54 : decode cX1_miss 54 = .ok (.iadd, 1) := by decide +kernel
theorem dX1_miss_55 : decode cX1_miss 55 = .ok (.iastore, 1) := by decide +kernel
theorem dX1_miss_56 : decode cX1_miss 56 = .ok (.aload_n 0, 1) := by decide +kernel
theorem dX1_miss_57 : decode cX1_miss 57 = .ok (.dup, 1) := by decide +kernel
theorem dX1_miss_58 : decode cX1_miss 58 = .ok (.getfield 29, 3) := by decide +kernel
theorem dX1_miss_61 : decode cX1_miss 61 = .ok (.iload 5, 2) := by decide +kernel
theorem dX1_miss_63 : decode cX1_miss 63 = .ok (.isub, 1) := by decide +kernel
theorem dX1_miss_64 : decode cX1_miss 64 = .ok (.putfield 29, 3) := by decide +kernel
theorem dX1_miss_67 : decode cX1_miss 67 = .ok (.aload_n 0, 1) := by decide +kernel
theorem dX1_miss_68 : decode cX1_miss 68 = .ok (.dup, 1) := by decide +kernel
theorem dX1_miss_69 : decode cX1_miss 69 = .ok (.getfield 40, 3) := by decide +kernel
theorem dX1_miss_72 : decode cX1_miss 72 = .ok (.iload 5, 2) := by decide +kernel
theorem dX1_miss_74 : decode cX1_miss 74 = .ok (.iadd, 1) := by decide +kernel
theorem dX1_miss_75 : decode cX1_miss 75 = .ok (.putfield 40, 3) := by decide +kernel
theorem dX1_miss_78 : decode cX1_miss 78 = .ok (.aload_n 3, 1) := by decide +kernel
theorem dX1_miss_79 : decode cX1_miss 79 = .ok (.iconst 1, 1) := by decide +kernel
theorem dX1_miss_80 : decode cX1_miss 80 = .ok (.iconst 0, 1) := by decide +kernel
theorem dX1_miss_81 : decode cX1_miss 81 = .ok (.aload_n 3, 1) := by decide +kernel
theorem dX1_miss_82 : decode cX1_miss 82 = .ok (.iconst 1, 1) := by decide +kernel
theorem dX1_miss_83 : decode cX1_miss 83 = .ok (.iaload, 1) := by decide +kernel
theorem dX1_miss_84 : decode cX1_miss 84 = .ok (.bipush 60, 2) := by decide +kernel
theorem dX1_miss_86 : decode cX1_miss 86 = .ok (.iload_n 2, 1) := by decide +kernel
theorem dX1_miss_87 : decode cX1_miss 87 = .ok (.isub, 1) := by decide +kernel
theorem dX1_miss_88 : decode cX1_miss 88 = .ok (.bipush 10, 2) := by decide +kernel
theorem dX1_miss_90 : decode cX1_miss 90 = .ok (.idiv, 1) := by decide +kernel
theorem dX1_miss_91 : decode cX1_miss 91 = .ok (.isub, 1) := by decide +kernel
theorem dX1_miss_92 : decode cX1_miss 92 = .ok (.invokestatic 43, 3) := by decide +kernel
theorem dX1_miss_95 : decode cX1_miss 95 = .ok (.iastore, 1) := by decide +kernel
theorem dX1_miss_96 : decode cX1_miss 96 = .ok (.iload_n 2, 1) := by decide +kernel
theorem dX1_miss_97 : decode cX1_miss 97 = .ok (.bipush 6, 2) := by decide +kernel
theorem dX1_miss_99 : decode cX1_miss 99 = .ok (.if_icmp .ge 7, 3) := by decide +kernel
theorem dX1_miss_102 : decode cX1_miss 102 = .ok (.iconst 3, 1) := by decide +kernel
theorem dX1_miss_103 : decode cX1_miss 103 = .ok (.goto 14, 3) := by decide +kernel
theorem dX1_miss_106 : decode cX1_miss 106 = .ok (.iload_n 2, 1) := by decide +kernel
theorem dX1_miss_107 : decode cX1_miss 107 = .ok (.bipush 13, 2) := by decide +kernel
theorem dX1_miss_109 : decode cX1_miss 109 = .ok (.if_icmp .ge 7, 3) := by decide +kernel
theorem dX1_miss_112 : decode cX1_miss 112 = .ok (.iconst 2, 1) := by decide +kernel
theorem dX1_miss_113 : decode cX1_miss 113 = .ok (.goto 4, 3) := by decide +kernel
theorem dX1_miss_116 : decode cX1_miss 116 = .ok (.iconst 1, 1) := by decide +kernel
theorem dX1_miss_117 : decode cX1_miss 117 = .ok (.istore 5, 2) := by decide +kernel
theorem dX1_miss_119 : decode cX1_miss 119 = .ok (.aload_n 0, 1) := by decide +kernel
theorem dX1_miss_120 : decode cX1_miss 120 = .ok (.getfield 15, 3) := by decide +kernel
theorem dX1_miss_123 : decode cX1_miss 123 = .ok (.astore 6, 2) := by decide +kernel
theorem dX1_miss_125 : decode cX1_miss 125 = .ok (.aload 6, 2) := by decide +kernel
theorem dX1_miss_127 : decode cX1_miss 127 = .ok (.arraylength, 1) := by decide +kernel
theorem dX1_miss_128 : decode cX1_miss 128 = .ok (.istore 7, 2) := by decide +kernel
theorem dX1_miss_130 : decode cX1_miss 130 = .ok (.iconst 0, 1) := by decide +kernel
theorem dX1_miss_131 : decode cX1_miss 131 = .ok (.istore 8, 2) := by decide +kernel
theorem dX1_miss_133 : decode cX1_miss 133 = .ok (.iload 8, 2) := by decide +kernel
theorem dX1_miss_135 : decode cX1_miss 135 = .ok (.iload 7, 2) := by decide +kernel
theorem dX1_miss_137 : decode cX1_miss 137 = .ok (.if_icmp .ge 39, 3) := by decide +kernel
theorem dX1_miss_140 : decode cX1_miss 140 = .ok (.aload 6, 2) := by decide +kernel
theorem dX1_miss_142 : decode cX1_miss 142 = .ok (.iload 8, 2) := by decide +kernel
theorem dX1_miss_144 : decode cX1_miss 144 = .ok (.aaload, 1) := by decide +kernel
theorem dX1_miss_145 : decode cX1_miss 145 = .ok (.astore 9, 2) := by decide +kernel
theorem dX1_miss_147 : decode cX1_miss 147 = .ok (.aload 9, 2) := by decide +kernel
theorem dX1_miss_149 : decode cX1_miss 149 = .ok (.iconst 1, 1) := by decide +kernel
theorem dX1_miss_150 : decode cX1_miss 150 = .ok (.iaload, 1) := by decide +kernel
theorem dX1_miss_151 : decode cX1_miss 151 = .ok (.iconst 1, 1) := by decide +kernel
theorem dX1_miss_152 : decode cX1_miss 152 = .ok (.if_icmp .ne 18, 3) := by decide +kernel
theorem dX1_miss_155 : decode cX1_miss 155 = .ok (.aload 9, 2) := by decide +kernel
theorem dX1_miss_157 : decode cX1_miss 157 = .ok (.iconst 0, 1) := by decide +kernel
theorem dX1_miss_158 : decode cX1_miss 158 = .ok (.iconst 0, 1) := by decide +kernel
theorem dX1_miss_159 : decode cX1_miss 159 = .ok (.aload 9, 2) := by decide +kernel
theorem dX1_miss_161 : decode cX1_miss 161 = .ok (.iconst 0, 1) := by decide +kernel
theorem dX1_miss_162 : decode cX1_miss 162 = .ok (.iaload, 1) := by decide +kernel
theorem dX1_miss_163 : decode cX1_miss 163 = .ok (.iload 5, 2) := by decide +kernel
theorem dX1_miss_165 : decode cX1_miss 165 = .ok (.isub, 1) := by decide +kernel
theorem dX1_miss_166 : decode cX1_miss 166 = .ok (.invokestatic 43, 3) := by decide +kernel
theorem dX1_miss_169 : decode cX1_miss 169 = .ok (.iastore, 1) := by decide +kernel
theorem dX1_miss_170 : decode cX1_miss 170 = .ok (.iinc 8 1, 3) := by decide +kernel
theorem dX1_miss_173 : decode cX1_miss 173 = .ok (.goto (-40), 3) := by decide +kernel
theorem dX1_miss_176 : decode cX1_miss 176 = .ok (.aload_n 0, 1) := by decide +kernel
theorem dX1_miss_177 : decode cX1_miss 177 = .ok (.aload_n 0, 1) := by decide +kernel
theorem dX1_miss_178 : decode cX1_miss 178 = .ok (.getfield 18, 3) := by decide +kernel
theorem dX1_miss_181 : decode cX1_miss 181 = .ok (.iconst 2, 1) := by decide +kernel
theorem dX1_miss_182 : decode cX1_miss 182 = .ok (.newarray .int, 2) := by decide +kernel
theorem dX1_miss_184 : decode cX1_miss 184 = .ok (.dup, 1) := by decide +kernel
theorem dX1_miss_185 : decode cX1_miss 185 = .ok (.iconst 0, 1) := by decide +kernel
theorem dX1_miss_186 : decode cX1_miss 186 = .ok (.iload_n 1, 1) := by decide +kernel
theorem dX1_miss_187 : decode cX1_miss 187 = .ok (.iastore, 1) := by decide +kernel
theorem dX1_miss_188 : decode cX1_miss 188 = .ok (.dup, 1) := by decide +kernel
theorem dX1_miss_189 : decode cX1_miss 189 = .ok (.iconst 1, 1) := by decide +kernel
theorem dX1_miss_190 : decode cX1_miss 190 = .ok (.iload 4, 2) := by decide +kernel
theorem dX1_miss_192 : decode cX1_miss 192 = .ok (.iastore, 1) := by decide +kernel
theorem dX1_miss_193 : decode cX1_miss 193 = .ok (.invokestatic 49, 3) := by decide +kernel
theorem dX1_miss_196 : decode cX1_miss 196 = .ok (.putfield 18, 3) := by decide +kernel
theorem dX1_miss_199 : decode cX1_miss 199 = .ok (.iload 4, 2) := by decide +kernel
theorem dX1_miss_201 : decode cX1_miss 201 = .ok (.ireturn, 1) := by decide +kernel
theorem dX1_hit_0 : decode cX1_hit 0 = .ok (.aload_n 0, 1) := by decide +kernel
theorem dX1_hit_1 : decode cX1_hit 1 = .ok (.iload_n 1, 1) := by decide +kernel
theorem dX1_hit_2 : decode cX1_hit 2 = .ok (.invokevirtual 53, 3) := by decide +kernel
theorem dX1_hit_5 : decode cX1_hit 5 = .ok (.istore_n 2, 1) := by decide +kernel
theorem dX1_hit_6 : decode cX1_hit 6 = .ok (.aload_n 0, 1) := by decide +kernel
theorem dX1_hit_7 : decode cX1_hit 7 = .ok (.getfield 9, 3) := by decide +kernel
theorem dX1_hit_10 : decode cX1_hit 10 = .ok (.iload_n 1, 1) := by decide +kernel
theorem dX1_hit_11 : decode cX1_hit 11 = .ok (.aaload, 1) := by decide +kernel
theorem dX1_hit_12 : decode cX1_hit 12 = .ok (.astore_n 3, 1) := by decide +kernel
theorem dX1_hit_13 : decode cX1_hit 13 = .ok (.aload_n 3, 1) := by decide +kernel
theorem dX1_hit_14 : decode cX1_hit 14 = .ok (.iconst 0, 1) := by decide +kernel
theorem dX1_hit_15 : decode cX1_hit 15 = .ok (.iconst 0, 1) := by decide +kernel
theorem dX1_hit_16 : decode cX1_hit 16 = .ok (.iastore, 1) := by decide +kernel
theorem dX1_hit_17 : decode cX1_hit 17 = .ok (.aload_n 3, 1) := by decide +kernel
theorem dX1_hit_18 : decode cX1_hit 18 = .ok (.iconst 3, 1) := by decide +kernel
theorem dX1_hit_19 : decode cX1_hit 19 = .ok (.iconst 0, 1) := by decide +kernel
theorem dX1_hit_20 : decode cX1_hit 20 = .ok (.iastore, 1) := by decide +kernel
theorem dX1_hit_21 : decode cX1_hit 21 = .ok (.iload_n 2, 1) := by decide +kernel
theorem dX1_hit_22 : decode cX1_hit 22 = .ok (.ifCond .ge 18, 3) := by decide +kernel
theorem dX1_hit_25 : decode cX1_hit 25 = .ok (.aload_n 0, 1) := by decide +kernel
theorem dX1_hit_26 : decode cX1_hit 26 = .ok (.dup, 1) := by decide +kernel
theorem dX1_hit_27 : decode cX1_hit 27 = .ok (.getfield 29, 3) := by decide +kernel
theorem dX1_hit_30 : decode cX1_hit 30 = .ok (.aload_n 3, 1) := by decide +kernel
theorem dX1_hit_31 : decode cX1_hit 31 = .ok (.iconst 2, 1) := by decide +kernel
theorem dX1_hit_32 : decode cX1_hit 32 = .ok (.iaload, 1) := by decide +kernel
theorem dX1_hit_33 : decode cX1_hit 33 = .ok (.iadd, 1) := by decide +kernel
theorem dX1_hit_34 : decode cX1_hit 34 = .ok (.putfield 29, 3) := by decide +kernel
theorem dX1_hit_37 : decode cX1_hit 37 = .ok (.goto 44, 3) := by decide +kernel
theorem dX1_hit_40 : decode cX1_hit 40 = .ok (.aload_n 0, 1) := by decide +kernel
theorem dX1_hit_41 : decode cX1_hit 41 = .ok (.getfield 9, 3) := by decide +kernel
theorem dX1_hit_44 : decode cX1_hit 44 = .ok (.iload_n 2, 1) := by decide +kernel
theorem dX1_hit_45 : decode cX1_hit 45 = .ok (.aaload, 1) := by decide +kernel
theorem dX1_hit_46 : decode cX1_hit 46 = .ok (.iconst 1, 1) := by decide +kernel
theorem dX1_hit_47 : decode cX1_hit 47 = .ok (.bipush 99, 2) := by decide +kernel
theorem dX1_hit_49 : decode cX1_hit 49 = .ok (.aload_n 0, 1) := by decide +kernel
theorem dX1_hit_50 : decode cX1_hit 50 = .ok (.getfield 9, 3) := by decide +kernel
theorem dX1_hit_53 : decode cX1_hit 53 = .ok (.iload_n 2, 1) := by decide +kernel
theorem dX1_hit_54 : decode cX1_hit 54 = .ok (.aaload, 1) := by decide +kernel
theorem dX1_hit_55 : decode cX1_hit 55 = .ok (.iconst 1, 1) := by decide +kernel
theorem dX1_hit_56 : decode cX1_hit 56 = .ok (.iaload, 1) := by decide +kernel
theorem dX1_hit_57 : decode cX1_hit 57 = .ok (.aload_n 3, 1) := by decide +kernel
theorem dX1_hit_58 : decode cX1_hit 58 = .ok (.iconst 1, 1) := by decide +kernel
theorem dX1_hit_59 : decode cX1_hit 59 = .ok (.iaload, 1) := by decide +kernel
theorem dX1_hit_60 : decode cX1_hit 60 = .ok (.iconst 2, 1) := by decide +kernel
theorem dX1_hit_61 : decode cX1_hit 61 = .ok (.idiv, 1) := by decide +kernel
theorem dX1_hit_62 : decode cX1_hit 62 = .ok (.iadd, 1) := by decide +kernel
theorem dX1_hit_63 : decode cX1_hit 63 = .ok (.invokestatic 56, 3) := by decide +kernel
theorem dX1_hit_66 : decode cX1_hit 66 = .ok (.iastore, 1) := by decide +kernel
theorem dX1_hit_67 : decode cX1_hit 67 = .ok (.aload_n 0, 1) := by decide +kernel
theorem dX1_hit_68 : decode cX1_hit 68 = .ok (.getfield 9, 3) := by decide +kernel
theorem dX1_hit_71 : decode cX1_hit 71 = .ok (.iload_n 2, 1) := by decide +kernel
theorem dX1_hit_72 : decode cX1_hit 72 = .ok (.aaload, 1) := by decide +kernel
theorem dX1_hit_73 : decode cX1_hit 73 = .ok (.iconst 2, 1) := by decide +kernel
theorem dX1_hit_74 : decode cX1_hit 74 = .ok (.dup2, 1) := by decide +kernel
theorem dX1_hit_75 : decode cX1_hit 75 = .ok (.iaload, 1) := by decide +kernel
theorem dX1_hit_76 : decode cX1_hit 76 = .ok (.aload_n 3, 1) := by decide +kernel
theorem dX1_hit_77 : decode cX1_hit 77 = .ok (.iconst 2, 1) := by decide +kernel
theorem dX1_hit_78 : decode cX1_hit 78 = .ok (.iaload, 1) := by decide +kernel
theorem dX1_hit_79 : decode cX1_hit 79 = .ok (.iadd, 1) := by decide +kernel
theorem dX1_hit_80 : decode cX1_hit 80 = .ok (.iastore, 1) := by decide +kernel
theorem dX1_hit_81 : decode cX1_hit 81 = .ok (.aload_n 3, 1) := by decide +kernel
theorem dX1_hit_82 : decode cX1_hit 82 = .ok (.iconst 2, 1) := by decide +kernel
theorem dX1_hit_83 : decode cX1_hit 83 = .ok (.iconst 0, 1) := by decide +kernel
theorem dX1_hit_84 : decode cX1_hit 84 = .ok (.iastore, 1) := by decide +kernel
theorem dX1_hit_85 : decode cX1_hit 85 = .ok (.iload_n 2, 1) := by decide +kernel
theorem dX1_hit_86 : decode cX1_hit 86 = .ok (.ireturn, 1) := by decide +kernel
theorem dX1_pass_0 : decode cX1_pass 0 = .ok (.iconst 0, 1) := by decide +kernel
theorem dX1_pass_1 : decode cX1_pass 1 = .ok (.istore_n 2, 1) := by decide +kernel
theorem dX1_pass_2 : decode cX1_pass 2 = .ok (.iload_n 2, 1) := by decide +kernel
theorem dX1_pass_3 : decode cX1_pass 3 = .ok (.iload_n 1, 1) := by decide +kernel
theorem dX1_pass_4 : decode cX1_pass 4 = .ok (.if_icmp .ge 126, 3) := by decide +kernel
theorem dX1_pass_7 : decode cX1_pass 7 = .ok (.aload_n 0, 1) := by decide +kernel
theorem dX1_pass_8 : decode cX1_pass 8 = .ok (.getfield 15, 3) := by decide +kernel
theorem dX1_pass_11 : decode cX1_pass 11 = .ok (.astore_n 3, 1) := by decide +kernel
theorem dX1_pass_12 : decode cX1_pass 12 = .ok (.aload_n 3, 1) := by decide +kernel
theorem dX1_pass_13 : decode cX1_pass 13 = .ok (.arraylength, 1) := by decide +kernel
theorem dX1_pass_14 : decode cX1_pass 14 = .ok (.istore 4, 2) := by decide +kernel
theorem dX1_pass_16 : decode cX1_pass 16 = .ok (.iconst 0, 1) := by decide +kernel
theorem dX1_pass_17 : decode cX1_pass 17 = .ok (.istore 5, 2) := by decide +kernel
theorem dX1_pass_19 : decode cX1_pass 19 = .ok (.iload 5, 2) := by decide +kernel
theorem dX1_pass_21 : decode cX1_pass 21 = .ok (.iload 4, 2) := by decide +kernel
theorem dX1_pass_23 : decode cX1_pass 23 = .ok (.if_icmp .ge 35, 3) := by decide +kernel
theorem dX1_pass_26 : decode cX1_pass 26 = .ok (.aload_n 3, 1) := by decide +kernel
theorem dX1_pass_27 : decode cX1_pass 27 = .ok (.iload 5, 2) := by decide +kernel
theorem dX1_pass_29 : decode cX1_pass 29 = .ok (.aaload, 1) := by decide +kernel
theorem dX1_pass_30 : decode cX1_pass 30 = .ok (.astore 6, 2) := by decide +kernel
theorem dX1_pass_32 : decode cX1_pass 32 = .ok (.aload 6, 2) := by decide +kernel
theorem dX1_pass_34 : decode cX1_pass 34 = .ok (.iconst 0, 1) := by decide +kernel
theorem dX1_pass_35 : decode cX1_pass 35 = .ok (.bipush 9, 2) := by decide +kernel
theorem dX1_pass_37 : decode cX1_pass 37 = .ok (.aload 6, 2) := by decide +kernel
theorem dX1_pass_39 : decode cX1_pass 39 = .ok (.iconst 0, 1) := by decide +kernel
theorem dX1_pass_40 : decode cX1_pass 40 = .ok (.iaload, 1) := by decide +kernel
theorem dX1_pass_41 : decode cX1_pass 41 = .ok (.iconst 2, 1) := by decide +kernel
theorem dX1_pass_42 : decode cX1_pass 42 = .ok (.iadd, 1) := by decide +kernel
theorem dX1_pass_43 : decode cX1_pass 43 = .ok (.aload 6, 2) := by decide +kernel
theorem dX1_pass_45 : decode cX1_pass 45 = .ok (.iconst 1, 1) := by decide +kernel
theorem dX1_pass_46 : decode cX1_pass 46 = .ok (.iaload, 1) := by decide +kernel
theorem dX1_pass_47 : decode cX1_pass 47 = .ok (.isub, 1) := by decide +kernel
theorem dX1_pass_48 : decode cX1_pass 48 = .ok (.invokestatic 56, 3) := by decide +kernel
theorem dX1_pass_51 : decode cX1_pass 51 = .ok (.iastore, 1) := by decide +kernel
theorem dX1_pass_52 : decode cX1_pass 52 = .ok (.iinc 5 1, 3) := by decide +kernel
theorem dX1_pass_55 : decode cX1_pass 55 = .ok (.goto (-36), 3) := by decide +kernel
theorem dX1_pass_58 : decode cX1_pass 58 = .ok (.aload_n 0, 1) := by decide +kernel
theorem dX1_pass_59 : decode cX1_pass 59 = .ok (.getfield 9, 3) := by decide +kernel
theorem dX1_pass_62 : decode cX1_pass 62 = .ok (.astore_n 3, 1) := by decide +kernel
theorem dX1_pass_63 : decode cX1_pass 63 = .ok (.aload_n 3, 1) := by decide +kernel
theorem dX1_pass_64 : decode cX1_pass 64 = .ok (.arraylength, 1) := by decide +kernel
theorem dX1_pass_65 : decode cX1_pass 65 = .ok (.istore 4, 2) := by decide +kernel
theorem dX1_pass_67 : decode cX1_pass 67 = .ok (.iconst 0, 1) := by decide +kernel
theorem dX1_pass_68 : decode cX1_pass 68 = .ok (.istore 5, 2) := by decide +kernel
theorem dX1_pass_70 : decode cX1_pass 70 = .ok (.iload 5, 2) := by decide +kernel
theorem dX1_pass_72 : decode cX1_pass 72 = .ok (.iload 4, 2) := by decide +kernel
theorem dX1_pass_74 : decode cX1_pass 74 = .ok (.if_icmp .ge 40, 3) := by decide +kernel
theorem dX1_pass_77 : decode cX1_pass 77 = .ok (.aload_n 3, 1) := by decide +kernel
theorem dX1_pass_78 : decode cX1_pass 78 = .ok (.iload 5, 2) := by decide +kernel
theorem dX1_pass_80 : decode cX1_pass 80 = .ok (.aaload, 1) := by decide +kernel
theorem dX1_pass_81 : decode cX1_pass 81 = .ok (.astore 6, 2) := by decide +kernel
theorem dX1_pass_83 : decode cX1_pass 83 = .ok (.aload 6, 2) := by decide +kernel
theorem dX1_pass_85 : decode cX1_pass 85 = .ok (.iconst 0, 1) := by decide +kernel
theorem dX1_pass_86 : decode cX1_pass 86 = .ok (.iaload, 1) := by decide +kernel
theorem dX1_pass_87 : decode cX1_pass 87 = .ok (.iconst 1, 1) := by decide +kernel
theorem dX1_pass_88 : decode cX1_pass 88 = .ok (.if_icmp .ne 20, 3) := by decide +kernel
theorem dX1_pass_91 : decode cX1_pass 91 = .ok (.aload 6, 2) := by decide +kernel
theorem dX1_pass_93 : decode cX1_pass 93 = .ok (.iconst 1, 1) := by decide +kernel
theorem dX1_pass_94 : decode cX1_pass 94 = .ok (.iaload, 1) := by decide +kernel
theorem dX1_pass_95 : decode cX1_pass 95 = .ok (.bipush 99, 2) := by decide +kernel
theorem dX1_pass_97 : decode cX1_pass 97 = .ok (.if_icmp .ge 11, 3) := by decide +kernel
theorem dX1_pass_100 : decode cX1_pass 100 = .ok (.aload 6, 2) := by decide +kernel
theorem dX1_pass_102 : decode cX1_pass 102 = .ok (.iconst 1, 1) := by decide +kernel
theorem dX1_pass_103 : decode cX1_pass 103 = .ok (.dup2, 1) := by decide +kernel
theorem dX1_pass_104 : decode cX1_pass 104 = .ok (.iaload, 1) := by decide +kernel
theorem dX1_pass_105 : decode cX1_pass 105 = .ok (.iconst 1, 1) := by decide +kernel
theorem dX1_pass_106 : decode cX1_pass 106 = .ok (.iadd, 1) := by decide +kernel
theorem dX1_pass_107 : decode cX1_pass 107 = .ok (.iastore, 1) := by decide +kernel
theorem dX1_pass_108 : decode cX1_pass 108 = .ok (.iinc 5 1, 3) := by decide +kernel
theorem dX1_pass_111 : decode cX1_pass 111 = .ok (.goto (-41), 3) := by decide +kernel
theorem dX1_pass_114 : decode cX1_pass 114 = .ok (.aload_n 0, 1) := by decide +kernel
theorem dX1_pass_115 : decode cX1_pass 115 = .ok (.dup, 1) := by decide +kernel
theorem dX1_pass_116 : decode cX1_pass 116 = .ok (.getfield 59, 3) := by decide +kernel
theorem dX1_pass_119 : decode cX1_pass 119 = .ok (.iconst 1, 1) := by decide +kernel
theorem dX1_pass_120 : decode cX1_pass 120 = .ok (.iadd, 1) := by decide +kernel
theorem dX1_pass_121 : decode cX1_pass 121 = .ok (.putfield 59, 3) := by decide +kernel
theorem dX1_pass_124 : decode cX1_pass 124 = .ok (.iinc 2 1, 3) := by decide +kernel
theorem dX1_pass_127 : decode cX1_pass 127 = .ok (.goto (-125), 3) := by decide +kernel
theorem dX1_pass_130 : decode cX1_pass 130 = .ok (.aload_n 0, 1) := by decide +kernel
theorem dX1_pass_131 : decode cX1_pass 131 = .ok (.invokevirtual 62, 3) := by decide +kernel
theorem dX1_pass_134 : decode cX1_pass 134 = .ok (.ireturn, 1) := by decide +kernel
theorem dX1_shaken_0 : decode cX1_shaken 0 = .ok (.iconst 0, 1) := by decide +kernel
theorem dX1_shaken_1 : decode cX1_shaken 1 = .ok (.istore_n 1, 1) := by decide +kernel
theorem dX1_shaken_2 : decode cX1_shaken 2 = .ok (.aload_n 0, 1) := by decide +kernel
theorem dX1_shaken_3 : decode cX1_shaken 3 = .ok (.getfield 15, 3) := by decide +kernel
theorem dX1_shaken_6 : decode cX1_shaken 6 = .ok (.astore_n 2, 1) := by decide +kernel
theorem dX1_shaken_7 : decode cX1_shaken 7 = .ok (.aload_n 2, 1) := by decide +kernel
theorem dX1_shaken_8 : decode cX1_shaken 8 = .ok (.arraylength, 1) := by decide +kernel
theorem dX1_shaken_9 : decode cX1_shaken 9 = .ok (.istore_n 3, 1) := by decide +kernel
theorem dX1_shaken_10 : decode cX1_shaken 10 = .ok (.iconst 0, 1) := by decide +kernel
theorem dX1_shaken_11 : decode cX1_shaken 11 = .ok (.istore 4, 2) := by decide +kernel
theorem dX1_shaken_13 : decode cX1_shaken 13 = .ok (.iload 4, 2) := by decide +kernel
theorem dX1_shaken_15 : decode cX1_shaken 15 = .ok (.iload_n 3, 1) := by decide +kernel
theorem dX1_shaken_16 : decode cX1_shaken 16 = .ok (.if_icmp .ge 26, 3) := by decide +kernel
theorem dX1_shaken_19 : decode cX1_shaken 19 = .ok (.aload_n 2, 1) := by decide +kernel
theorem dX1_shaken_20 : decode cX1_shaken 20 = .ok (.iload 4, 2) := by decide +kernel
theorem dX1_shaken_22 : decode cX1_shaken 22 = .ok (.aaload, 1) := by decide +kernel
theorem dX1_shaken_23 : decode cX1_shaken 23 = .ok (.astore 5, 2) := by decide +kernel
theorem dX1_shaken_25 : decode cX1_shaken 25 = .ok (.aload 5, 2) := by decide +kernel
theorem dX1_shaken_27 : decode cX1_shaken 27 = .ok (.iconst 0, 1) := by decide +kernel
theorem dX1_shaken_28 : decode cX1_shaken 28 = .ok (.iaload, 1) := by decide +kernel
theorem dX1_shaken_29 : decode cX1_shaken 29 = .ok (.iconst 3, 1) := by decide +kernel
theorem dX1_shaken_30 : decode cX1_shaken 30 = .ok (.if_icmp .ge 6, 3) := by decide +kernel
theorem dX1_shaken_33 : decode cX1_shaken 33 = .ok (.iinc 1 1, 3) := by decide +kernel
theorem dX1_shaken_36 : decode cX1_shaken 36 = .ok (.iinc 4 1, 3) := by decide +kernel
theorem dX1_shaken_39 : decode cX1_shaken 39 = .ok (.goto (-26), 3) := by decide +kernel
theorem dX1_shaken_42 : decode cX1_shaken 42 = .ok (.iload_n 1, 1) := by decide +kernel
theorem dX1_shaken_43 : decode cX1_shaken 43 = .ok (.ireturn, 1) := by decide +kernel
theorem dX1_seal_0 : decode cX1_seal 0 = .ok (.new 66, 3) := by decide +kernel
theorem dX1_seal_3 : decode cX1_seal 3 = .ok (.dup, 1) := by decide +kernel
theorem dX1_seal_4 : decode cX1_seal 4 = .ok (.invokespecial 68, 3) := by decide +kernel
theorem dX1_seal_7 : decode cX1_seal 7 = .ok (.ldc 69, 2) := by decide +kernel
theorem dX1_seal_9 : decode cX1_seal 9 = .ok (.invokevirtual 71, 3) := by decide +kernel
theorem dX1_seal_12 : decode cX1_seal 12 = .ok (.aload_n 0, 1) := by decide +kernel
theorem dX1_seal_13 : decode cX1_seal 13 = .ok (.iconst 0, 1) := by decide +kernel
theorem dX1_seal_14 : decode cX1_seal 14 = .ok (.iaload, 1) := by decide +kernel
theorem dX1_seal_15 : decode cX1_seal 15 = .ok (.invokevirtual 75, 3) := by decide +kernel
theorem dX1_seal_18 : decode cX1_seal 18 = .ok (.ldc 78, 2) := by decide +kernel
theorem dX1_seal_20 : decode cX1_seal 20 = .ok (.invokevirtual 71, 3) := by decide +kernel
theorem dX1_seal_23 : decode cX1_seal 23 = .ok (.aload_n 0, 1) := by decide +kernel
theorem dX1_seal_24 : decode cX1_seal 24 = .ok (.iconst 1, 1) := by decide +kernel
theorem dX1_seal_25 : decode cX1_seal 25 = .ok (.iaload, 1) := by decide +kernel
theorem dX1_seal_26 : decode cX1_seal 26 = .ok (.ifCond .ne 8, 3) := by decide +kernel
theorem dX1_seal_29 : decode cX1_seal 29 = .ok (.ldc 80, 2) := by decide +kernel
theorem dX1_seal_31 : decode cX1_seal 31 = .ok (.goto 24, 3) := by decide +kernel
theorem dX1_seal_34 : decode cX1_seal 34 = .ok (.new 66, 3) := by decide +kernel
theorem dX1_seal_37 : decode cX1_seal 37 = .ok (.dup, 1) := by decide +kernel
theorem dX1_seal_38 : decode cX1_seal 38 = .ok (.invokespecial 68, 3) := by decide +kernel
theorem dX1_seal_41 : decode cX1_seal 41 = .ok (.aload_n 0, 1) := by decide +kernel
theorem dX1_seal_42 : decode cX1_seal 42 = .ok (.iconst 1, 1) := by decide +kernel
theorem dX1_seal_43 : decode cX1_seal 43 = .ok (.iaload, 1) := by decide +kernel
theorem dX1_seal_44 : decode cX1_seal 44 = .ok (.invokevirtual 75, 3) := by decide +kernel
theorem dX1_seal_47 : decode cX1_seal 47 = .ok (.ldc 82, 2) := by decide +kernel
theorem dX1_seal_49 : decode cX1_seal 49 = .ok (.invokevirtual 71, 3) := by decide +kernel
theorem dX1_seal_52 : decode cX1_seal 52 = .ok (.invokevirtual 84, 3) := by decide +kernel
theorem dX1_seal_55 : decode cX1_seal 55 = .ok (.invokevirtual 71, 3) := by decide +kernel
theorem dX1_seal_58 : decode cX1_seal 58 = .ok (.invokevirtual 84, 3) := by decide +kernel
theorem dX1_seal_61 : decode cX1_seal 61 = .ok (.astore_n 1, 1) := by decide +kernel
theorem dX1_seal_62 : decode cX1_seal 62 = .ok (.bipush 7, 2) := by decide +kernel
theorem dX1_seal_64 : decode cX1_seal 64 = .ok (.istore_n 2, 1) := by decide +kernel
theorem dX1_seal_65 : decode cX1_seal 65 = .ok (.iconst 0, 1) := by decide +kernel
theorem dX1_seal_66 : decode cX1_seal 66 = .ok (.istore_n 3, 1) := by decide +kernel
theorem dX1_seal_67 : decode cX1_seal 67 = .ok (.iload_n 3, 1) := by decide +kernel
theorem dX1_seal_68 : decode cX1_seal 68 = .ok (.aload_n 1, 1) := by decide +kernel
theorem dX1_seal_69 : decode cX1_seal 69 = .ok (.invokevirtual 88, 3) := by decide +kernel
theorem dX1_seal_72 : decode cX1_seal 72 = .ok (.if_icmp .ge 20, 3) := by decide +kernel
theorem dX1_seal_75 : decode cX1_seal 75 = .ok (.iload_n 2, 1) := by decide +kernel
theorem dX1_seal_76 : decode cX1_seal 76 = .ok (.bipush 31, 2) := by decide +kernel
theorem dX1_seal_78 : decode cX1_seal 78 = .ok (.imul, 1) := by decide +kernel
theorem dX1_seal_79 : decode cX1_seal 79 = .ok (.aload_n 1, 1) := by decide +kernel
theorem dX1_seal_80 : decode cX1_seal 80 = .ok (.iload_n 3, 1) := by decide +kernel
theorem dX1_seal_81 : decode cX1_seal 81 = .ok (.invokevirtual 93, 3) := by decide +kernel
theorem dX1_seal_84 : decode cX1_seal 84 = .ok (.iadd, 1) := by decide +kernel
theorem dX1_seal_85 : decode cX1_seal 85 = .ok (.istore_n 2, 1) := by decide +kernel
theorem dX1_seal_86 : decode cX1_seal 86 = .ok (.iinc 3 1, 3) := by decide +kernel
theorem dX1_seal_89 : decode cX1_seal 89 = .ok (.goto (-22), 3) := by decide +kernel
theorem dX1_seal_92 : decode cX1_seal 92 = .ok (.iload_n 2, 1) := by decide +kernel
theorem dX1_seal_93 : decode cX1_seal 93 = .ok (.ireturn, 1) := by decide +kernel
theorem dX1_isSame_0 : decode cX1_isSame 0 = .ok (.aload_n 0, 1) := by decide +kernel
theorem dX1_isSame_1 : decode cX1_isSame 1 = .ok (.getfield 9, 3) := by decide +kernel
theorem dX1_isSame_4 : decode cX1_isSame 4 = .ok (.arraylength, 1) := by decide +kernel
theorem dX1_isSame_5 : decode cX1_isSame 5 = .ok (.istore_n 2, 1) := by decide +kernel
theorem dX1_isSame_6 : decode cX1_isSame 6 = .ok (.iconst 0, 1) := by decide +kernel
theorem dX1_isSame_7 : decode cX1_isSame 7 = .ok (.istore_n 3, 1) := by decide +kernel
theorem dX1_isSame_8 : decode cX1_isSame 8 = .ok (.iconst 0, 1) := by decide +kernel
theorem dX1_isSame_9 : decode cX1_isSame 9 = .ok (.istore 4, 2) := by decide +kernel
theorem dX1_isSame_11 : decode cX1_isSame 11 = .ok (.iconst (-1), 1) := by decide +kernel
theorem dX1_isSame_12 : decode cX1_isSame 12 = .ok (.istore 5, 2) := by decide +kernel
theorem dX1_isSame_14 : decode cX1_isSame 14 = .ok (.aload_n 1, 1) := by decide +kernel
theorem dX1_isSame_15 : decode cX1_isSame 15 = .ok (.invokevirtual 102, 3) := by decide +kernel
theorem dX1_isSame_18 : decode cX1_isSame 18 = .ok (.aload_n 0, 1) := by decide +kernel
theorem dX1_isSame_19 : decode cX1_isSame 19 = .ok (.getfield 59, 3) := by decide +kernel
theorem dX1_isSame_22 : decode cX1_isSame 22 = .ok (.if_icmp .ne 68, 3) := by decide +kernel
theorem dX1_isSame_25 : decode cX1_isSame 25 = .ok (.aload_n 1, 1) := by decide +kernel
theorem dX1_isSame_26 : decode cX1_isSame 26 = .ok (.invokevirtual 106, 3) := by decide +kernel
theorem dX1_isSame_29 : decode cX1_isSame 29 = .ok (.iload_n 2, 1) := by decide +kernel
theorem dX1_isSame_30 : decode cX1_isSame 30 = .ok (.if_icmp .ne 60, 3) := by decide +kernel
theorem dX1_isSame_33 : decode cX1_isSame 33 = .ok (.aload_n 1, 1) := by decide +kernel
theorem dX1_isSame_34 : decode cX1_isSame 34 = .ok (.invokevirtual 108, 3) := by decide +kernel
theorem dX1_isSame_37 : decode cX1_isSame 37 = .ok (.aload_n 0, 1) := by decide +kernel
theorem dX1_isSame_38 : decode cX1_isSame 38 = .ok (.getfield 15, 3) := by decide +kernel
theorem dX1_isSame_41 : decode cX1_isSame 41 = .ok (.arraylength, 1) := by decide +kernel
theorem dX1_isSame_42 : decode cX1_isSame 42 = .ok (.if_icmp .ne 48, 3) := by decide +kernel
theorem dX1_isSame_45 : decode cX1_isSame 45 = .ok (.aload_n 1, 1) := by decide +kernel
theorem dX1_isSame_46 : decode cX1_isSame 46 = .ok (.invokevirtual 110, 3) := by decide +kernel
theorem dX1_isSame_49 : decode cX1_isSame 49 = .ok (.aload_n 0, 1) := by decide +kernel
theorem dX1_isSame_50 : decode cX1_isSame 50 = .ok (.invokevirtual 62, 3) := by decide +kernel
theorem dX1_isSame_53 : decode cX1_isSame 53 = .ok (.if_icmp .ne 37, 3) := by decide +kernel
theorem dX1_isSame_56 : decode cX1_isSame 56 = .ok (.aload_n 1, 1) := by decide +kernel
theorem dX1_isSame_57 : decode cX1_isSame 57 = .ok (.invokevirtual 111, 3) := by decide +kernel
theorem dX1_isSame_60 : decode cX1_isSame 60 = .ok (.aload_n 0, 1) := by decide +kernel
theorem dX1_isSame_61 : decode cX1_isSame 61 = .ok (.getfield 29, 3) := by decide +kernel
theorem dX1_isSame_64 : decode cX1_isSame 64 = .ok (.if_icmp .ne 26, 3) := by decide +kernel
theorem dX1_isSame_67 : decode cX1_isSame 67 = .ok (.aload_n 1, 1) := by decide +kernel
theorem dX1_isSame_68 : decode cX1_isSame 68 = .ok (.invokevirtual 113, 3) := by decide +kernel
theorem dX1_isSame_71 : decode cX1_isSame 71 = .ok (.aload_n 0, 1) := by decide +kernel
theorem dX1_isSame_72 : decode cX1_isSame 72 = .ok (.getfield 40, 3) := by decide +kernel
theorem dX1_isSame_75 : decode cX1_isSame 75 = .ok (.if_icmp .ne 15, 3) := by decide +kernel
theorem dX1_isSame_78 : decode cX1_isSame 78 = .ok (.aload_n 1, 1) := by decide +kernel
theorem dX1_isSame_79 : decode cX1_isSame 79 = .ok (.invokevirtual 115, 3) := by decide +kernel
theorem dX1_isSame_82 : decode cX1_isSame 82 = .ok (.aload_n 0, 1) := by decide +kernel
theorem dX1_isSame_83 : decode cX1_isSame 83 = .ok (.getfield 18, 3) := by decide +kernel
theorem dX1_isSame_86 : decode cX1_isSame 86 = .ok (.arraylength, 1) := by decide +kernel
theorem dX1_isSame_87 : decode cX1_isSame 87 = .ok (.if_icmp .eq 5, 3) := by decide +kernel
theorem dX1_isSame_90 : decode cX1_isSame 90 = .ok (.iconst 0, 1) := by decide +kernel
theorem dX1_isSame_91 : decode cX1_isSame 91 = .ok (.ireturn, 1) := by decide +kernel
theorem dX1_isSame_92 : decode cX1_isSame 92 = .ok (.iload_n 2, 1) := by decide +kernel
theorem dX1_isSame_93 : decode cX1_isSame 93 = .ok (.newarray .int, 2) := by decide +kernel
theorem dX1_isSame_95 : decode cX1_isSame 95 = .ok (.astore 6, 2) := by decide +kernel
theorem dX1_isSame_97 : decode cX1_isSame 97 = .ok (.iload_n 2, 1) := by decide +kernel
theorem dX1_isSame_98 : decode cX1_isSame 98 = .ok (.newarray .int, 2) := by decide +kernel
theorem dX1_isSame_100 : decode cX1_isSame 100 = .ok (.astore 7, 2) := by decide +kernel
theorem dX1_isSame_102 : decode cX1_isSame 102 = .ok (.iconst 0, 1) := by decide +kernel
theorem dX1_isSame_103 : decode cX1_isSame 103 = .ok (.istore 8, 2) := by decide +kernel
theorem dX1_isSame_105 : decode cX1_isSame 105 = .ok (.iconst 0, 1) := by decide +kernel
theorem dX1_isSame_106 : decode cX1_isSame 106 = .ok (.istore 9, 2) := by decide +kernel
theorem dX1_isSame_108 : decode cX1_isSame 108 = .ok (.iload 9, 2) := by decide +kernel
theorem dX1_isSame_110 : decode cX1_isSame 110 = .ok (.aload_n 0, 1) := by decide +kernel
theorem dX1_isSame_111 : decode cX1_isSame 111 = .ok (.getfield 18, 3) := by decide +kernel
theorem dX1_isSame_114 : decode cX1_isSame 114 = .ok (.arraylength, 1) := by decide +kernel
theorem dX1_isSame_115 : decode cX1_isSame 115 = .ok (.if_icmp .ge 143, 3) := by decide +kernel
theorem dX1_isSame_118 : decode cX1_isSame 118 = .ok (.aload_n 0, 1) := by decide +kernel
theorem dX1_isSame_119 : decode cX1_isSame 119 = .ok (.getfield 18, 3) := by decide +kernel
theorem dX1_isSame_122 : decode cX1_isSame 122 = .ok (.iload 9, 2) := by decide +kernel
theorem dX1_isSame_124 : decode cX1_isSame 124 = .ok (.aaload, 1) := by decide +kernel
theorem dX1_isSame_125 : decode cX1_isSame 125 = .ok (.astore 10, 2) := by decide +kernel
theorem dX1_isSame_127 : decode cX1_isSame 127 = .ok (.aload 6, 2) := by decide +kernel
theorem dX1_isSame_129 : decode cX1_isSame 129 = .ok (.aload 10, 2) := by decide +kernel
theorem dX1_isSame_131 : decode cX1_isSame 131 = .ok (.iconst 0, 1) := by decide +kernel
theorem dX1_isSame_132 : decode cX1_isSame 132 = .ok (.iaload, 1) := by decide +kernel
theorem dX1_isSame_133 : decode cX1_isSame 133 = .ok (.dup2, 1) := by decide +kernel
theorem dX1_isSame_134 : decode cX1_isSame 134 = .ok (.iaload, 1) := by decide +kernel
theorem dX1_isSame_135 : decode cX1_isSame 135 = .ok (.iconst 1, 1) := by decide +kernel
theorem dX1_isSame_136 : decode cX1_isSame 136 = .ok (.iadd, 1) := by decide +kernel
theorem dX1_isSame_137 : decode cX1_isSame 137 = .ok (.iastore, 1) := by decide +kernel
theorem dX1_isSame_138 : decode cX1_isSame 138 = .ok (.iload 8, 2) := by decide +kernel
theorem dX1_isSame_140 : decode cX1_isSame 140 = .ok (.aload 10, 2) := by decide +kernel
theorem dX1_isSame_142 : decode cX1_isSame 142 = .ok (.iconst 1, 1) := by decide +kernel
theorem dX1_isSame_143 : decode cX1_isSame 143 = .ok (.iaload, 1) := by decide +kernel
theorem dX1_isSame_144 : decode cX1_isSame 144 = .ok (.ifCond .le 7, 3) := by decide +kernel
theorem dX1_isSame_147 : decode cX1_isSame 147 = .ok (.iconst 1, 1) := by decide +kernel
theorem dX1_isSame_148 : decode cX1_isSame 148 = .ok (.goto 4, 3) := by decide +kernel
theorem dX1_isSame_151 : decode cX1_isSame 151 = .ok (.iconst 0, 1) := by decide +kernel
theorem dX1_isSame_152 : decode cX1_isSame 152 = .ok (.iadd, 1) := by decide +kernel
theorem dX1_isSame_153 : decode cX1_isSame 153 = .ok (.istore 8, 2) := by decide +kernel
theorem dX1_isSame_155 : decode cX1_isSame 155 = .ok (.aload 10, 2) := by decide +kernel
theorem dX1_isSame_157 : decode cX1_isSame 157 = .ok (.iconst 1, 1) := by decide +kernel
theorem dX1_isSame_158 : decode cX1_isSame 158 = .ok (.iaload, 1) := by decide +kernel
theorem dX1_isSame_159 : decode cX1_isSame 159 = .ok (.ifCond .le 38, 3) := by decide +kernel
theorem dX1_isSame_162 : decode cX1_isSame 162 = .ok (.aload 7, 2) := by decide +kernel
theorem dX1_isSame_164 : decode cX1_isSame 164 = .ok (.aload 10, 2) := by decide +kernel
theorem dX1_isSame_166 : decode cX1_isSame 166 = .ok (.iconst 0, 1) := by decide +kernel
theorem dX1_isSame_167 : decode cX1_isSame 167 = .ok (.iaload, 1) := by decide +kernel
theorem dX1_isSame_168 : decode cX1_isSame 168 = .ok (.iaload, 1) := by decide +kernel
theorem dX1_isSame_169 : decode cX1_isSame 169 = .ok (.ifCond .eq 17, 3) := by decide +kernel
theorem dX1_isSame_172 : decode cX1_isSame 172 = .ok (.aload 10, 2) := by decide +kernel
theorem dX1_isSame_174 : decode cX1_isSame 174 = .ok (.iconst 1, 1) := by decide +kernel
theorem dX1_isSame_175 : decode cX1_isSame 175 = .ok (.iaload, 1) := by decide +kernel
theorem dX1_isSame_176 : decode cX1_isSame 176 = .ok (.aload 7, 2) := by decide +kernel
theorem dX1_isSame_178 : decode cX1_isSame 178 = .ok (.aload 10, 2) := by decide +kernel
theorem dX1_isSame_180 : decode cX1_isSame 180 = .ok (.iconst 0, 1) := by decide +kernel
theorem dX1_isSame_181 : decode cX1_isSame 181 = .ok (.iaload, 1) := by decide +kernel
theorem dX1_isSame_182 : decode cX1_isSame 182 = .ok (.iaload, 1) := by decide +kernel
theorem dX1_isSame_183 : decode cX1_isSame 183 = .ok (.if_icmp .ge 14, 3) := by decide +kernel
theorem dX1_isSame_186 : decode cX1_isSame 186 = .ok (.aload 7, 2) := by decide +kernel
theorem dX1_isSame_188 : decode cX1_isSame 188 = .ok (.aload 10, 2) := by decide +kernel
theorem dX1_isSame_190 : decode cX1_isSame 190 = .ok (.iconst 0, 1) := by decide +kernel
theorem dX1_isSame_191 : decode cX1_isSame 191 = .ok (.iaload, 1) := by decide +kernel
theorem dX1_isSame_192 : decode cX1_isSame 192 = .ok (.aload 10, 2) := by decide +kernel
theorem dX1_isSame_194 : decode cX1_isSame 194 = .ok (.iconst 1, 1) := by decide +kernel
theorem dX1_isSame_195 : decode cX1_isSame 195 = .ok (.iaload, 1) := by decide +kernel
theorem dX1_isSame_196 : decode cX1_isSame 196 = .ok (.iastore, 1) := by decide +kernel
theorem dX1_isSame_197 : decode cX1_isSame 197 = .ok (.aload_n 1, 1) := by decide +kernel
theorem dX1_isSame_198 : decode cX1_isSame 198 = .ok (.iload 9, 2) := by decide +kernel
theorem dX1_isSame_200 : decode cX1_isSame 200 = .ok (.invokevirtual 117, 3) := by decide +kernel
theorem dX1_isSame_203 : decode cX1_isSame 203 = .ok (.aload 10, 2) := by decide +kernel
theorem dX1_isSame_205 : decode cX1_isSame 205 = .ok (.iconst 0, 1) := by decide +kernel
theorem dX1_isSame_206 : decode cX1_isSame 206 = .ok (.iaload, 1) := by decide +kernel
theorem dX1_isSame_207 : decode cX1_isSame 207 = .ok (.if_icmp .ne 43, 3) := by decide +kernel
theorem dX1_isSame_210 : decode cX1_isSame 210 = .ok (.aload_n 1, 1) := by decide +kernel
theorem dX1_isSame_211 : decode cX1_isSame 211 = .ok (.iload 9, 2) := by decide +kernel
theorem dX1_isSame_213 : decode cX1_isSame 213 = .ok (.invokevirtual 120, 3) := by decide +kernel
theorem dX1_isSame_216 : decode cX1_isSame 216 = .ok (.aload 10, 2) := by decide +kernel
theorem dX1_isSame_218 : decode cX1_isSame 218 = .ok (.iconst 1, 1) := by decide +kernel
theorem dX1_isSame_219 : decode cX1_isSame 219 = .ok (.iaload, 1) := by decide +kernel
theorem dX1_isSame_220 : decode cX1_isSame 220 = .ok (.if_icmp .ne 30, 3) := by decide +kernel
theorem dX1_isSame_223 : decode cX1_isSame 223 = .ok (.iload 9, 2) := by decide +kernel
theorem dX1_isSame_225 : decode cX1_isSame 225 = .ok (.iconst 4, 1) := by decide +kernel
theorem dX1_isSame_226 : decode cX1_isSame 226 = .ok (.irem, 1) := by decide +kernel
theorem dX1_isSame_227 : decode cX1_isSame 227 = .ok (.aload_n 0, 1) := by decide +kernel
theorem dX1_isSame_228 : decode cX1_isSame 228 = .ok (.getfield 59, 3) := by decide +kernel
theorem dX1_isSame_231 : decode cX1_isSame 231 = .ok (.iconst 4, 1) := by decide +kernel
theorem dX1_isSame_232 : decode cX1_isSame 232 = .ok (.irem, 1) := by decide +kernel
theorem dX1_isSame_233 : decode cX1_isSame 233 = .ok (.if_icmp .ne 19, 3) := by decide +kernel
theorem dX1_isSame_236 : decode cX1_isSame 236 = .ok (.aload_n 1, 1) := by decide +kernel
theorem dX1_isSame_237 : decode cX1_isSame 237 = .ok (.iload 9, 2) := by decide +kernel
theorem dX1_isSame_239 : decode cX1_isSame 239 = .ok (.invokevirtual 123, 3) := by decide +kernel
theorem dX1_isSame_242 : decode cX1_isSame 242 = .ok (.aload 10, 2) := by decide +kernel
theorem dX1_isSame_244 : decode cX1_isSame 244 = .ok (.invokestatic 126, 3) := by decide +kernel
theorem dX1_isSame_247 : decode cX1_isSame 247 = .ok (.if_icmp .eq 5, 3) := by decide +kernel
theorem dX1_isSame_250 : decode cX1_isSame 250 = .ok (.iconst 0, 1) := by decide +kernel
theorem dX1_isSame_251 : decode cX1_isSame 251 = .ok (.ireturn, 1) := by decide +kernel
theorem dX1_isSame_252 : decode cX1_isSame 252 = .ok (.iinc 9 1, 3) := by decide +kernel
theorem dX1_isSame_255 : decode cX1_isSame 255 = .ok (.goto (-147), 3) := by decide +kernel
theorem dX1_isSame_258 : decode cX1_isSame 258 = .ok (.iconst 0, 1) := by decide +kernel
theorem dX1_isSame_259 : decode cX1_isSame 259 = .ok (.istore 9, 2) := by decide +kernel
theorem dX1_isSame_261 : decode cX1_isSame 261 = .ok (.iload 9, 2) := by decide +kernel
theorem dX1_isSame_263 : decode cX1_isSame 263 = .ok (.iload_n 2, 1) := by decide +kernel
theorem dX1_isSame_264 : decode cX1_isSame 264 = .ok (.if_icmp .ge 205, 3) := by decide +kernel
theorem dX1_isSame_267 : decode cX1_isSame 267 = .ok (.aload_n 0, 1) := by decide +kernel
theorem dX1_isSame_268 : decode cX1_isSame 268 = .ok (.getfield 9, 3) := by decide +kernel
theorem dX1_isSame_271 : decode cX1_isSame 271 = .ok (.iload 9, 2) := by decide +kernel
theorem dX1_isSame_273 : decode cX1_isSame 273 = .ok (.aaload, 1) := by decide +kernel
theorem dX1_isSame_274 : decode cX1_isSame 274 = .ok (.astore 10, 2) := by decide +kernel
theorem dX1_isSame_276 : decode cX1_isSame 276 = .ok (.iload_n 3, 1) := by decide +kernel
theorem dX1_isSame_277 : decode cX1_isSame 277 = .ok (.aload 10, 2) := by decide +kernel
theorem dX1_isSame_279 : decode cX1_isSame 279 = .ok (.iconst 0, 1) := by decide +kernel
theorem dX1_isSame_280 : decode cX1_isSame 280 = .ok (.iaload, 1) := by decide +kernel
theorem dX1_isSame_281 : decode cX1_isSame 281 = .ok (.iadd, 1) := by decide +kernel
theorem dX1_isSame_282 : decode cX1_isSame 282 = .ok (.istore_n 3, 1) := by decide +kernel
theorem dX1_isSame_283 : decode cX1_isSame 283 = .ok (.iload 4, 2) := by decide +kernel
theorem dX1_isSame_285 : decode cX1_isSame 285 = .ok (.aload 10, 2) := by decide +kernel
theorem dX1_isSame_287 : decode cX1_isSame 287 = .ok (.iconst 0, 1) := by decide +kernel
theorem dX1_isSame_288 : decode cX1_isSame 288 = .ok (.iaload, 1) := by decide +kernel
theorem dX1_isSame_289 : decode cX1_isSame 289 = .ok (.aload 10, 2) := by decide +kernel
theorem dX1_isSame_291 : decode cX1_isSame 291 = .ok (.iconst 1, 1) := by decide +kernel
theorem dX1_isSame_292 : decode cX1_isSame 292 = .ok (.iaload, 1) := by decide +kernel
theorem dX1_isSame_293 : decode cX1_isSame 293 = .ok (.imul, 1) := by decide +kernel
theorem dX1_isSame_294 : decode cX1_isSame 294 = .ok (.iadd, 1) := by decide +kernel
theorem dX1_isSame_295 : decode cX1_isSame 295 = .ok (.istore 4, 2) := by decide +kernel
theorem dX1_isSame_297 : decode cX1_isSame 297 = .ok (.aload 10, 2) := by decide +kernel
theorem dX1_isSame_299 : decode cX1_isSame 299 = .ok (.iconst 0, 1) := by decide +kernel
theorem dX1_isSame_300 : decode cX1_isSame 300 = .ok (.iaload, 1) := by decide +kernel
theorem dX1_isSame_301 : decode cX1_isSame 301 = .ok (.iconst 1, 1) := by decide +kernel
theorem dX1_isSame_302 : decode cX1_isSame 302 = .ok (.if_icmp .ne 28, 3) := by decide +kernel
theorem dX1_isSame_305 : decode cX1_isSame 305 = .ok (.iload 5, 2) := by decide +kernel
theorem dX1_isSame_307 : decode cX1_isSame 307 = .ok (.ifCond .lt 19, 3) := by decide +kernel
theorem dX1_isSame_310 : decode cX1_isSame 310 = .ok (.aload 10, 2) := by decide +kernel
theorem dX1_isSame_312 : decode cX1_isSame 312 = .ok (.iconst 1, 1) := by decide +kernel
theorem dX1_isSame_313 : decode cX1_isSame 313 = .ok (.iaload, 1) := by decide +kernel
theorem dX1_isSame_314 : decode cX1_isSame 314 = .ok (.aload_n 0, 1) := by decide +kernel
theorem dX1_isSame_315 : decode cX1_isSame 315 = .ok (.getfield 9, 3) := by decide +kernel
theorem dX1_isSame_318 : decode cX1_isSame 318 = .ok (.iload 5, 2) := by decide +kernel
theorem dX1_isSame_320 : decode cX1_isSame 320 = .ok (.aaload, 1) := by decide +kernel
theorem dX1_isSame_321 : decode cX1_isSame 321 = .ok (.iconst 1, 1) := by decide +kernel
theorem dX1_isSame_322 : decode cX1_isSame 322 = .ok (.iaload, 1) := by decide +kernel
theorem dX1_isSame_323 : decode cX1_isSame 323 = .ok (.if_icmp .le 7, 3) := by decide +kernel
theorem dX1_isSame_326 : decode cX1_isSame 326 = .ok (.iload 9, 2) := by decide +kernel
theorem dX1_isSame_328 : decode cX1_isSame 328 = .ok (.istore 5, 2) := by decide +kernel
theorem dX1_isSame_330 : decode cX1_isSame 330 = .ok (.aload_n 1, 1) := by decide +kernel
theorem dX1_isSame_331 : decode cX1_isSame 331 = .ok (.iload 9, 2) := by decide +kernel
theorem dX1_isSame_333 : decode cX1_isSame 333 = .ok (.invokevirtual 129, 3) := by decide +kernel
theorem dX1_isSame_336 : decode cX1_isSame 336 = .ok (.aload 10, 2) := by decide +kernel
theorem dX1_isSame_338 : decode cX1_isSame 338 = .ok (.iconst 0, 1) := by decide +kernel
theorem dX1_isSame_339 : decode cX1_isSame 339 = .ok (.iaload, 1) := by decide +kernel
theorem dX1_isSame_340 : decode cX1_isSame 340 = .ok (.iconst 1, 1) := by decide +kernel
theorem dX1_isSame_341 : decode cX1_isSame 341 = .ok (.if_icmp .ne 7, 3) := by decide +kernel
theorem dX1_isSame_344 : decode cX1_isSame 344 = .ok (.iconst 1, 1) := by decide +kernel
theorem dX1_isSame_345 : decode cX1_isSame 345 = .ok (.goto 4, 3) := by decide +kernel
theorem dX1_isSame_348 : decode cX1_isSame 348 = .ok (.iconst 0, 1) := by decide +kernel
theorem dX1_isSame_349 : decode cX1_isSame 349 = .ok (.if_icmp .ne 112, 3) := by decide +kernel
theorem dX1_isSame_352 : decode cX1_isSame 352 = .ok (.aload_n 1, 1) := by decide +kernel
theorem dX1_isSame_353 : decode cX1_isSame 353 = .ok (.iload 9, 2) := by decide +kernel
theorem dX1_isSame_355 : decode cX1_isSame 355 = .ok (.invokevirtual 133, 3) := by decide +kernel
theorem dX1_isSame_358 : decode cX1_isSame 358 = .ok (.aload 10, 2) := by decide +kernel
theorem dX1_isSame_360 : decode cX1_isSame 360 = .ok (.iconst 1, 1) := by decide +kernel
theorem dX1_isSame_361 : decode cX1_isSame 361 = .ok (.iaload, 1) := by decide +kernel
theorem dX1_isSame_362 : decode cX1_isSame 362 = .ok (.if_icmp .ne 99, 3) := by decide +kernel
theorem dX1_isSame_365 : decode cX1_isSame 365 = .ok (.aload_n 1, 1) := by decide +kernel
theorem dX1_isSame_366 : decode cX1_isSame 366 = .ok (.iload 9, 2) := by decide +kernel
theorem dX1_isSame_368 : decode cX1_isSame 368 = .ok (.invokevirtual 136, 3) := by decide +kernel
theorem dX1_isSame_371 : decode cX1_isSame 371 = .ok (.aload 10, 2) := by decide +kernel
theorem dX1_isSame_373 : decode cX1_isSame 373 = .ok (.iconst 2, 1) := by decide +kernel
theorem dX1_isSame_374 : decode cX1_isSame 374 = .ok (.iaload, 1) := by decide +kernel
theorem dX1_isSame_375 : decode cX1_isSame 375 = .ok (.if_icmp .ne 86, 3) := by decide +kernel
theorem dX1_isSame_378 : decode cX1_isSame 378 = .ok (.aload_n 1, 1) := by decide +kernel
theorem dX1_isSame_379 : decode cX1_isSame 379 = .ok (.iload 9, 2) := by decide +kernel
theorem dX1_isSame_381 : decode cX1_isSame 381 = .ok (.invokevirtual 139, 3) := by decide +kernel
theorem dX1_isSame_384 : decode cX1_isSame 384 = .ok (.aload 10, 2) := by decide +kernel
theorem dX1_isSame_386 : decode cX1_isSame 386 = .ok (.iconst 3, 1) := by decide +kernel
theorem dX1_isSame_387 : decode cX1_isSame 387 = .ok (.iaload, 1) := by decide +kernel
theorem dX1_isSame_388 : decode cX1_isSame 388 = .ok (.if_icmp .ne 73, 3) := by decide +kernel
theorem dX1_isSame_391 : decode cX1_isSame 391 = .ok (.aload_n 1, 1) := by decide +kernel
theorem dX1_isSame_392 : decode cX1_isSame 392 = .ok (.iload 9, 2) := by decide +kernel
theorem dX1_isSame_394 : decode cX1_isSame 394 = .ok (.invokevirtual 142, 3) := by decide +kernel
theorem dX1_isSame_397 : decode cX1_isSame 397 = .ok (.aload 10, 2) := by decide +kernel
theorem dX1_isSame_399 : decode cX1_isSame 399 = .ok (.iconst 4, 1) := by decide +kernel
theorem dX1_isSame_400 : decode cX1_isSame 400 = .ok (.iaload, 1) := by decide +kernel
theorem dX1_isSame_401 : decode cX1_isSame 401 = .ok (.if_icmp .ne 60, 3) := by decide +kernel
theorem dX1_isSame_404 : decode cX1_isSame 404 = .ok (.aload_n 1, 1) := by decide +kernel
theorem dX1_isSame_405 : decode cX1_isSame 405 = .ok (.iload 9, 2) := by decide +kernel
theorem dX1_isSame_407 : decode cX1_isSame 407 = .ok (.invokevirtual 145, 3) := by decide +kernel
theorem dX1_isSame_410 : decode cX1_isSame 410 = .ok (.aload_n 0, 1) := by decide +kernel
theorem dX1_isSame_411 : decode cX1_isSame 411 = .ok (.iload 9, 2) := by decide +kernel
theorem dX1_isSame_413 : decode cX1_isSame 413 = .ok (.invokevirtual 53, 3) := by decide +kernel
theorem dX1_isSame_416 : decode cX1_isSame 416 = .ok (.if_icmp .ne 45, 3) := by decide +kernel
theorem dX1_isSame_419 : decode cX1_isSame 419 = .ok (.aload_n 1, 1) := by decide +kernel
theorem dX1_isSame_420 : decode cX1_isSame 420 = .ok (.iload 9, 2) := by decide +kernel
theorem dX1_isSame_422 : decode cX1_isSame 422 = .ok (.invokevirtual 148, 3) := by decide +kernel
theorem dX1_isSame_425 : decode cX1_isSame 425 = .ok (.aload 10, 2) := by decide +kernel
theorem dX1_isSame_427 : decode cX1_isSame 427 = .ok (.invokestatic 25, 3) := by decide +kernel
theorem dX1_isSame_430 : decode cX1_isSame 430 = .ok (.if_icmp .ne 31, 3) := by decide +kernel
theorem dX1_isSame_433 : decode cX1_isSame 433 = .ok (.aload_n 1, 1) := by decide +kernel
theorem dX1_isSame_434 : decode cX1_isSame 434 = .ok (.iload 9, 2) := by decide +kernel
theorem dX1_isSame_436 : decode cX1_isSame 436 = .ok (.invokevirtual 151, 3) := by decide +kernel
theorem dX1_isSame_439 : decode cX1_isSame 439 = .ok (.aload 6, 2) := by decide +kernel
theorem dX1_isSame_441 : decode cX1_isSame 441 = .ok (.iload 9, 2) := by decide +kernel
theorem dX1_isSame_443 : decode cX1_isSame 443 = .ok (.iaload, 1) := by decide +kernel
theorem dX1_isSame_444 : decode cX1_isSame 444 = .ok (.if_icmp .ne 17, 3) := by decide +kernel
theorem dX1_isSame_447 : decode cX1_isSame 447 = .ok (.aload_n 1, 1) := by decide +kernel
theorem dX1_isSame_448 : decode cX1_isSame 448 = .ok (.iload 9, 2) := by decide +kernel
theorem dX1_isSame_450 : decode cX1_isSame 450 = .ok (.invokevirtual 154, 3) := by decide +kernel
theorem dX1_isSame_453 : decode cX1_isSame 453 = .ok (.aload 7, 2) := by decide +kernel
theorem dX1_isSame_455 : decode cX1_isSame 455 = .ok (.iload 9, 2) := by decide +kernel
theorem dX1_isSame_457 : decode cX1_isSame 457 = .ok (.iaload, 1) := by decide +kernel
theorem dX1_isSame_458 : decode cX1_isSame 458 = .ok (.if_icmp .eq 5, 3) := by decide +kernel
theorem dX1_isSame_461 : decode cX1_isSame 461 = .ok (.iconst 0, 1) := by decide +kernel
theorem dX1_isSame_462 : decode cX1_isSame 462 = .ok (.ireturn, 1) := by decide +kernel
theorem dX1_isSame_463 : decode cX1_isSame 463 = .ok (.iinc 9 1, 3) := by decide +kernel
theorem dX1_isSame_466 : decode cX1_isSame 466 = .ok (.goto (-205), 3) := by decide +kernel
theorem dX1_isSame_469 : decode cX1_isSame 469 = .ok (.iconst (-1), 1) := by decide +kernel
theorem dX1_isSame_470 : decode cX1_isSame 470 = .ok (.istore 9, 2) := by decide +kernel
theorem dX1_isSame_472 : decode cX1_isSame 472 = .ok (.iconst 0, 1) := by decide +kernel
theorem dX1_isSame_473 : decode cX1_isSame 473 = .ok (.istore 10, 2) := by decide +kernel
theorem dX1_isSame_475 : decode cX1_isSame 475 = .ok (.iload 10, 2) := by decide +kernel
theorem dX1_isSame_477 : decode cX1_isSame 477 = .ok (.aload_n 0, 1) := by decide +kernel
theorem dX1_isSame_478 : decode cX1_isSame 478 = .ok (.getfield 15, 3) := by decide +kernel
theorem dX1_isSame_481 : decode cX1_isSame 481 = .ok (.arraylength, 1) := by decide +kernel
theorem dX1_isSame_482 : decode cX1_isSame 482 = .ok (.if_icmp .ge 88, 3) := by decide +kernel
theorem dX1_isSame_485 : decode cX1_isSame 485 = .ok (.aload_n 0, 1) := by decide +kernel
theorem dX1_isSame_486 : decode cX1_isSame 486 = .ok (.getfield 15, 3) := by decide +kernel
theorem dX1_isSame_489 : decode cX1_isSame 489 = .ok (.iload 10, 2) := by decide +kernel
theorem dX1_isSame_491 : decode cX1_isSame 491 = .ok (.aaload, 1) := by decide +kernel
theorem dX1_isSame_492 : decode cX1_isSame 492 = .ok (.astore 11, 2) := by decide +kernel
theorem dX1_isSame_494 : decode cX1_isSame 494 = .ok (.aload 11, 2) := by decide +kernel
theorem dX1_isSame_496 : decode cX1_isSame 496 = .ok (.iconst 1, 1) := by decide +kernel
theorem dX1_isSame_497 : decode cX1_isSame 497 = .ok (.iaload, 1) := by decide +kernel
theorem dX1_isSame_498 : decode cX1_isSame 498 = .ok (.iconst 1, 1) := by decide +kernel
theorem dX1_isSame_499 : decode cX1_isSame 499 = .ok (.if_icmp .ne 28, 3) := by decide +kernel
theorem dX1_isSame_502 : decode cX1_isSame 502 = .ok (.iload 9, 2) := by decide +kernel
theorem dX1_isSame_504 : decode cX1_isSame 504 = .ok (.ifCond .lt 19, 3) := by decide +kernel
theorem dX1_isSame_507 : decode cX1_isSame 507 = .ok (.aload 11, 2) := by decide +kernel
theorem dX1_isSame_509 : decode cX1_isSame 509 = .ok (.iconst 0, 1) := by decide +kernel
theorem dX1_isSame_510 : decode cX1_isSame 510 = .ok (.iaload, 1) := by decide +kernel
theorem dX1_isSame_511 : decode cX1_isSame 511 = .ok (.aload_n 0, 1) := by decide +kernel
theorem dX1_isSame_512 : decode cX1_isSame 512 = .ok (.getfield 15, 3) := by decide +kernel
theorem dX1_isSame_515 : decode cX1_isSame 515 = .ok (.iload 9, 2) := by decide +kernel
theorem dX1_isSame_517 : decode cX1_isSame 517 = .ok (.aaload, 1) := by decide +kernel
theorem dX1_isSame_518 : decode cX1_isSame 518 = .ok (.iconst 0, 1) := by decide +kernel
theorem dX1_isSame_519 : decode cX1_isSame 519 = .ok (.iaload, 1) := by decide +kernel
theorem dX1_isSame_520 : decode cX1_isSame 520 = .ok (.if_icmp .le 7, 3) := by decide +kernel
theorem dX1_isSame_523 : decode cX1_isSame 523 = .ok (.iload 10, 2) := by decide +kernel
theorem dX1_isSame_525 : decode cX1_isSame 525 = .ok (.istore 9, 2) := by decide +kernel
theorem dX1_isSame_527 : decode cX1_isSame 527 = .ok (.aload_n 1, 1) := by decide +kernel
theorem dX1_isSame_528 : decode cX1_isSame 528 = .ok (.iload 10, 2) := by decide +kernel
theorem dX1_isSame_530 : decode cX1_isSame 530 = .ok (.invokevirtual 157, 3) := by decide +kernel
theorem dX1_isSame_533 : decode cX1_isSame 533 = .ok (.aload 11, 2) := by decide +kernel
theorem dX1_isSame_535 : decode cX1_isSame 535 = .ok (.iconst 0, 1) := by decide +kernel
theorem dX1_isSame_536 : decode cX1_isSame 536 = .ok (.iaload, 1) := by decide +kernel
theorem dX1_isSame_537 : decode cX1_isSame 537 = .ok (.if_icmp .ne 25, 3) := by decide +kernel
theorem dX1_isSame_540 : decode cX1_isSame 540 = .ok (.aload_n 1, 1) := by decide +kernel
theorem dX1_isSame_541 : decode cX1_isSame 541 = .ok (.iload 10, 2) := by decide +kernel
theorem dX1_isSame_543 : decode cX1_isSame 543 = .ok (.invokevirtual 160, 3) := by decide +kernel
theorem dX1_isSame_546 : decode cX1_isSame 546 = .ok (.aload 11, 2) := by decide +kernel
theorem dX1_isSame_548 : decode cX1_isSame 548 = .ok (.iconst 1, 1) := by decide +kernel
theorem dX1_isSame_549 : decode cX1_isSame 549 = .ok (.iaload, 1) := by decide +kernel
theorem dX1_isSame_550 : decode cX1_isSame 550 = .ok (.iconst 1, 1) := by decide +kernel
theorem dX1_isSame_551 : decode cX1_isSame 551 = .ok (.if_icmp .ne 7, 3) := by decide +kernel
theorem dX1_isSame_554 : decode cX1_isSame 554 = .ok (.iconst 1, 1) := by decide +kernel
theorem dX1_isSame_555 : decode cX1_isSame 555 = .ok (.goto 4, 3) := by decide +kernel
theorem dX1_isSame_558 : decode cX1_isSame 558 = .ok (.iconst 0, 1) := by decide +kernel
theorem dX1_isSame_559 : decode cX1_isSame 559 = .ok (.if_icmp .eq 5, 3) := by decide +kernel
theorem dX1_isSame_562 : decode cX1_isSame 562 = .ok (.iconst 0, 1) := by decide +kernel
theorem dX1_isSame_563 : decode cX1_isSame 563 = .ok (.ireturn, 1) := by decide +kernel
theorem dX1_isSame_564 : decode cX1_isSame 564 = .ok (.iinc 10 1, 3) := by decide +kernel
theorem dX1_isSame_567 : decode cX1_isSame 567 = .ok (.goto (-92), 3) := by decide +kernel
theorem dX1_isSame_570 : decode cX1_isSame 570 = .ok (.aload_n 1, 1) := by decide +kernel
theorem dX1_isSame_571 : decode cX1_isSame 571 = .ok (.invokevirtual 163, 3) := by decide +kernel
theorem dX1_isSame_574 : decode cX1_isSame 574 = .ok (.iload_n 3, 1) := by decide +kernel
theorem dX1_isSame_575 : decode cX1_isSame 575 = .ok (.if_icmp .ne 56, 3) := by decide +kernel
theorem dX1_isSame_578 : decode cX1_isSame 578 = .ok (.aload_n 1, 1) := by decide +kernel
theorem dX1_isSame_579 : decode cX1_isSame 579 = .ok (.invokevirtual 166, 3) := by decide +kernel
theorem dX1_isSame_582 : decode cX1_isSame 582 = .ok (.iload 8, 2) := by decide +kernel
theorem dX1_isSame_584 : decode cX1_isSame 584 = .ok (.if_icmp .ne 47, 3) := by decide +kernel
theorem dX1_isSame_587 : decode cX1_isSame 587 = .ok (.aload_n 1, 1) := by decide +kernel
theorem dX1_isSame_588 : decode cX1_isSame 588 = .ok (.invokevirtual 169, 3) := by decide +kernel
theorem dX1_isSame_591 : decode cX1_isSame 591 = .ok (.iload 9, 2) := by decide +kernel
theorem dX1_isSame_593 : decode cX1_isSame 593 = .ok (.if_icmp .ne 38, 3) := by decide +kernel
theorem dX1_isSame_596 : decode cX1_isSame 596 = .ok (.aload_n 1, 1) := by decide +kernel
theorem dX1_isSame_597 : decode cX1_isSame 597 = .ok (.invokevirtual 172, 3) := by decide +kernel
theorem dX1_isSame_600 : decode cX1_isSame 600 = .ok (.iload 5, 2) := by decide +kernel
theorem dX1_isSame_602 : decode cX1_isSame 602 = .ok (.if_icmp .ne 29, 3) := by decide +kernel
theorem dX1_isSame_605 : decode cX1_isSame 605 = .ok (.aload_n 1, 1) := by decide +kernel
theorem dX1_isSame_606 : decode cX1_isSame 606 = .ok (.invokevirtual 175, 3) := by decide +kernel
theorem dX1_isSame_609 : decode cX1_isSame 609 = .ok (.iload_n 3, 1) := by decide +kernel
theorem dX1_isSame_610 : decode cX1_isSame 610 = .ok (.ifCond .ne 7, 3) := by decide +kernel
theorem dX1_isSame_613 : decode cX1_isSame 613 = .ok (.dconst 0, 1) := by decide +kernel
theorem dX1_isSame_614 : decode cX1_isSame 614 = .ok (.goto 9, 3) := by decide +kernel
theorem dX1_isSame_617 : decode cX1_isSame 617 = .ok (.iload 4, 2) := by decide +kernel
theorem dX1_isSame_619 : decode cX1_isSame 619 = .ok (.i2d, 1) := by decide +kernel
theorem dX1_isSame_620 : decode cX1_isSame 620 = .ok (.iload_n 3, 1) := by decide +kernel
theorem dX1_isSame_621 : decode cX1_isSame 621 = .ok (.i2d, 1) := by decide +kernel
theorem dX1_isSame_622 : decode cX1_isSame 622 = .ok (.ddiv, 1) := by decide +kernel
theorem dX1_isSame_623 : decode cX1_isSame 623 = .ok (.dcmp .l, 1) := by decide +kernel
theorem dX1_isSame_624 : decode cX1_isSame 624 = .ok (.ifCond .ne 7, 3) := by decide +kernel
theorem dX1_isSame_627 : decode cX1_isSame 627 = .ok (.iconst 1, 1) := by decide +kernel
theorem dX1_isSame_628 : decode cX1_isSame 628 = .ok (.goto 4, 3) := by decide +kernel
theorem dX1_isSame_631 : decode cX1_isSame 631 = .ok (.iconst 0, 1) := by decide +kernel
theorem dX1_isSame_632 : decode cX1_isSame 632 = .ok (.ireturn, 1) := by decide +kernel

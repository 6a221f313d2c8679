/-! decode rows: the reference -/
theorem dX1_init_0 : decode cX1_init 0 = .ok (.aload_n 0, 1) := by decide +kernel
theorem dX1_init_1 : decode cX1_init 1 = .ok (.invokespecial 1, 3) := by decide +kernel
theorem dX1_init_4 : decode cX1_init 4 = .ok (.aload_n 0, 1) := by decide +kernel
theorem dX1_init_5 : decode cX1_init 5 = .ok (.bipush 10, 2) := by decide +kernel
theorem dX1_init_7 : decode cX1_init 7 = .ok (.newarray .boolean, 2) := by decide +kernel
theorem dX1_init_9 : decode cX1_init 9 = .ok (.putfield 9, 3) := by decide +kernel
theorem dX1_init_12 : decode cX1_init 12 = .ok (.aload_n 0, 1) := by decide +kernel
theorem dX1_init_13 : decode cX1_init 13 = .ok (.bipush 10, 2) := by decide +kernel
theorem dX1_init_15 : decode cX1_init 15 = .ok (.newarray .int, 2) := by decide +kernel
theorem dX1_init_17 : decode cX1_init 17 = .ok (.putfield 13, 3) := by decide +kernel
theorem dX1_init_20 : decode cX1_init 20 = .ok (.aload_n 0, 1) := by decide +kernel
theorem dX1_init_21 : decode cX1_init 21 = .ok (.bipush 10, 2) := by decide +kernel
theorem dX1_init_23 : decode cX1_init 23 = .ok (.newarray .int, 2) := by decide +kernel
theorem dX1_init_25 : decode cX1_init 25 = .ok (.putfield 17, 3) := by decide +kernel
theorem dX1_init_28 : decode cX1_init 28 = .ok (.aload_n 0, 1) := by decide +kernel
theorem dX1_init_29 : decode cX1_init 29 = .ok (.bipush 10, 2) := by decide +kernel
theorem dX1_init_31 : decode cX1_init 31 = .ok (.newarray .int, 2) := by decide +kernel
theorem dX1_init_33 : decode cX1_init 33 = .ok (.putfield 20, 3) := by decide +kernel
theorem dX1_init_36 : decode cX1_init 36 = .ok (.aload_n 0, 1) := by decide +kernel
theorem dX1_init_37 : decode cX1_init 37 = .ok (.bipush 10, 2) := by decide +kernel
theorem dX1_init_39 : decode cX1_init 39 = .ok (.newarray .int, 2) := by decide +kernel
theorem dX1_init_41 : decode cX1_init 41 = .ok (.putfield 23, 3) := by decide +kernel
theorem dX1_init_44 : decode cX1_init 44 = .ok (.aload_n 0, 1) := by decide +kernel
theorem dX1_init_45 : decode cX1_init 45 = .ok (.bipush 6, 2) := by decide +kernel
theorem dX1_init_47 : decode cX1_init 47 = .ok (.newarray .int, 2) := by decide +kernel
theorem dX1_init_49 : decode cX1_init 49 = .ok (.putfield 26, 3) := by decide +kernel
theorem dX1_init_52 : decode cX1_init 52 = .ok (.aload_n 0, 1) := by decide +kernel
theorem dX1_init_53 : decode cX1_init 53 = .ok (.bipush 6, 2) := by decide +kernel
theorem dX1_init_55 : decode cX1_init 55 = .ok (.newarray .boolean, 2) := by decide +kernel
theorem dX1_init_57 : decode cX1_init 57 = .ok (.putfield 29, 3) := by decide +kernel
theorem dX1_init_60 : decode cX1_init 60 = .ok (.aload_n 0, 1) := by decide +kernel
theorem dX1_init_61 : decode cX1_init 61 = .ok (.bipush 60, 2) := by decide +kernel
theorem dX1_init_63 : decode cX1_init 63 = .ok (.newarray .int, 2) := by decide +kernel
theorem dX1_init_65 : decode cX1_init 65 = .ok (.putfield 32, 3) := by decide +kernel
theorem dX1_init_68 : decode cX1_init 68 = .ok (.aload_n 0, 1) := by decide +kernel
theorem dX1_init_69 : decode cX1_init 69 = .ok (.bipush 60, 2) := by decide +kernel
theorem dX1_init_71 : decode cX1_init 71 = .ok (.newarray .int, 2) := by decide +kernel
theorem dX1_init_73 : decode cX1_init 73 = .ok (.putfield 35, 3) := by decide +kernel
theorem dX1_init_76 : decode cX1_init 76 = .ok (.return_, 1) := by decide +kernel
theorem dX1_thrown_0 : decode cX1_thrown 0 = .ok (.aload_n 0, 1) := by decide +kernel
theorem dX1_thrown_1 : decode cX1_thrown 1 = .ok (.getfield 38, 3) := by decide +kernel
theorem dX1_thrown_4 : decode cX1_thrown 4 = .ok (.ireturn, 1) := by decide +kernel
theorem dX1_fail_0 : decode cX1_fail 0 = .ok (.aload_n 0, 1) := by decide +kernel
theorem dX1_fail_1 : decode cX1_fail 1 = .ok (.iload_n 1, 1) := by decide +kernel
theorem dX1_fail_2 : decode cX1_fail 2 = .ok (.putfield 38, 3) := by decide +kernel
theorem dX1_fail_5 : decode cX1_fail 5 = .ok (.iconst 0, 1) := by decide +kernel
theorem dX1_fail_6 : decode cX1_fail 6 = .ok (.ireturn, 1) := by decide +kernel
theorem dX1_told_0 : decode cX1_told 0 = .ok (.aload_n 0, 1) := by decide +kernel
theorem dX1_told_1 : decode cX1_told 1 = .ok (.iconst 0, 1) := by decide +kernel
theorem dX1_told_2 : decode cX1_told 2 = .ok (.putfield 38, 3) := by decide +kernel
theorem dX1_told_5 : decode cX1_told 5 = .ok (.iload_n 1, 1) := by decide +kernel
theorem dX1_told_6 : decode cX1_told 6 = .ok (.ireturn, 1) := by decide +kernel
theorem dX1_isIn_0 : decode cX1_isIn 0 = .ok (.iload_n 0, 1) := by decide +kernel
theorem dX1_isIn_1 : decode cX1_isIn 1 = .ok (.iload_n 1, 1) := by decide +kernel
theorem dX1_isIn_2 : decode cX1_isIn 2 = .ok (.if_icmp .lt 12, 3) := by decide +kernel
theorem dX1_isIn_5 : decode cX1_isIn 5 = .ok (.iload_n 0, 1) := by decide +kernel
theorem dX1_isIn_6 : decode cX1_isIn 6 = .ok (.iload_n 2, 1) := by decide +kernel
theorem dX1_isIn_7 : decode cX1_isIn 7 = .ok (.if_icmp .gt 7, 3) := by decide +kernel
theorem dX1_isIn_10 : decode cX1_isIn 10 = .ok (.iconst 1, 1) := by decide +kernel
theorem dX1_isIn_11 : decode cX1_isIn 11 = .ok (.goto 4, 3) := by decide +kernel
theorem dX1_isIn_14 : decode cX1_isIn 14 = .ok (.iconst 0, 1) := by decide +kernel
theorem dX1_isIn_15 : decode cX1_isIn 15 = .ok (.ireturn, 1) := by decide +kernel
theorem dX1_isPerson_0 : decode cX1_isPerson 0 = .ok (.iload_n 1, 1) := by decide +kernel
theorem dX1_isPerson_1 : decode cX1_isPerson 1 = .ok (.iconst 0, 1) := by decide +kernel
theorem dX1_isPerson_2 : decode cX1_isPerson 2 = .ok (.aload_n 0, 1) := by decide +kernel
theorem dX1_isPerson_3 : decode cX1_isPerson 3 = .ok (.getfield 42, 3) := by decide +kernel
theorem dX1_isPerson_6 : decode cX1_isPerson 6 = .ok (.iconst 1, 1) := by decide +kernel
theorem dX1_isPerson_7 : decode cX1_isPerson 7 = .ok (.isub, 1) := by decide +kernel
theorem dX1_isPerson_8 : decode cX1_isPerson 8 = .ok (.invokestatic 45, 3) := by decide +kernel
theorem dX1_isPerson_11 : decode cX1_isPerson 11 = .ok (.ireturn, 1) := by decide +kernel
theorem dX1_isWitness_0 : decode cX1_isWitness 0 = .ok (.iload_n 1, 1) := by decide +kernel
theorem dX1_isWitness_1 : decode cX1_isWitness 1 = .ok (.iconst 0, 1) := by decide +kernel
theorem dX1_isWitness_2 : decode cX1_isWitness 2 = .ok (.aload_n 0, 1) := by decide +kernel
theorem dX1_isWitness_3 : decode cX1_isWitness 3 = .ok (.getfield 49, 3) := by decide +kernel
theorem dX1_isWitness_6 : decode cX1_isWitness 6 = .ok (.iconst 1, 1) := by decide +kernel
theorem dX1_isWitness_7 : decode cX1_isWitness 7 = .ok (.isub, 1) := by decide +kernel
theorem dX1_isWitness_8 : decode cX1_isWitness 8 = .ok (.invokestatic 45, 3) := by decide +kernel
theorem dX1_isWitness_11 : decode cX1_isWitness 11 = .ok (.ireturn, 1) := by decide +kernel
theorem dX1_isMiss_0 : decode cX1_isMiss 0 = .ok (.iload_n 1, 1) := by decide +kernel
theorem dX1_isMiss_1 : decode cX1_isMiss 1 = .ok (.iconst 0, 1) := by decide +kernel
theorem dX1_isMiss_2 : decode cX1_isMiss 2 = .ok (.aload_n 0, 1) := by decide +kernel
theorem dX1_isMiss_3 : decode cX1_isMiss 3 = .ok (.getfield 52, 3) := by decide +kernel
theorem dX1_isMiss_6 : decode cX1_isMiss 6 = .ok (.iconst 1, 1) := by decide +kernel
theorem dX1_isMiss_7 : decode cX1_isMiss 7 = .ok (.isub, 1) := by decide +kernel
theorem dX1_isMiss_8 : decode cX1_isMiss 8 = .ok (.invokestatic 45, 3) := by decide +kernel
theorem dX1_isMiss_11 : decode cX1_isMiss 11 = .ok (.ireturn, 1) := by decide +kernel
theorem dX1_price_0 : decode cX1_price 0 = .ok (.iconst 5, 1) := by decide +kernel
theorem dX1_price_1 : decode cX1_price 1 = .ok (.bipush 99, 2) := by decide +kernel
theorem dX1_price_3 : decode cX1_price 3 = .ok (.aload_n 0, 1) := by decide +kernel
theorem dX1_price_4 : decode cX1_price 4 = .ok (.getfield 13, 3) := by decide +kernel
theorem dX1_price_7 : decode cX1_price 7 = .ok (.iload_n 1, 1) := by decide +kernel
theorem dX1_price_8 : decode cX1_price 8 = .ok (.iaload, 1) := by decide +kernel
theorem dX1_price_9 : decode cX1_price 9 = .ok (.isub, 1) := by decide +kernel
theorem dX1_price_10 : decode cX1_price 10 = .ok (.bipush 10, 2) := by decide +kernel
theorem dX1_price_12 : decode cX1_price 12 = .ok (.idiv, 1) := by decide +kernel
theorem dX1_price_13 : decode cX1_price 13 = .ok (.iadd, 1) := by decide +kernel
theorem dX1_price_14 : decode cX1_price 14 = .ok (.ireturn, 1) := by decide +kernel
theorem dX1_last_0 : decode cX1_last 0 = .ok (.iload_n 1, 1) := by decide +kernel
theorem dX1_last_1 : decode cX1_last 1 = .ok (.istore_n 2, 1) := by decide +kernel
theorem dX1_last_2 : decode cX1_last 2 = .ok (.iconst 0, 1) := by decide +kernel
theorem dX1_last_3 : decode cX1_last 3 = .ok (.istore_n 3, 1) := by decide +kernel
theorem dX1_last_4 : decode cX1_last 4 = .ok (.iload_n 3, 1) := by decide +kernel
theorem dX1_last_5 : decode cX1_last 5 = .ok (.aload_n 0, 1) := by decide +kernel
theorem dX1_last_6 : decode cX1_last 6 = .ok (.getfield 42, 3) := by decide +kernel
theorem dX1_last_9 : decode cX1_last 9 = .ok (.if_icmp .gt 39, 3) := by decide +kernel
theorem dX1_last_12 : decode cX1_last 12 = .ok (.aload_n 0, 1) := by decide +kernel
theorem dX1_last_13 : decode cX1_last 13 = .ok (.getfield 23, 3) := by decide +kernel
theorem dX1_last_16 : decode cX1_last 16 = .ok (.iload_n 2, 1) := by decide +kernel
theorem dX1_last_17 : decode cX1_last 17 = .ok (.iaload, 1) := by decide +kernel
theorem dX1_last_18 : decode cX1_last 18 = .ok (.istore_n 2, 1) := by decide +kernel
theorem dX1_last_19 : decode cX1_last 19 = .ok (.iload_n 2, 1) := by decide +kernel
theorem dX1_last_20 : decode cX1_last 20 = .ok (.iconst (-1), 1) := by decide +kernel
theorem dX1_last_21 : decode cX1_last 21 = .ok (.if_icmp .eq 8, 3) := by decide +kernel
theorem dX1_last_24 : decode cX1_last 24 = .ok (.iload_n 2, 1) := by decide +kernel
theorem dX1_last_25 : decode cX1_last 25 = .ok (.iload_n 1, 1) := by decide +kernel
theorem dX1_last_26 : decode cX1_last 26 = .ok (.if_icmp .ne 5, 3) := by decide +kernel
theorem dX1_last_29 : decode cX1_last 29 = .ok (.iconst (-1), 1) := by decide +kernel
theorem dX1_last_30 : decode cX1_last 30 = .ok (.ireturn, 1) := by decide +kernel
theorem dX1_last_31 : decode cX1_last 31 = .ok (.aload_n 0, 1) := by decide +kernel
theorem dX1_last_32 : decode cX1_last 32 = .ok (.getfield 9, 3) := by decide +kernel
theorem dX1_last_35 : decode cX1_last 35 = .ok (.iload_n 2, 1) := by decide +kernel
theorem dX1_last_36 : decode cX1_last 36 = .ok (.baload, 1) := by decide +kernel
theorem dX1_last_37 : decode cX1_last 37 = .ok (.ifCond .ne 5, 3) := by decide +kernel
theorem dX1_last_40 : decode cX1_last 40 = .ok (.iload_n 2, 1) := by decide +kernel
theorem dX1_last_41 : decode cX1_last 41 = .ok (.ireturn, 1) := by decide +kernel
theorem dX1_last_42 : decode cX1_last 42 = .ok (.iinc 3 1, 3) := by decide +kernel
theorem dX1_last_45 : decode cX1_last 45 = .ok (.goto (-41), 3) := by decide +kernel
theorem dX1_last_48 : decode cX1_last 48 = .ok (.iconst (-1), 1) := by decide +kernel
theorem dX1_last_49 : decode cX1_last 49 = .ok (.ireturn, 1) := by decide +kernel
theorem dX1_tells_0 : decode cX1_tells 0 = .ok (.aload_n 0, 1) := by decide +kernel
theorem dX1_tells_1 : decode cX1_tells 1 = .ok (.getfield 26, 3) := by decide +kernel
theorem dX1_tells_4 : decode cX1_tells 4 = .ok (.iload_n 1, 1) := by decide +kernel
theorem dX1_tells_5 : decode cX1_tells 5 = .ok (.iaload, 1) := by decide +kernel
theorem dX1_tells_6 : decode cX1_tells 6 = .ok (.iconst 2, 1) := by decide +kernel
theorem dX1_tells_7 : decode cX1_tells 7 = .ok (.if_icmp .gt 7, 3) := by decide +kernel
theorem dX1_tells_10 : decode cX1_tells 10 = .ok (.iconst 0, 1) := by decide +kernel
theorem dX1_tells_11 : decode cX1_tells 11 = .ok (.goto 20, 3) := by decide +kernel
theorem dX1_tells_14 : decode cX1_tells 14 = .ok (.iconst 1, 1) := by decide +kernel
theorem dX1_tells_15 : decode cX1_tells 15 = .ok (.iload_n 2, 1) := by decide +kernel
theorem dX1_tells_16 : decode cX1_tells 16 = .ok (.bipush 9, 2) := by decide +kernel
theorem dX1_tells_18 : decode cX1_tells 18 = .ok (.aload_n 0, 1) := by decide +kernel
theorem dX1_tells_19 : decode cX1_tells 19 = .ok (.getfield 26, 3) := by decide +kernel
theorem dX1_tells_22 : decode cX1_tells 22 = .ok (.iload_n 1, 1) := by decide +kernel
theorem dX1_tells_23 : decode cX1_tells 23 = .ok (.iaload, 1) := by decide +kernel
theorem dX1_tells_24 : decode cX1_tells 24 = .ok (.isub, 1) := by decide +kernel
theorem dX1_tells_25 : decode cX1_tells 25 = .ok (.iconst 2, 1) := by decide +kernel
theorem dX1_tells_26 : decode cX1_tells 26 = .ok (.idiv, 1) := by decide +kernel
theorem dX1_tells_27 : decode cX1_tells 27 = .ok (.isub, 1) := by decide +kernel
theorem dX1_tells_28 : decode cX1_tells 28 = .ok (.invokestatic 55, 3) := by decide +kernel
theorem dX1_tells_31 : decode cX1_tells 31 = .ok (.ireturn, 1) := by decide +kernel
theorem dX1_middle_0 : decode cX1_middle 0 = .ok (.iconst 0, 1) := by decide +kernel
theorem dX1_middle_1 : decode cX1_middle 1 = .ok (.istore_n 2, 1) := by decide +kernel
theorem dX1_middle_2 : decode cX1_middle 2 = .ok (.iconst 0, 1) := by decide +kernel
theorem dX1_middle_3 : decode cX1_middle 3 = .ok (.istore_n 3, 1) := by decide +kernel
theorem dX1_middle_4 : decode cX1_middle 4 = .ok (.iload_n 3, 1) := by decide +kernel
theorem dX1_middle_5 : decode cX1_middle 5 = .ok (.aload_n 0, 1) := by decide +kernel
theorem dX1_middle_6 : decode cX1_middle 6 = .ok (.getfield 49, 3) := by decide +kernel
theorem dX1_middle_9 : decode cX1_middle 9 = .ok (.if_icmp .ge 35, 3) := by decide +kernel
theorem dX1_middle_12 : decode cX1_middle 12 = .ok (.iload_n 2, 1) := by decide +kernel
theorem dX1_middle_13 : decode cX1_middle 13 = .ok (.aload_n 0, 1) := by decide +kernel
theorem dX1_middle_14 : decode cX1_middle 14 = .ok (.getfield 29, 3) := by decide +kernel
theorem dX1_middle_17 : decode cX1_middle 17 = .ok (.iload_n 3, 1) := by decide +kernel
theorem dX1_middle_18 : decode cX1_middle 18 = .ok (.baload, 1) := by decide +kernel
theorem dX1_middle_19 : decode cX1_middle 19 = .ok (.ifCond .ne 16, 3) := by decide +kernel
theorem dX1_middle_22 : decode cX1_middle 22 = .ok (.aload_n 0, 1) := by decide +kernel
theorem dX1_middle_23 : decode cX1_middle 23 = .ok (.iload_n 3, 1) := by decide +kernel
theorem dX1_middle_24 : decode cX1_middle 24 = .ok (.iload_n 1, 1) := by decide +kernel
theorem dX1_middle_25 : decode cX1_middle 25 = .ok (.invokevirtual 61, 3) := by decide +kernel
theorem dX1_middle_28 : decode cX1_middle 28 = .ok (.ifCond .le 7, 3) := by decide +kernel
theorem dX1_middle_31 : decode cX1_middle 31 = .ok (.iconst 1, 1) := by decide +kernel
theorem dX1_middle_32 : decode cX1_middle 32 = .ok (.goto 4, 3) := by decide +kernel
theorem dX1_middle_35 : decode cX1_middle 35 = .ok (.iconst 0, 1) := by decide +kernel
theorem dX1_middle_36 : decode cX1_middle 36 = .ok (.iadd, 1) := by decide +kernel
theorem dX1_middle_37 : decode cX1_middle 37 = .ok (.istore_n 2, 1) := by decide +kernel
theorem dX1_middle_38 : decode cX1_middle 38 = .ok (.iinc 3 1, 3) := by decide +kernel
theorem dX1_middle_41 : decode cX1_middle 41 = .ok (.goto (-37), 3) := by decide +kernel
theorem dX1_middle_44 : decode cX1_middle 44 = .ok (.iload_n 2, 1) := by decide +kernel
theorem dX1_middle_45 : decode cX1_middle 45 = .ok (.ifCond .ne 5, 3) := by decide +kernel
theorem dX1_middle_48 : decode cX1_middle 48 = .ok (.iconst 0, 1) := by decide +kernel
theorem dX1_middle_49 : decode cX1_middle 49 = .ok (.ireturn, 1) := by decide +kernel
theorem dX1_middle_50 : decode cX1_middle 50 = .ok (.iconst 0, 1) := by decide +kernel
theorem dX1_middle_51 : decode cX1_middle 51 = .ok (.istore_n 3, 1) := by decide +kernel
theorem dX1_middle_52 : decode cX1_middle 52 = .ok (.iconst 1, 1) := by decide +kernel
theorem dX1_middle_53 : decode cX1_middle 53 = .ok (.istore 4, 2) := by decide +kernel
theorem dX1_middle_55 : decode cX1_middle 55 = .ok (.iload 4, 2) := by decide +kernel
theorem dX1_middle_57 : decode cX1_middle 57 = .ok (.bipush 60, 2) := by decide +kernel
theorem dX1_middle_59 : decode cX1_middle 59 = .ok (.if_icmp .gt 69, 3) := by decide +kernel
theorem dX1_middle_62 : decode cX1_middle 62 = .ok (.iconst 0, 1) := by decide +kernel
theorem dX1_middle_63 : decode cX1_middle 63 = .ok (.istore 5, 2) := by decide +kernel
theorem dX1_middle_65 : decode cX1_middle 65 = .ok (.iload 5, 2) := by decide +kernel
theorem dX1_middle_67 : decode cX1_middle 67 = .ok (.aload_n 0, 1) := by decide +kernel
theorem dX1_middle_68 : decode cX1_middle 68 = .ok (.getfield 49, 3) := by decide +kernel
theorem dX1_middle_71 : decode cX1_middle 71 = .ok (.if_icmp .ge 39, 3) := by decide +kernel
theorem dX1_middle_74 : decode cX1_middle 74 = .ok (.iload_n 3, 1) := by decide +kernel
theorem dX1_middle_75 : decode cX1_middle 75 = .ok (.aload_n 0, 1) := by decide +kernel
theorem dX1_middle_76 : decode cX1_middle 76 = .ok (.getfield 29, 3) := by decide +kernel
theorem dX1_middle_79 : decode cX1_middle 79 = .ok (.iload 5, 2) := by decide +kernel
theorem dX1_middle_81 : decode cX1_middle 81 = .ok (.baload, 1) := by decide +kernel
theorem dX1_middle_82 : decode cX1_middle 82 = .ok (.ifCond .ne 19, 3) := by decide +kernel
theorem dX1_middle_85 : decode cX1_middle 85 = .ok (.aload_n 0, 1) := by decide +kernel
theorem dX1_middle_86 : decode cX1_middle 86 = .ok (.iload 5, 2) := by decide +kernel
theorem dX1_middle_88 : decode cX1_middle 88 = .ok (.iload_n 1, 1) := by decide +kernel
theorem dX1_middle_89 : decode cX1_middle 89 = .ok (.invokevirtual 61, 3) := by decide +kernel
theorem dX1_middle_92 : decode cX1_middle 92 = .ok (.iload 4, 2) := by decide +kernel
theorem dX1_middle_94 : decode cX1_middle 94 = .ok (.if_icmp .ne 7, 3) := by decide +kernel
theorem dX1_middle_97 : decode cX1_middle 97 = .ok (.iconst 1, 1) := by decide +kernel
theorem dX1_middle_98 : decode cX1_middle 98 = .ok (.goto 4, 3) := by decide +kernel
theorem dX1_middle_101 : decode cX1_middle 101 = .ok (.iconst 0, 1) := by decide +kernel
theorem dX1_middle_102 : decode cX1_middle 102 = .ok (.iadd, 1) := by decide +kernel
theorem dX1_middle_103 : decode cX1_middle 103 = .ok (.istore_n 3, 1) := by decide +kernel
theorem dX1_middle_104 : decode cX1_middle 104 = .ok (.iinc 5 1, 3) := by decide +kernel
theorem dX1_middle_107 : decode cX1_middle 107 = .ok (.goto (-42), 3) := by decide +kernel
theorem dX1_middle_110 : decode cX1_middle 110 = .ok (.iload_n 3, 1) := by decide +kernel
theorem dX1_middle_111 : decode cX1_middle 111 = .ok (.iload_n 2, 1) := by decide +kernel
theorem dX1_middle_112 : decode cX1_middle 112 = .ok (.iconst 1, 1) := by decide +kernel
theorem dX1_middle_113 : decode cX1_middle 113 = .ok (.isub, 1) := by decide +kernel
theorem dX1_middle_114 : decode cX1_middle 114 = .ok (.iconst 2, 1) := by decide +kernel
theorem dX1_middle_115 : decode cX1_middle 115 = .ok (.idiv, 1) := by decide +kernel
theorem dX1_middle_116 : decode cX1_middle 116 = .ok (.if_icmp .le 6, 3) := by decide +kernel
theorem dX1_middle_119 : decode cX1_middle 119 = .ok (.iload 4, 2) := by decide +kernel
theorem dX1_middle_121 : decode cX1_middle 121 = .ok (.ireturn, 1) := by decide +kernel
theorem dX1_middle_122 : decode cX1_middle 122 = .ok (.iinc 4 1, 3) := by decide +kernel
theorem dX1_middle_125 : decode cX1_middle 125 = .ok (.goto (-70), 3) := by decide +kernel
theorem dX1_middle_128 : decode cX1_middle 128 = .ok (.iconst 0, 1) := by decide +kernel
theorem dX1_middle_129 : decode cX1_middle 129 = .ok (.ireturn, 1) := by decide +kernel
theorem dX1_refund_0 : decode cX1_refund 0 = .ok (.iload_n 2, 1) := by decide +kernel
theorem dX1_refund_1 : decode cX1_refund 1 = .ok (.ifCond .eq 18, 3) := by decide +kernel
theorem dX1_refund_4 : decode cX1_refund 4 = .ok (.iload_n 2, 1) := by decide +kernel
theorem dX1_refund_5 : decode cX1_refund 5 = .ok (.bipush 24, 2) := by decide +kernel
theorem dX1_refund_7 : decode cX1_refund 7 = .ok (.if_icmp .gt 12, 3) := by decide +kernel
theorem dX1_refund_10 : decode cX1_refund 10 = .ok (.aload_n 0, 1) := by decide +kernel
theorem dX1_refund_11 : decode cX1_refund 11 = .ok (.getfield 20, 3) := by decide +kernel
theorem dX1_refund_14 : decode cX1_refund 14 = .ok (.iload_n 1, 1) := by decide +kernel
theorem dX1_refund_15 : decode cX1_refund 15 = .ok (.iaload, 1) := by decide +kernel
theorem dX1_refund_16 : decode cX1_refund 16 = .ok (.ifCond .ne 5, 3) := by decide +kernel
theorem dX1_refund_19 : decode cX1_refund 19 = .ok (.iconst 0, 1) := by decide +kernel
theorem dX1_refund_20 : decode cX1_refund 20 = .ok (.ireturn, 1) := by decide +kernel
theorem dX1_refund_21 : decode cX1_refund 21 = .ok (.aload_n 0, 1) := by decide +kernel
theorem dX1_refund_22 : decode cX1_refund 22 = .ok (.getfield 64, 3) := by decide +kernel
theorem dX1_refund_25 : decode cX1_refund 25 = .ok (.aload_n 0, 1) := by decide +kernel
theorem dX1_refund_26 : decode cX1_refund 26 = .ok (.iload_n 1, 1) := by decide +kernel
theorem dX1_refund_27 : decode cX1_refund 27 = .ok (.invokevirtual 67, 3) := by decide +kernel
theorem dX1_refund_30 : decode cX1_refund 30 = .ok (.bipush 24, 2) := by decide +kernel
theorem dX1_refund_32 : decode cX1_refund 32 = .ok (.iadd, 1) := by decide +kernel
theorem dX1_refund_33 : decode cX1_refund 33 = .ok (.iload_n 2, 1) := by decide +kernel
theorem dX1_refund_34 : decode cX1_refund 34 = .ok (.isub, 1) := by decide +kernel
theorem dX1_refund_35 : decode cX1_refund 35 = .ok (.invokestatic 71, 3) := by decide +kernel
theorem dX1_refund_38 : decode cX1_refund 38 = .ok (.ireturn, 1) := by decide +kernel
theorem dX1_shock_0 : decode cX1_shock 0 = .ok (.iload_n 0, 1) := by decide +kernel
theorem dX1_shock_1 : decode cX1_shock 1 = .ok (.iconst 5, 1) := by decide +kernel
theorem dX1_shock_2 : decode cX1_shock 2 = .ok (.if_icmp .gt 7, 3) := by decide +kernel
theorem dX1_shock_5 : decode cX1_shock 5 = .ok (.iconst 3, 1) := by decide +kernel
theorem dX1_shock_6 : decode cX1_shock 6 = .ok (.goto 14, 3) := by decide +kernel
theorem dX1_shock_9 : decode cX1_shock 9 = .ok (.iload_n 0, 1) := by decide +kernel
theorem dX1_shock_10 : decode cX1_shock 10 = .ok (.bipush 12, 2) := by decide +kernel
theorem dX1_shock_12 : decode cX1_shock 12 = .ok (.if_icmp .gt 7, 3) := by decide +kernel
theorem dX1_shock_15 : decode cX1_shock 15 = .ok (.iconst 2, 1) := by decide +kernel
theorem dX1_shock_16 : decode cX1_shock 16 = .ok (.goto 4, 3) := by decide +kernel
theorem dX1_shock_19 : decode cX1_shock 19 = .ok (.iconst 1, 1) := by decide +kernel
theorem dX1_shock_20 : decode cX1_shock 20 = .ok (.ireturn, 1) := by decide +kernel
theorem dX1_seal_0 : decode cX1_seal 0 = .ok (.iload_n 0, 1) := by decide +kernel
theorem dX1_seal_1 : decode cX1_seal 1 = .ok (.istore_n 2, 1) := by decide +kernel
theorem dX1_seal_2 : decode cX1_seal 2 = .ok (.iconst 0, 1) := by decide +kernel
theorem dX1_seal_3 : decode cX1_seal 3 = .ok (.istore_n 3, 1) := by decide +kernel
theorem dX1_seal_4 : decode cX1_seal 4 = .ok (.iload_n 3, 1) := by decide +kernel
theorem dX1_seal_5 : decode cX1_seal 5 = .ok (.aload_n 1, 1) := by decide +kernel
theorem dX1_seal_6 : decode cX1_seal 6 = .ok (.invokevirtual 74, 3) := by decide +kernel
theorem dX1_seal_9 : decode cX1_seal 9 = .ok (.if_icmp .ge 20, 3) := by decide +kernel
theorem dX1_seal_12 : decode cX1_seal 12 = .ok (.bipush 31, 2) := by decide +kernel
theorem dX1_seal_14 : decode cX1_seal 14 = .ok (.iload_n 2, 1) := by decide +kernel
theorem dX1_seal_15 : decode cX1_seal 15 = .ok (.imul, 1) := by decide +kernel
theorem dX1_seal_16 : decode cX1_seal 16 = .ok (.aload_n 1, 1) := by decide +kernel
theorem dX1_seal_17 : decode cX1_seal 17 = .ok (.iload_n 3, 1) := by decide +kernel
theorem dX1_seal_18 : decode cX1_seal 18 = .ok (.invokevirtual 80, 3) := by decide +kernel
theorem dX1_seal_21 : decode cX1_seal 21 = .ok (.iadd, 1) := by decide +kernel
theorem dX1_seal_22 : decode cX1_seal 22 = .ok (.istore_n 2, 1) := by decide +kernel
theorem dX1_seal_23 : decode cX1_seal 23 = .ok (.iinc 3 1, 3) := by decide +kernel
theorem dX1_seal_26 : decode cX1_seal 26 = .ok (.goto (-22), 3) := by decide +kernel
theorem dX1_seal_29 : decode cX1_seal 29 = .ok (.iload_n 2, 1) := by decide +kernel
theorem dX1_seal_30 : decode cX1_seal 30 = .ok (.ireturn, 1) := by decide +kernel
theorem dX1_sealOfNumber_0 : decode cX1_sealOfNumber 0 = .ok (.bipush 31, 2) := by decide +kernel
theorem dX1_sealOfNumber_2 : decode cX1_sealOfNumber 2 = .ok (.iload_n 1, 1) := by decide +kernel
theorem dX1_sealOfNumber_3 : decode cX1_sealOfNumber 3 = .ok (.bipush 10, 2) := by decide +kernel
theorem dX1_sealOfNumber_5 : decode cX1_sealOfNumber 5 = .ok (.if_icmp .ge 7, 3) := by decide +kernel
theorem dX1_sealOfNumber_8 : decode cX1_sealOfNumber 8 = .ok (.iload_n 0, 1) := by decide +kernel
theorem dX1_sealOfNumber_9 : decode cX1_sealOfNumber 9 = .ok (.goto 15, 3) := by decide +kernel
theorem dX1_sealOfNumber_12 : decode cX1_sealOfNumber 12 = .ok (.bipush 31, 2) := by decide +kernel
theorem dX1_sealOfNumber_14 : decode cX1_sealOfNumber 14 = .ok (.iload_n 0, 1) := by decide +kernel
theorem dX1_sealOfNumber_15 : decode cX1_sealOfNumber 15 = .ok (.imul, 1) := by decide +kernel
theorem dX1_sealOfNumber_16 : decode cX1_sealOfNumber 16 = .ok (.bipush 48, 2) := by decide +kernel
theorem dX1_sealOfNumber_18 : decode cX1_sealOfNumber 18 = .ok (.iadd, 1) := by decide +kernel
theorem dX1_sealOfNumber_19 : decode cX1_sealOfNumber 19 = .ok (.iload_n 1, 1) := by decide +kernel
theorem dX1_sealOfNumber_20 : decode cX1_sealOfNumber 20 = .ok (.bipush 10, 2) := by decide +kernel
theorem dX1_sealOfNumber_22 : decode cX1_sealOfNumber 22 = .ok (.idiv, 1) := by decide +kernel
theorem dX1_sealOfNumber_23 : decode cX1_sealOfNumber 23 = .ok (.iadd, 1) := by decide +kernel
theorem dX1_sealOfNumber_24 : decode cX1_sealOfNumber 24 = .ok (.imul, 1) := by decide +kernel
theorem dX1_sealOfNumber_25 : decode cX1_sealOfNumber 25 = .ok (.bipush 48, 2) := by decide +kernel
theorem dX1_sealOfNumber_27 : decode cX1_sealOfNumber 27 = .ok (.iadd, 1) := by decide +kernel
theorem dX1_sealOfNumber_28 : decode cX1_sealOfNumber 28 = .ok (.iload_n 1, 1) := by decide +kernel
theorem dX1_sealOfNumber_29 : decode cX1_sealOfNumber 29 = .ok (.bipush 10, 2) := by decide +kernel
theorem dX1_sealOfNumber_31 : decode cX1_sealOfNumber 31 = .ok (.irem, 1) := by decide +kernel
theorem dX1_sealOfNumber_32 : decode cX1_sealOfNumber 32 = .ok (.iadd, 1) := by decide +kernel
theorem dX1_sealOfNumber_33 : decode cX1_sealOfNumber 33 = .ok (.ireturn, 1) := by decide +kernel
theorem dX1_sealAt_0 : decode cX1_sealAt 0 = .ok (.bipush 7, 2) := by decide +kernel
theorem dX1_sealAt_2 : decode cX1_sealAt 2 = .ok (.ldc 84, 2) := by decide +kernel
theorem dX1_sealAt_4 : decode cX1_sealAt 4 = .ok (.invokestatic 86, 3) := by decide +kernel
theorem dX1_sealAt_7 : decode cX1_sealAt 7 = .ok (.aload_n 0, 1) := by decide +kernel
theorem dX1_sealAt_8 : decode cX1_sealAt 8 = .ok (.getfield 32, 3) := by decide +kernel
theorem dX1_sealAt_11 : decode cX1_sealAt 11 = .ok (.iload_n 1, 1) := by decide +kernel
theorem dX1_sealAt_12 : decode cX1_sealAt 12 = .ok (.iaload, 1) := by decide +kernel
theorem dX1_sealAt_13 : decode cX1_sealAt 13 = .ok (.invokestatic 90, 3) := by decide +kernel
theorem dX1_sealAt_16 : decode cX1_sealAt 16 = .ok (.istore_n 2, 1) := by decide +kernel
theorem dX1_sealAt_17 : decode cX1_sealAt 17 = .ok (.bipush 31, 2) := by decide +kernel
theorem dX1_sealAt_19 : decode cX1_sealAt 19 = .ok (.bipush 31, 2) := by decide +kernel
theorem dX1_sealAt_21 : decode cX1_sealAt 21 = .ok (.iload_n 2, 1) := by decide +kernel
theorem dX1_sealAt_22 : decode cX1_sealAt 22 = .ok (.imul, 1) := by decide +kernel
theorem dX1_sealAt_23 : decode cX1_sealAt 23 = .ok (.bipush 58, 2) := by decide +kernel
theorem dX1_sealAt_25 : decode cX1_sealAt 25 = .ok (.iadd, 1) := by decide +kernel
theorem dX1_sealAt_26 : decode cX1_sealAt 26 = .ok (.imul, 1) := by decide +kernel
theorem dX1_sealAt_27 : decode cX1_sealAt 27 = .ok (.bipush 32, 2) := by decide +kernel
theorem dX1_sealAt_29 : decode cX1_sealAt 29 = .ok (.iadd, 1) := by decide +kernel
theorem dX1_sealAt_30 : decode cX1_sealAt 30 = .ok (.istore_n 2, 1) := by decide +kernel
theorem dX1_sealAt_31 : decode cX1_sealAt 31 = .ok (.aload_n 0, 1) := by decide +kernel
theorem dX1_sealAt_32 : decode cX1_sealAt 32 = .ok (.getfield 35, 3) := by decide +kernel
theorem dX1_sealAt_35 : decode cX1_sealAt 35 = .ok (.iload_n 1, 1) := by decide +kernel
theorem dX1_sealAt_36 : decode cX1_sealAt 36 = .ok (.iaload, 1) := by decide +kernel
theorem dX1_sealAt_37 : decode cX1_sealAt 37 = .ok (.ifCond .ne 12, 3) := by decide +kernel
theorem dX1_sealAt_40 : decode cX1_sealAt 40 = .ok (.iload_n 2, 1) := by decide +kernel
theorem dX1_sealAt_41 : decode cX1_sealAt 41 = .ok (.ldc 93, 2) := by decide +kernel
theorem dX1_sealAt_43 : decode cX1_sealAt 43 = .ok (.invokestatic 86, 3) := by decide +kernel
theorem dX1_sealAt_46 : decode cX1_sealAt 46 = .ok (.goto 18, 3) := by decide +kernel
theorem dX1_sealAt_49 : decode cX1_sealAt 49 = .ok (.iload_n 2, 1) := by decide +kernel
theorem dX1_sealAt_50 : decode cX1_sealAt 50 = .ok (.aload_n 0, 1) := by decide +kernel
theorem dX1_sealAt_51 : decode cX1_sealAt 51 = .ok (.getfield 35, 3) := by decide +kernel
theorem dX1_sealAt_54 : decode cX1_sealAt 54 = .ok (.iload_n 1, 1) := by decide +kernel
theorem dX1_sealAt_55 : decode cX1_sealAt 55 = .ok (.iaload, 1) := by decide +kernel
theorem dX1_sealAt_56 : decode cX1_sealAt 56 = .ok (.invokestatic 90, 3) := by decide +kernel
theorem dX1_sealAt_59 : decode cX1_sealAt 59 = .ok (.ldc 95, 2) := by decide +kernel
theorem dX1_sealAt_61 : decode cX1_sealAt 61 = .ok (.invokestatic 86, 3) := by decide +kernel
theorem dX1_sealAt_64 : decode cX1_sealAt 64 = .ok (.ireturn, 1) := by decide +kernel
theorem dX1_addPerson_0 : decode cX1_addPerson 0 = .ok (.aload_n 0, 1) := by decide +kernel
theorem dX1_addPerson_1 : decode cX1_addPerson 1 = .ok (.iconst 0, 1) := by decide +kernel
theorem dX1_addPerson_2 : decode cX1_addPerson 2 = .ok (.putfield 38, 3) := by decide +kernel
theorem dX1_addPerson_5 : decode cX1_addPerson 5 = .ok (.iload_n 1, 1) := by decide +kernel
theorem dX1_addPerson_6 : decode cX1_addPerson 6 = .ok (.iconst 0, 1) := by decide +kernel
theorem dX1_addPerson_7 : decode cX1_addPerson 7 = .ok (.bipush 99, 2) := by decide +kernel
theorem dX1_addPerson_9 : decode cX1_addPerson 9 = .ok (.invokestatic 45, 3) := by decide +kernel
theorem dX1_addPerson_12 : decode cX1_addPerson 12 = .ok (.ifCond .ne 9, 3) := by decide +kernel
theorem dX1_addPerson_15 : decode cX1_addPerson 15 = .ok (.aload_n 0, 1) := by decide +kernel
theorem dX1_addPerson_16 : decode cX1_addPerson 16 = .ok (.iconst 1, 1) := by decide +kernel
theorem dX1_addPerson_17 : decode cX1_addPerson 17 = .ok (.invokevirtual 97, 3) := by decide +kernel
theorem dX1_addPerson_20 : decode cX1_addPerson 20 = .ok (.ireturn, 1) := by decide +kernel
theorem dX1_addPerson_21 : decode cX1_addPerson 21 = .ok (.aload_n 0, 1) := by decide +kernel
theorem dX1_addPerson_22 : decode cX1_addPerson 22 = .ok (.getfield 42, 3) := by decide +kernel
theorem dX1_addPerson_25 : decode cX1_addPerson 25 = .ok (.bipush 10, 2) := by decide +kernel
theorem dX1_addPerson_27 : decode cX1_addPerson 27 = .ok (.if_icmp .ne 9, 3) := by decide +kernel
theorem dX1_addPerson_30 : decode cX1_addPerson 30 = .ok (.aload_n 0, 1) := by decide +kernel
theorem dX1_addPerson_31 : decode cX1_addPerson 31 = .ok (.iconst 2, 1) := by decide +kernel
theorem dX1_addPerson_32 : decode cX1_addPerson 32 = .ok (.invokevirtual 97, 3) := by decide +kernel
theorem dX1_addPerson_35 : decode cX1_addPerson 35 = .ok (.ireturn, 1) := by decide +kernel
theorem dX1_addPerson_36 : decode cX1_addPerson 36 = .ok (.aload_n 0, 1) := by decide +kernel
theorem dX1_addPerson_37 : decode cX1_addPerson 37 = .ok (.getfield 13, 3) := by decide +kernel
theorem dX1_addPerson_40 : decode cX1_addPerson 40 = .ok (.aload_n 0, 1) := by decide +kernel
theorem dX1_addPerson_41 : decode cX1_addPerson 41 = .ok (.getfield 42, 3) := by decide +kernel
theorem dX1_addPerson_44 : decode cX1_addPerson 44 = .ok (.iload_n 1, 1) := by decide +kernel
theorem dX1_addPerson_45 : decode cX1_addPerson 45 = .ok (.iastore, 1) := by decide +kernel
theorem dX1_addPerson_46 : decode cX1_addPerson 46 = .ok (.aload_n 0, 1) := by decide +kernel
theorem dX1_addPerson_47 : decode cX1_addPerson 47 = .ok (.getfield 17, 3) := by decide +kernel
theorem dX1_addPerson_50 : decode cX1_addPerson 50 = .ok (.aload_n 0, 1) := by decide +kernel
theorem dX1_addPerson_51 : decode cX1_addPerson 51 = .ok (.getfield 42, 3) := by decide +kernel
theorem dX1_addPerson_54 : decode cX1_addPerson 54 = .ok (.bipush 100, 2) := by decide +kernel
theorem dX1_addPerson_56 : decode cX1_addPerson 56 = .ok (.iastore, 1) := by decide +kernel
theorem dX1_addPerson_57 : decode cX1_addPerson 57 = .ok (.aload_n 0, 1) := by decide +kernel
theorem dX1_addPerson_58 : decode cX1_addPerson 58 = .ok (.getfield 23, 3) := by decide +kernel
theorem dX1_addPerson_61 : decode cX1_addPerson 61 = .ok (.aload_n 0, 1) := by decide +kernel
theorem dX1_addPerson_62 : decode cX1_addPerson 62 = .ok (.getfield 42, 3) := by decide +kernel
theorem dX1_addPerson_65 : decode cX1_addPerson 65 = .ok (.iconst (-1), 1) := by decide +kernel
theorem dX1_addPerson_66 : decode cX1_addPerson 66 = .ok (.iastore, 1) := by decide +kernel
theorem dX1_addPerson_67 : decode cX1_addPerson 67 = .ok (.aload_n 0, 1) := by decide +kernel
theorem dX1_addPerson_68 : decode cX1_addPerson 68 = .ok (.dup, 1) := by decide +kernel
theorem dX1_addPerson_69 : decode cX1_addPerson 69 = .ok (.getfield 42, 3) := by decide +kernel
theorem dX1_addPerson_72 : decode cX1_addPerson 72 = .ok (.iconst 1, 1) := by decide +kernel
theorem dX1_addPerson_73 : decode cX1_addPerson 73 = .ok (.iadd, 1) := by decide +kernel
theorem dX1_addPerson_74 : decode cX1_addPerson 74 = .ok (.putfield 42, 3) := by decide +kernel
theorem dX1_addPerson_77 : decode cX1_addPerson 77 = .ok (.aload_n 0, 1) := by decide +kernel
theorem dX1_addPerson_78 : decode cX1_addPerson 78 = .ok (.getfield 42, 3) := by decide +kernel
theorem dX1_addPerson_81 : decode cX1_addPerson 81 = .ok (.iconst 1, 1) := by decide +kernel
theorem dX1_addPerson_82 : decode cX1_addPerson 82 = .ok (.isub, 1) := by decide +kernel
theorem dX1_addPerson_83 : decode cX1_addPerson 83 = .ok (.ireturn, 1) := by decide +kernel
theorem dX1_addWitness_0 : decode cX1_addWitness 0 = .ok (.aload_n 0, 1) := by decide +kernel
theorem dX1_addWitness_1 : decode cX1_addWitness 1 = .ok (.iconst 0, 1) := by decide +kernel
theorem dX1_addWitness_2 : decode cX1_addWitness 2 = .ok (.putfield 38, 3) := by decide +kernel
theorem dX1_addWitness_5 : decode cX1_addWitness 5 = .ok (.iload_n 1, 1) := by decide +kernel
theorem dX1_addWitness_6 : decode cX1_addWitness 6 = .ok (.iconst 0, 1) := by decide +kernel
theorem dX1_addWitness_7 : decode cX1_addWitness 7 = .ok (.bipush 9, 2) := by decide +kernel
theorem dX1_addWitness_9 : decode cX1_addWitness 9 = .ok (.invokestatic 45, 3) := by decide +kernel
theorem dX1_addWitness_12 : decode cX1_addWitness 12 = .ok (.ifCond .ne 9, 3) := by decide +kernel
theorem dX1_addWitness_15 : decode cX1_addWitness 15 = .ok (.aload_n 0, 1) := by decide +kernel
theorem dX1_addWitness_16 : decode cX1_addWitness 16 = .ok (.iconst 1, 1) := by decide +kernel
theorem dX1_addWitness_17 : decode cX1_addWitness 17 = .ok (.invokevirtual 97, 3) := by decide +kernel
theorem dX1_addWitness_20 : decode cX1_addWitness 20 = .ok (.ireturn, 1) := by decide +kernel
theorem dX1_addWitness_21 : decode cX1_addWitness 21 = .ok (.aload_n 0, 1) := by decide +kernel
theorem dX1_addWitness_22 : decode cX1_addWitness 22 = .ok (.getfield 49, 3) := by decide +kernel
theorem dX1_addWitness_25 : decode cX1_addWitness 25 = .ok (.bipush 6, 2) := by decide +kernel
theorem dX1_addWitness_27 : decode cX1_addWitness 27 = .ok (.if_icmp .ne 9, 3) := by decide +kernel
theorem dX1_addWitness_30 : decode cX1_addWitness 30 = .ok (.aload_n 0, 1) := by decide +kernel
theorem dX1_addWitness_31 : decode cX1_addWitness 31 = .ok (.iconst 2, 1) := by decide +kernel
theorem dX1_addWitness_32 : decode cX1_addWitness 32 = .ok (.invokevirtual 97, 3) := by decide +kernel
theorem dX1_addWitness_35 : decode cX1_addWitness 35 = .ok (.ireturn, 1) := by decide +kernel
theorem dX1_addWitness_36 : decode cX1_addWitness 36 = .ok (.aload_n 0, 1) := by decide +kernel
theorem dX1_addWitness_37 : decode cX1_addWitness 37 = .ok (.getfield 26, 3) := by decide +kernel
theorem dX1_addWitness_40 : decode cX1_addWitness 40 = .ok (.aload_n 0, 1) := by decide +kernel
theorem dX1_addWitness_41 : decode cX1_addWitness 41 = .ok (.getfield 49, 3) := by decide +kernel
theorem dX1_addWitness_44 : decode cX1_addWitness 44 = .ok (.iload_n 1, 1) := by decide +kernel
theorem dX1_addWitness_45 : decode cX1_addWitness 45 = .ok (.iastore, 1) := by decide +kernel
theorem dX1_addWitness_46 : decode cX1_addWitness 46 = .ok (.aload_n 0, 1) := by decide +kernel
theorem dX1_addWitness_47 : decode cX1_addWitness 47 = .ok (.dup, 1) := by decide +kernel
theorem dX1_addWitness_48 : decode cX1_addWitness 48 = .ok (.getfield 49, 3) := by decide +kernel
theorem dX1_addWitness_51 : decode cX1_addWitness 51 = .ok (.iconst 1, 1) := by decide +kernel
theorem dX1_addWitness_52 : decode cX1_addWitness 52 = .ok (.iadd, 1) := by decide +kernel
theorem dX1_addWitness_53 : decode cX1_addWitness 53 = .ok (.putfield 49, 3) := by decide +kernel
theorem dX1_addWitness_56 : decode cX1_addWitness 56 = .ok (.aload_n 0, 1) := by decide +kernel
theorem dX1_addWitness_57 : decode cX1_addWitness 57 = .ok (.getfield 49, 3) := by decide +kernel
theorem dX1_addWitness_60 : decode cX1_addWitness 60 = .ok (.iconst 1, 1) := by decide +kernel
theorem dX1_addWitness_61 : decode cX1_addWitness 61 = .ok (.isub, 1) := by decide +kernel
theorem dX1_addWitness_62 : decode cX1_addWitness 62 = .ok (.ireturn, 1) := by decide +kernel
theorem dX1_setHeir_0 : decode cX1_setHeir 0 = .ok (.aload_n 0, 1) := by decide +kernel
theorem dX1_setHeir_1 : decode cX1_setHeir 1 = .ok (.iconst 0, 1) := by decide +kernel
theorem dX1_setHeir_2 : decode cX1_setHeir 2 = .ok (.putfield 38, 3) := by decide +kernel
theorem dX1_setHeir_5 : decode cX1_setHeir 5 = .ok (.aload_n 0, 1) := by decide +kernel
theorem dX1_setHeir_6 : decode cX1_setHeir 6 = .ok (.iload_n 1, 1) := by decide +kernel
theorem dX1_setHeir_7 : decode cX1_setHeir 7 = .ok (.invokevirtual 100, 3) := by decide +kernel
theorem dX1_setHeir_10 : decode cX1_setHeir 10 = .ok (.ifCond .eq 16, 3) := by decide +kernel
theorem dX1_setHeir_13 : decode cX1_setHeir 13 = .ok (.iload_n 2, 1) := by decide +kernel
theorem dX1_setHeir_14 : decode cX1_setHeir 14 = .ok (.iconst (-1), 1) := by decide +kernel
theorem dX1_setHeir_15 : decode cX1_setHeir 15 = .ok (.if_icmp .eq 17, 3) := by decide +kernel
theorem dX1_setHeir_18 : decode cX1_setHeir 18 = .ok (.aload_n 0, 1) := by decide +kernel
theorem dX1_setHeir_19 : decode cX1_setHeir 19 = .ok (.iload_n 2, 1) := by decide +kernel
theorem dX1_setHeir_20 : decode cX1_setHeir 20 = .ok (.invokevirtual 100, 3) := by decide +kernel
theorem dX1_setHeir_23 : decode cX1_setHeir 23 = .ok (.ifCond .ne 9, 3) := by decide +kernel
theorem dX1_setHeir_26 : decode cX1_setHeir 26 = .ok (.aload_n 0, 1) := by decide +kernel
theorem dX1_setHeir_27 : decode cX1_setHeir 27 = .ok (.iconst 1, 1) := by decide +kernel
theorem dX1_setHeir_28 : decode cX1_setHeir 28 = .ok (.invokevirtual 97, 3) := by decide +kernel
theorem dX1_setHeir_31 : decode cX1_setHeir 31 = .ok (.ireturn, 1) := by decide +kernel
theorem dX1_setHeir_32 : decode cX1_setHeir 32 = .ok (.iload_n 1, 1) := by decide +kernel
theorem dX1_setHeir_33 : decode cX1_setHeir 33 = .ok (.iload_n 2, 1) := by decide +kernel
theorem dX1_setHeir_34 : decode cX1_setHeir 34 = .ok (.if_icmp .ne 9, 3) := by decide +kernel
theorem dX1_setHeir_37 : decode cX1_setHeir 37 = .ok (.aload_n 0, 1) := by decide +kernel
theorem dX1_setHeir_38 : decode cX1_setHeir 38 = .ok (.iconst 2, 1) := by decide +kernel
theorem dX1_setHeir_39 : decode cX1_setHeir 39 = .ok (.invokevirtual 97, 3) := by decide +kernel
theorem dX1_setHeir_42 : decode cX1_setHeir 42 = .ok (.ireturn, 1) := by decide +kernel
theorem dX1_setHeir_43 : decode cX1_setHeir 43 = .ok (.aload_n 0, 1) := by decide +kernel
theorem dX1_setHeir_44 : decode cX1_setHeir 44 = .ok (.getfield 9, 3) := by decide +kernel
theorem dX1_setHeir_47 : decode cX1_setHeir 47 = .ok (.iload_n 1, 1) := by decide +kernel
theorem dX1_setHeir_48 : decode cX1_setHeir 48 = .ok (.baload, 1) := by decide +kernel
theorem dX1_setHeir_49 : decode cX1_setHeir 49 = .ok (.ifCond .eq 9, 3) := by decide +kernel
theorem dX1_setHeir_52 : decode cX1_setHeir 52 = .ok (.aload_n 0, 1) := by decide +kernel
theorem dX1_setHeir_53 : decode cX1_setHeir 53 = .ok (.iconst 3, 1) := by decide +kernel
theorem dX1_setHeir_54 : decode cX1_setHeir 54 = .ok (.invokevirtual 97, 3) := by decide +kernel
theorem dX1_setHeir_57 : decode cX1_setHeir 57 = .ok (.ireturn, 1) := by decide +kernel
theorem dX1_setHeir_58 : decode cX1_setHeir 58 = .ok (.aload_n 0, 1) := by decide +kernel
theorem dX1_setHeir_59 : decode cX1_setHeir 59 = .ok (.getfield 23, 3) := by decide +kernel
theorem dX1_setHeir_62 : decode cX1_setHeir 62 = .ok (.iload_n 1, 1) := by decide +kernel
theorem dX1_setHeir_63 : decode cX1_setHeir 63 = .ok (.iaload, 1) := by decide +kernel
theorem dX1_setHeir_64 : decode cX1_setHeir 64 = .ok (.istore_n 3, 1) := by decide +kernel
theorem dX1_setHeir_65 : decode cX1_setHeir 65 = .ok (.aload_n 0, 1) := by decide +kernel
theorem dX1_setHeir_66 : decode cX1_setHeir 66 = .ok (.getfield 23, 3) := by decide +kernel
theorem dX1_setHeir_69 : decode cX1_setHeir 69 = .ok (.iload_n 1, 1) := by decide +kernel
theorem dX1_setHeir_70 : decode cX1_setHeir 70 = .ok (.iload_n 2, 1) := by decide +kernel
theorem dX1_setHeir_71 : decode cX1_setHeir 71 = .ok (.iastore, 1) := by decide +kernel
theorem dX1_setHeir_72 : decode cX1_setHeir 72 = .ok (.iload_n 3, 1) := by decide +kernel
theorem dX1_setHeir_73 : decode cX1_setHeir 73 = .ok (.ireturn, 1) := by decide +kernel
theorem dX1_buyFate_0 : decode cX1_buyFate 0 = .ok (.aload_n 0, 1) := by decide +kernel
theorem dX1_buyFate_1 : decode cX1_buyFate 1 = .ok (.iconst 0, 1) := by decide +kernel
theorem dX1_buyFate_2 : decode cX1_buyFate 2 = .ok (.putfield 38, 3) := by decide +kernel
theorem dX1_buyFate_5 : decode cX1_buyFate 5 = .ok (.aload_n 0, 1) := by decide +kernel
theorem dX1_buyFate_6 : decode cX1_buyFate 6 = .ok (.iload_n 1, 1) := by decide +kernel
theorem dX1_buyFate_7 : decode cX1_buyFate 7 = .ok (.invokevirtual 100, 3) := by decide +kernel
theorem dX1_buyFate_10 : decode cX1_buyFate 10 = .ok (.ifCond .ne 9, 3) := by decide +kernel
theorem dX1_buyFate_13 : decode cX1_buyFate 13 = .ok (.aload_n 0, 1) := by decide +kernel
theorem dX1_buyFate_14 : decode cX1_buyFate 14 = .ok (.iconst 1, 1) := by decide +kernel
theorem dX1_buyFate_15 : decode cX1_buyFate 15 = .ok (.invokevirtual 97, 3) := by decide +kernel
theorem dX1_buyFate_18 : decode cX1_buyFate 18 = .ok (.ireturn, 1) := by decide +kernel
theorem dX1_buyFate_19 : decode cX1_buyFate 19 = .ok (.aload_n 0, 1) := by decide +kernel
theorem dX1_buyFate_20 : decode cX1_buyFate 20 = .ok (.getfield 9, 3) := by decide +kernel
theorem dX1_buyFate_23 : decode cX1_buyFate 23 = .ok (.iload_n 1, 1) := by decide +kernel
theorem dX1_buyFate_24 : decode cX1_buyFate 24 = .ok (.baload, 1) := by decide +kernel
theorem dX1_buyFate_25 : decode cX1_buyFate 25 = .ok (.ifCond .ne 28, 3) := by decide +kernel
theorem dX1_buyFate_28 : decode cX1_buyFate 28 = .ok (.aload_n 0, 1) := by decide +kernel
theorem dX1_buyFate_29 : decode cX1_buyFate 29 = .ok (.getfield 20, 3) := by decide +kernel
theorem dX1_buyFate_32 : decode cX1_buyFate 32 = .ok (.iload_n 1, 1) := by decide +kernel
theorem dX1_buyFate_33 : decode cX1_buyFate 33 = .ok (.iaload, 1) := by decide +kernel
theorem dX1_buyFate_34 : decode cX1_buyFate 34 = .ok (.bipush 9, 2) := by decide +kernel
theorem dX1_buyFate_36 : decode cX1_buyFate 36 = .ok (.if_icmp .eq 17, 3) := by decide +kernel
theorem dX1_buyFate_39 : decode cX1_buyFate 39 = .ok (.aload_n 0, 1) := by decide +kernel
theorem dX1_buyFate_40 : decode cX1_buyFate 40 = .ok (.getfield 17, 3) := by decide +kernel
theorem dX1_buyFate_43 : decode cX1_buyFate 43 = .ok (.iload_n 1, 1) := by decide +kernel
theorem dX1_buyFate_44 : decode cX1_buyFate 44 = .ok (.iaload, 1) := by decide +kernel
theorem dX1_buyFate_45 : decode cX1_buyFate 45 = .ok (.aload_n 0, 1) := by decide +kernel
theorem dX1_buyFate_46 : decode cX1_buyFate 46 = .ok (.iload_n 1, 1) := by decide +kernel
theorem dX1_buyFate_47 : decode cX1_buyFate 47 = .ok (.invokevirtual 67, 3) := by decide +kernel
theorem dX1_buyFate_50 : decode cX1_buyFate 50 = .ok (.if_icmp .ge 9, 3) := by decide +kernel
theorem dX1_buyFate_53 : decode cX1_buyFate 53 = .ok (.aload_n 0, 1) := by decide +kernel
theorem dX1_buyFate_54 : decode cX1_buyFate 54 = .ok (.iconst 2, 1) := by decide +kernel
theorem dX1_buyFate_55 : decode cX1_buyFate 55 = .ok (.invokevirtual 97, 3) := by decide +kernel
theorem dX1_buyFate_58 : decode cX1_buyFate 58 = .ok (.ireturn, 1) := by decide +kernel
theorem dX1_buyFate_59 : decode cX1_buyFate 59 = .ok (.aload_n 0, 1) := by decide +kernel
theorem dX1_buyFate_60 : decode cX1_buyFate 60 = .ok (.getfield 17, 3) := by decide +kernel
theorem dX1_buyFate_63 : decode cX1_buyFate 63 = .ok (.iload_n 1, 1) := by decide +kernel
theorem dX1_buyFate_64 : decode cX1_buyFate 64 = .ok (.dup2, 1) := by decide +kernel
theorem dX1_buyFate_65 : decode cX1_buyFate 65 = .ok (.iaload, 1) := by decide +kernel
theorem dX1_buyFate_66 : decode cX1_buyFate 66 = .ok (.aload_n 0, 1) := by decide +kernel
theorem dX1_buyFate_67 : decode cX1_buyFate 67 = .ok (.iload_n 1, 1) := by decide +kernel
theorem dX1_buyFate_68 : decode cX1_buyFate 68 = .ok (.invokevirtual 67, 3) := by decide +kernel
theorem dX1_buyFate_71 : decode cX1_buyFate 71 = .ok (.isub, 1) := by decide +kernel
theorem dX1_buyFate_72 : decode cX1_buyFate 72 = .ok (.iastore, 1) := by decide +kernel
theorem dX1_buyFate_73 : decode cX1_buyFate 73 = .ok (.aload_n 0, 1) := by decide +kernel
theorem dX1_buyFate_74 : decode cX1_buyFate 74 = .ok (.dup, 1) := by decide +kernel
theorem dX1_buyFate_75 : decode cX1_buyFate 75 = .ok (.getfield 64, 3) := by decide +kernel
theorem dX1_buyFate_78 : decode cX1_buyFate 78 = .ok (.aload_n 0, 1) := by decide +kernel
theorem dX1_buyFate_79 : decode cX1_buyFate 79 = .ok (.iload_n 1, 1) := by decide +kernel
theorem dX1_buyFate_80 : decode cX1_buyFate 80 = .ok (.invokevirtual 67, 3) := by decide +kernel
theorem dX1_buyFate_83 : decode cX1_buyFate 83 = .ok (.iadd, 1) := by decide +kernel
theorem dX1_buyFate_84 : decode cX1_buyFate 84 = .ok (.putfield 64, 3) := by decide +kernel
theorem dX1_buyFate_87 : decode cX1_buyFate 87 = .ok (.aload_n 0, 1) := by decide +kernel
theorem dX1_buyFate_88 : decode cX1_buyFate 88 = .ok (.getfield 20, 3) := by decide +kernel
theorem dX1_buyFate_91 : decode cX1_buyFate 91 = .ok (.iload_n 1, 1) := by decide +kernel
theorem dX1_buyFate_92 : decode cX1_buyFate 92 = .ok (.dup2, 1) := by decide +kernel
theorem dX1_buyFate_93 : decode cX1_buyFate 93 = .ok (.iaload, 1) := by decide +kernel
theorem dX1_buyFate_94 : decode cX1_buyFate 94 = .ok (.iconst 1, 1) := by decide +kernel
theorem dX1_buyFate_95 : decode cX1_buyFate 95 = .ok (.iadd, 1) := by decide +kernel
theorem dX1_buyFate_96 : decode cX1_buyFate 96 = .ok (.iastore, 1) := by decide +kernel
theorem dX1_buyFate_97 : decode cX1_buyFate 97 = .ok (.aload_n 0, 1) := by decide +kernel
theorem dX1_buyFate_98 : decode cX1_buyFate 98 = .ok (.iload_n 1, 1) := by decide +kernel
theorem dX1_buyFate_99 : decode cX1_buyFate 99 = .ok (.invokevirtual 67, 3) := by decide +kernel
theorem dX1_buyFate_102 : decode cX1_buyFate 102 = .ok (.ireturn, 1) := by decide +kernel
theorem dX1_turnDuty_0 : decode cX1_turnDuty 0 = .ok (.aload_n 0, 1) := by decide +kernel
theorem dX1_turnDuty_1 : decode cX1_turnDuty 1 = .ok (.aload_n 0, 1) := by decide +kernel
theorem dX1_turnDuty_2 : decode cX1_turnDuty 2 = .ok (.iload_n 1, 1) := by decide +kernel
theorem dX1_turnDuty_3 : decode cX1_turnDuty 3 = .ok (.invokevirtual 104, 3) := by decide +kernel
theorem dX1_turnDuty_6 : decode cX1_turnDuty 6 = .ok (.ifCond .eq 7, 3) := by decide +kernel
theorem dX1_turnDuty_9 : decode cX1_turnDuty 9 = .ok (.iconst 0, 1) := by decide +kernel
theorem dX1_turnDuty_10 : decode cX1_turnDuty 10 = .ok (.goto 4, 3) := by decide +kernel
theorem dX1_turnDuty_13 : decode cX1_turnDuty 13 = .ok (.iconst 1, 1) := by decide +kernel
theorem dX1_turnDuty_14 : decode cX1_turnDuty 14 = .ok (.putfield 38, 3) := by decide +kernel
theorem dX1_turnDuty_17 : decode cX1_turnDuty 17 = .ok (.aload_n 0, 1) := by decide +kernel
theorem dX1_turnDuty_18 : decode cX1_turnDuty 18 = .ok (.getfield 38, 3) := by decide +kernel
theorem dX1_turnDuty_21 : decode cX1_turnDuty 21 = .ok (.ifCond .le 5, 3) := by decide +kernel
theorem dX1_turnDuty_24 : decode cX1_turnDuty 24 = .ok (.iconst 0, 1) := by decide +kernel
theorem dX1_turnDuty_25 : decode cX1_turnDuty 25 = .ok (.ireturn, 1) := by decide +kernel
theorem dX1_turnDuty_26 : decode cX1_turnDuty 26 = .ok (.aload_n 0, 1) := by decide +kernel
theorem dX1_turnDuty_27 : decode cX1_turnDuty 27 = .ok (.getfield 29, 3) := by decide +kernel
theorem dX1_turnDuty_30 : decode cX1_turnDuty 30 = .ok (.iload_n 1, 1) := by decide +kernel
theorem dX1_turnDuty_31 : decode cX1_turnDuty 31 = .ok (.aload_n 0, 1) := by decide +kernel
theorem dX1_turnDuty_32 : decode cX1_turnDuty 32 = .ok (.getfield 29, 3) := by decide +kernel
theorem dX1_turnDuty_35 : decode cX1_turnDuty 35 = .ok (.iload_n 1, 1) := by decide +kernel
theorem dX1_turnDuty_36 : decode cX1_turnDuty 36 = .ok (.baload, 1) := by decide +kernel
theorem dX1_turnDuty_37 : decode cX1_turnDuty 37 = .ok (.ifCond .ne 7, 3) := by decide +kernel
theorem dX1_turnDuty_40 : decode cX1_turnDuty 40 = .ok (.iconst 1, 1) := by decide +kernel
theorem dX1_turnDuty_41 : decode cX1_turnDuty 41 = .ok (.goto 4, 3) := by decide +kernel
theorem dX1_turnDuty_44 : decode cX1_turnDuty 44 = .ok (.iconst 0, 1) := by decide +kernel
theorem dX1_turnDuty_45 : decode cX1_turnDuty 45 = .ok (.bastore, 1) := by decide +kernel
theorem dX1_turnDuty_46 : decode cX1_turnDuty 46 = .ok (.aload_n 0, 1) := by decide +kernel
theorem dX1_turnDuty_47 : decode cX1_turnDuty 47 = .ok (.getfield 29, 3) := by decide +kernel
theorem dX1_turnDuty_50 : decode cX1_turnDuty 50 = .ok (.iload_n 1, 1) := by decide +kernel
theorem dX1_turnDuty_51 : decode cX1_turnDuty 51 = .ok (.baload, 1) := by decide +kernel
theorem dX1_turnDuty_52 : decode cX1_turnDuty 52 = .ok (.ifCond .ne 7, 3) := by decide +kernel
theorem dX1_turnDuty_55 : decode cX1_turnDuty 55 = .ok (.iconst 1, 1) := by decide +kernel
theorem dX1_turnDuty_56 : decode cX1_turnDuty 56 = .ok (.goto 4, 3) := by decide +kernel
theorem dX1_turnDuty_59 : decode cX1_turnDuty 59 = .ok (.iconst 0, 1) := by decide +kernel
theorem dX1_turnDuty_60 : decode cX1_turnDuty 60 = .ok (.ireturn, 1) := by decide +kernel
theorem dX1_miss_0 : decode cX1_miss 0 = .ok (.aload_n 0, 1) := by decide +kernel
theorem dX1_miss_1 : decode cX1_miss 1 = .ok (.iconst 0, 1) := by decide +kernel
theorem dX1_miss_2 : decode cX1_miss 2 = .ok (.putfield 38, 3) := by decide +kernel
theorem dX1_miss_5 : decode cX1_miss 5 = .ok (.aload_n 0, 1) := by decide +kernel
theorem dX1_miss_6 : decode cX1_miss 6 = .ok (.iload_n 1, 1) := by decide +kernel
theorem dX1_miss_7 : decode cX1_miss 7 = .ok (.invokevirtual 100, 3) := by decide +kernel
theorem dX1_miss_10 : decode cX1_miss 10 = .ok (.ifCond .ne 9, 3) := by decide +kernel
theorem dX1_miss_13 : decode cX1_miss 13 = .ok (.aload_n 0, 1) := by decide +kernel
theorem dX1_miss_14 : decode cX1_miss 14 = .ok (.iconst 1, 1) := by decide +kernel
theorem dX1_miss_15 : decode cX1_miss 15 = .ok (.invokevirtual 97, 3) := by decide +kernel
theorem dX1_miss_18 : decode cX1_miss 18 = .ok (.ireturn, 1) := by decide +kernel
theorem dX1_miss_19 : decode cX1_miss 19 = .ok (.iload_n 2, 1) := by decide +kernel
theorem dX1_miss_20 : decode cX1_miss 20 = .ok (.iconst 1, 1) := by decide +kernel
theorem dX1_miss_21 : decode cX1_miss 21 = .ok (.bipush 60, 2) := by decide +kernel
theorem dX1_miss_23 : decode cX1_miss 23 = .ok (.invokestatic 45, 3) := by decide +kernel
theorem dX1_miss_26 : decode cX1_miss 26 = .ok (.ifCond .ne 9, 3) := by decide +kernel
theorem dX1_miss_29 : decode cX1_miss 29 = .ok (.aload_n 0, 1) := by decide +kernel
theorem dX1_miss_30 : decode cX1_miss 30 = .ok (.iconst 2, 1) := by decide +kernel
theorem dX1_miss_31 : decode cX1_miss 31 = .ok (.invokevirtual 97, 3) := by decide +kernel
theorem dX1_miss_34 : decode cX1_miss 34 = .ok (.ireturn, 1) := by decide +kernel
theorem dX1_miss_35 : decode cX1_miss 35 = .ok (.aload_n 0, 1) := by decide +kernel
theorem dX1_miss_36 : decode cX1_miss 36 = .ok (.getfield 9, 3) := by decide +kernel
theorem dX1_miss_39 : decode cX1_miss 39 = .ok (.iload_n 1, 1) := by decide +kernel
theorem dX1_miss_40 : decode cX1_miss 40 = .ok (.baload, 1) := by decide +kernel
theorem dX1_miss_41 : decode cX1_miss 41 = .ok (.ifCond .ne 12, 3) := by decide +kernel
theorem dX1_miss_44 : decode cX1_miss 44 = .ok (.aload_n 0, 1) := by decide +kernel
theorem dX1_miss_45 : decode cX1_miss 45 = .ok (.getfield 52, 3) := by decide +kernel
theorem dX1_miss_48 : decode cX1_miss 48 = .ok (.bipush 60, 2) := by decide +kernel
theorem dX1_miss_50 : decode cX1_miss 50 = .ok (.if_icmp .ne 9, 3) := by decide +kernel
theorem dX1_miss_53 : decode cX1_miss 53 = .ok (.aload_n 0, 1) := by decide +kernel
theorem dX1_miss_54 : decode cX1_miss 54 = .ok (.iconst 3, 1) := by decide +kernel
theorem dX1_miss_55 : decode cX1_miss 55 = .ok (.invokevirtual 97, 3) := by decide +kernel
theorem dX1_miss_58 : decode cX1_miss 58 = .ok (.ireturn, 1) := by decide +kernel
theorem dX1_miss_59 : decode cX1_miss 59 = .ok (.aload_n 0, 1) := by decide +kernel
theorem dX1_miss_60 : decode cX1_miss 60 = .ok (.iload_n 2, 1) := by decide +kernel
theorem dX1_miss_61 : decode cX1_miss 61 = .ok (.invokevirtual 107, 3) := by decide +kernel
theorem dX1_miss_64 : decode cX1_miss 64 = .ok (.istore_n 3, 1) := by decide +kernel
theorem dX1_miss_65 : decode cX1_miss 65 = .ok (.iload_n 3, 1) := by decide +kernel
theorem dX1_miss_66 : decode cX1_miss 66 = .ok (.ifCond .le 69, 3) := by decide +kernel
theorem dX1_miss_69 : decode cX1_miss 69 = .ok (.iload_n 3, 1) := by decide +kernel
theorem dX1_miss_70 : decode cX1_miss 70 = .ok (.bipush 24, 2) := by decide +kernel
theorem dX1_miss_72 : decode cX1_miss 72 = .ok (.if_icmp .gt 63, 3) := by decide +kernel
theorem dX1_miss_75 : decode cX1_miss 75 = .ok (.aload_n 0, 1) := by decide +kernel
theorem dX1_miss_76 : decode cX1_miss 76 = .ok (.getfield 20, 3) := by decide +kernel
theorem dX1_miss_79 : decode cX1_miss 79 = .ok (.iload_n 1, 1) := by decide +kernel
theorem dX1_miss_80 : decode cX1_miss 80 = .ok (.iaload, 1) := by decide +kernel
theorem dX1_miss_81 : decode cX1_miss 81 = .ok (.ifCond .le 54, 3) := by decide +kernel
theorem dX1_miss_84 : decode cX1_miss 84 = .ok (.aload_n 0, 1) := by decide +kernel
theorem dX1_miss_85 : decode cX1_miss 85 = .ok (.iload_n 1, 1) := by decide +kernel
theorem dX1_miss_86 : decode cX1_miss 86 = .ok (.iload_n 3, 1) := by decide +kernel
theorem dX1_miss_87 : decode cX1_miss 87 = .ok (.invokevirtual 110, 3) := by decide +kernel
theorem dX1_miss_90 : decode cX1_miss 90 = .ok (.istore 4, 2) := by decide +kernel
theorem dX1_miss_92 : decode cX1_miss 92 = .ok (.aload_n 0, 1) := by decide +kernel
theorem dX1_miss_93 : decode cX1_miss 93 = .ok (.getfield 20, 3) := by decide +kernel
theorem dX1_miss_96 : decode cX1_miss 96 = .ok (.iload_n 1, 1) := by decide +kernel
theorem dX1_miss_97 : decode cX1_miss 97 = .ok (.dup2, 1) := by decide +kernel
theorem dX1_miss_98 : decode cX1_miss 98 = .ok (.iaload, 1) := by decide +kernel
theorem dX1_miss_99 : decode cX1_miss 99 = .ok (.iconst 1, 1) := by decide +kernel
theorem dX1_miss_100 : decode cX1_miss 100 = .ok (.isub, 1) := by decide +kernel
theorem dX1_miss_101 : decode cX1_miss 101 = .ok (.iastore, 1) := by decide +kernel
theorem dX1_miss_102 : decode cX1_miss 102 = .ok (.aload_n 0, 1) := by decide +kernel
theorem dX1_miss_103 : decode cX1_miss 103 = .ok (.dup, 1) := by decide +kernel
theorem dX1_miss_104 : decode cX1_miss 104 = .ok (.getfield 64, 3) := by decide +kernel
theorem dX1_miss_107 : decode cX1_miss 107 = .ok (.iload 4, 2) := by decide +kernel
theorem dX1_miss_109 : decode cX1_miss 109 = .ok (.isub, 1) := by decide +kernel
theorem dX1_miss_110 : decode cX1_miss 110 = .ok (.putfield 64, 3) := by decide +kernel
theorem dX1_miss_113 : decode cX1_miss 113 = .ok (.aload_n 0, 1) := by decide +kernel
theorem dX1_miss_114 : decode cX1_miss 114 = .ok (.getfield 17, 3) := by decide +kernel
theorem dX1_miss_117 : decode cX1_miss 117 = .ok (.iload_n 1, 1) := by decide +kernel
theorem dX1_miss_118 : decode cX1_miss 118 = .ok (.dup2, 1) := by decide +kernel
theorem dX1_miss_119 : decode cX1_miss 119 = .ok (.iaload, 1) := by decide +kernel
theorem dX1_miss_120 : decode cX1_miss 120 = .ok (.iload 4, 2) := by decide +kernel
theorem dX1_miss_122 : decode cX1_miss 122 = .ok (.iadd, 1) := by decide +kernel
theorem dX1_miss_123 : decode cX1_miss 123 = .ok (.iastore, 1) := by decide +kernel
theorem dX1_miss_124 : decode cX1_miss 124 = .ok (.aload_n 0, 1) := by decide +kernel
theorem dX1_miss_125 : decode cX1_miss 125 = .ok (.dup, 1) := by decide +kernel
theorem dX1_miss_126 : decode cX1_miss 126 = .ok (.getfield 113, 3) := by decide +kernel
theorem dX1_miss_129 : decode cX1_miss 129 = .ok (.iload 4, 2) := by decide +kernel
theorem dX1_miss_131 : decode cX1_miss 131 = .ok (.iadd, 1) := by decide +kernel
theorem dX1_miss_132 : decode cX1_miss 132 = .ok (.putfield 113, 3) := by decide +kernel
theorem dX1_miss_135 : decode cX1_miss 135 = .ok (.aload_n 0, 1) := by decide +kernel
theorem dX1_miss_136 : decode cX1_miss 136 = .ok (.getfield 13, 3) := by decide +kernel
theorem dX1_miss_139 : decode cX1_miss 139 = .ok (.iload_n 1, 1) := by decide +kernel
theorem dX1_miss_140 : decode cX1_miss 140 = .ok (.iconst 0, 1) := by decide +kernel
theorem dX1_miss_141 : decode cX1_miss 141 = .ok (.aload_n 0, 1) := by decide +kernel
theorem dX1_miss_142 : decode cX1_miss 142 = .ok (.getfield 13, 3) := by decide +kernel
theorem dX1_miss_145 : decode cX1_miss 145 = .ok (.iload_n 1, 1) := by decide +kernel
theorem dX1_miss_146 : decode cX1_miss 146 = .ok (.iaload, 1) := by decide +kernel
theorem dX1_miss_147 : decode cX1_miss 147 = .ok (.bipush 60, 2) := by decide +kernel
theorem dX1_miss_149 : decode cX1_miss 149 = .ok (.iload_n 2, 1) := by decide +kernel
theorem dX1_miss_150 : decode cX1_miss 150 = .ok (.isub, 1) := by decide +kernel
theorem dX1_miss_151 : decode cX1_miss 151 = .ok (.bipush 10, 2) := by decide +kernel
theorem dX1_miss_153 : decode cX1_miss 153 = .ok (.idiv, 1) := by decide +kernel
theorem dX1_miss_154 : decode cX1_miss 154 = .ok (.isub, 1) := by decide +kernel
theorem dX1_miss_155 : decode cX1_miss 155 = .ok (.invokestatic 55, 3) := by decide +kernel
theorem dX1_miss_158 : decode cX1_miss 158 = .ok (.iastore, 1) := by decide +kernel
theorem dX1_miss_159 : decode cX1_miss 159 = .ok (.iconst 0, 1) := by decide +kernel
theorem dX1_miss_160 : decode cX1_miss 160 = .ok (.istore 4, 2) := by decide +kernel
theorem dX1_miss_162 : decode cX1_miss 162 = .ok (.iload 4, 2) := by decide +kernel
theorem dX1_miss_164 : decode cX1_miss 164 = .ok (.aload_n 0, 1) := by decide +kernel
theorem dX1_miss_165 : decode cX1_miss 165 = .ok (.getfield 49, 3) := by decide +kernel
theorem dX1_miss_168 : decode cX1_miss 168 = .ok (.if_icmp .ge 42, 3) := by decide +kernel
theorem dX1_miss_171 : decode cX1_miss 171 = .ok (.aload_n 0, 1) := by decide +kernel
theorem dX1_miss_172 : decode cX1_miss 172 = .ok (.getfield 29, 3) := by decide +kernel
theorem dX1_miss_175 : decode cX1_miss 175 = .ok (.iload 4, 2) := by decide +kernel
theorem dX1_miss_177 : decode cX1_miss 177 = .ok (.baload, 1) := by decide +kernel
theorem dX1_miss_178 : decode cX1_miss 178 = .ok (.ifCond .ne 26, 3) := by decide +kernel
theorem dX1_miss_181 : decode cX1_miss 181 = .ok (.aload_n 0, 1) := by decide +kernel
theorem dX1_miss_182 : decode cX1_miss 182 = .ok (.getfield 26, 3) := by decide +kernel
theorem dX1_miss_185 : decode cX1_miss 185 = .ok (.iload 4, 2) := by decide +kernel
theorem dX1_miss_187 : decode cX1_miss 187 = .ok (.iconst 0, 1) := by decide +kernel
theorem dX1_miss_188 : decode cX1_miss 188 = .ok (.aload_n 0, 1) := by decide +kernel
theorem dX1_miss_189 : decode cX1_miss 189 = .ok (.getfield 26, 3) := by decide +kernel
theorem dX1_miss_192 : decode cX1_miss 192 = .ok (.iload 4, 2) := by decide +kernel
theorem dX1_miss_194 : decode cX1_miss 194 = .ok (.iaload, 1) := by decide +kernel
theorem dX1_miss_195 : decode cX1_miss 195 = .ok (.iload_n 2, 1) := by decide +kernel
theorem dX1_miss_196 : decode cX1_miss 196 = .ok (.invokestatic 116, 3) := by decide +kernel
theorem dX1_miss_199 : decode cX1_miss 199 = .ok (.isub, 1) := by decide +kernel
theorem dX1_miss_200 : decode cX1_miss 200 = .ok (.invokestatic 55, 3) := by decide +kernel
theorem dX1_miss_203 : decode cX1_miss 203 = .ok (.iastore, 1) := by decide +kernel
theorem dX1_miss_204 : decode cX1_miss 204 = .ok (.iinc 4 1, 3) := by decide +kernel
theorem dX1_miss_207 : decode cX1_miss 207 = .ok (.goto (-45), 3) := by decide +kernel
theorem dX1_miss_210 : decode cX1_miss 210 = .ok (.aload_n 0, 1) := by decide +kernel
theorem dX1_miss_211 : decode cX1_miss 211 = .ok (.getfield 32, 3) := by decide +kernel
theorem dX1_miss_214 : decode cX1_miss 214 = .ok (.aload_n 0, 1) := by decide +kernel
theorem dX1_miss_215 : decode cX1_miss 215 = .ok (.getfield 52, 3) := by decide +kernel
theorem dX1_miss_218 : decode cX1_miss 218 = .ok (.iload_n 1, 1) := by decide +kernel
theorem dX1_miss_219 : decode cX1_miss 219 = .ok (.iastore, 1) := by decide +kernel
theorem dX1_miss_220 : decode cX1_miss 220 = .ok (.aload_n 0, 1) := by decide +kernel
theorem dX1_miss_221 : decode cX1_miss 221 = .ok (.getfield 35, 3) := by decide +kernel
theorem dX1_miss_224 : decode cX1_miss 224 = .ok (.aload_n 0, 1) := by decide +kernel
theorem dX1_miss_225 : decode cX1_miss 225 = .ok (.getfield 52, 3) := by decide +kernel
theorem dX1_miss_228 : decode cX1_miss 228 = .ok (.iload_n 3, 1) := by decide +kernel
theorem dX1_miss_229 : decode cX1_miss 229 = .ok (.iastore, 1) := by decide +kernel
theorem dX1_miss_230 : decode cX1_miss 230 = .ok (.aload_n 0, 1) := by decide +kernel
theorem dX1_miss_231 : decode cX1_miss 231 = .ok (.dup, 1) := by decide +kernel
theorem dX1_miss_232 : decode cX1_miss 232 = .ok (.getfield 52, 3) := by decide +kernel
theorem dX1_miss_235 : decode cX1_miss 235 = .ok (.iconst 1, 1) := by decide +kernel
theorem dX1_miss_236 : decode cX1_miss 236 = .ok (.iadd, 1) := by decide +kernel
theorem dX1_miss_237 : decode cX1_miss 237 = .ok (.putfield 52, 3) := by decide +kernel
theorem dX1_miss_240 : decode cX1_miss 240 = .ok (.iload_n 3, 1) := by decide +kernel
theorem dX1_miss_241 : decode cX1_miss 241 = .ok (.ireturn, 1) := by decide +kernel
theorem dX1_hit_0 : decode cX1_hit 0 = .ok (.aload_n 0, 1) := by decide +kernel
theorem dX1_hit_1 : decode cX1_hit 1 = .ok (.iconst 0, 1) := by decide +kernel
theorem dX1_hit_2 : decode cX1_hit 2 = .ok (.putfield 38, 3) := by decide +kernel
theorem dX1_hit_5 : decode cX1_hit 5 = .ok (.aload_n 0, 1) := by decide +kernel
theorem dX1_hit_6 : decode cX1_hit 6 = .ok (.iload_n 1, 1) := by decide +kernel
theorem dX1_hit_7 : decode cX1_hit 7 = .ok (.invokevirtual 100, 3) := by decide +kernel
theorem dX1_hit_10 : decode cX1_hit 10 = .ok (.ifCond .ne 9, 3) := by decide +kernel
theorem dX1_hit_13 : decode cX1_hit 13 = .ok (.aload_n 0, 1) := by decide +kernel
theorem dX1_hit_14 : decode cX1_hit 14 = .ok (.iconst 1, 1) := by decide +kernel
theorem dX1_hit_15 : decode cX1_hit 15 = .ok (.invokevirtual 97, 3) := by decide +kernel
theorem dX1_hit_18 : decode cX1_hit 18 = .ok (.ireturn, 1) := by decide +kernel
theorem dX1_hit_19 : decode cX1_hit 19 = .ok (.aload_n 0, 1) := by decide +kernel
theorem dX1_hit_20 : decode cX1_hit 20 = .ok (.getfield 9, 3) := by decide +kernel
theorem dX1_hit_23 : decode cX1_hit 23 = .ok (.iload_n 1, 1) := by decide +kernel
theorem dX1_hit_24 : decode cX1_hit 24 = .ok (.baload, 1) := by decide +kernel
theorem dX1_hit_25 : decode cX1_hit 25 = .ok (.ifCond .eq 9, 3) := by decide +kernel
theorem dX1_hit_28 : decode cX1_hit 28 = .ok (.aload_n 0, 1) := by decide +kernel
theorem dX1_hit_29 : decode cX1_hit 29 = .ok (.iconst 2, 1) := by decide +kernel
theorem dX1_hit_30 : decode cX1_hit 30 = .ok (.invokevirtual 97, 3) := by decide +kernel
theorem dX1_hit_33 : decode cX1_hit 33 = .ok (.ireturn, 1) := by decide +kernel
theorem dX1_hit_34 : decode cX1_hit 34 = .ok (.aload_n 0, 1) := by decide +kernel
theorem dX1_hit_35 : decode cX1_hit 35 = .ok (.iload_n 1, 1) := by decide +kernel
theorem dX1_hit_36 : decode cX1_hit 36 = .ok (.invokevirtual 119, 3) := by decide +kernel
theorem dX1_hit_39 : decode cX1_hit 39 = .ok (.istore_n 2, 1) := by decide +kernel
theorem dX1_hit_40 : decode cX1_hit 40 = .ok (.aload_n 0, 1) := by decide +kernel
theorem dX1_hit_41 : decode cX1_hit 41 = .ok (.getfield 9, 3) := by decide +kernel
theorem dX1_hit_44 : decode cX1_hit 44 = .ok (.iload_n 1, 1) := by decide +kernel
theorem dX1_hit_45 : decode cX1_hit 45 = .ok (.iconst 1, 1) := by decide +kernel
theorem dX1_hit_46 : decode cX1_hit 46 = .ok (.bastore, 1) := by decide +kernel
theorem dX1_hit_47 : decode cX1_hit 47 = .ok (.iload_n 2, 1) := by decide +kernel
theorem dX1_hit_48 : decode cX1_hit 48 = .ok (.iconst (-1), 1) := by decide +kernel
theorem dX1_hit_49 : decode cX1_hit 49 = .ok (.if_icmp .ne 21, 3) := by decide +kernel
theorem dX1_hit_52 : decode cX1_hit 52 = .ok (.aload_n 0, 1) := by decide +kernel
theorem dX1_hit_53 : decode cX1_hit 53 = .ok (.dup, 1) := by decide +kernel
theorem dX1_hit_54 : decode cX1_hit 54 = .ok (.getfield 64, 3) := by decide +kernel
theorem dX1_hit_57 : decode cX1_hit 57 = .ok (.aload_n 0, 1) := by decide +kernel
theorem dX1_hit_58 : decode cX1_hit 58 = .ok (.getfield 17, 3) := by decide +kernel
theorem dX1_hit_61 : decode cX1_hit 61 = .ok (.iload_n 1, 1) := by decide +kernel
theorem dX1_hit_62 : decode cX1_hit 62 = .ok (.iaload, 1) := by decide +kernel
theorem dX1_hit_63 : decode cX1_hit 63 = .ok (.iadd, 1) := by decide +kernel
theorem dX1_hit_64 : decode cX1_hit 64 = .ok (.putfield 64, 3) := by decide +kernel
theorem dX1_hit_67 : decode cX1_hit 67 = .ok (.goto 44, 3) := by decide +kernel
theorem dX1_hit_70 : decode cX1_hit 70 = .ok (.aload_n 0, 1) := by decide +kernel
theorem dX1_hit_71 : decode cX1_hit 71 = .ok (.getfield 13, 3) := by decide +kernel
theorem dX1_hit_74 : decode cX1_hit 74 = .ok (.iload_n 2, 1) := by decide +kernel
theorem dX1_hit_75 : decode cX1_hit 75 = .ok (.bipush 99, 2) := by decide +kernel
theorem dX1_hit_77 : decode cX1_hit 77 = .ok (.aload_n 0, 1) := by decide +kernel
theorem dX1_hit_78 : decode cX1_hit 78 = .ok (.getfield 13, 3) := by decide +kernel
theorem dX1_hit_81 : decode cX1_hit 81 = .ok (.iload_n 2, 1) := by decide +kernel
theorem dX1_hit_82 : decode cX1_hit 82 = .ok (.iaload, 1) := by decide +kernel
theorem dX1_hit_83 : decode cX1_hit 83 = .ok (.aload_n 0, 1) := by decide +kernel
theorem dX1_hit_84 : decode cX1_hit 84 = .ok (.getfield 13, 3) := by decide +kernel
theorem dX1_hit_87 : decode cX1_hit 87 = .ok (.iload_n 1, 1) := by decide +kernel
theorem dX1_hit_88 : decode cX1_hit 88 = .ok (.iaload, 1) := by decide +kernel
theorem dX1_hit_89 : decode cX1_hit 89 = .ok (.iconst 2, 1) := by decide +kernel
theorem dX1_hit_90 : decode cX1_hit 90 = .ok (.idiv, 1) := by decide +kernel
theorem dX1_hit_91 : decode cX1_hit 91 = .ok (.iadd, 1) := by decide +kernel
theorem dX1_hit_92 : decode cX1_hit 92 = .ok (.invokestatic 71, 3) := by decide +kernel
theorem dX1_hit_95 : decode cX1_hit 95 = .ok (.iastore, 1) := by decide +kernel
theorem dX1_hit_96 : decode cX1_hit 96 = .ok (.aload_n 0, 1) := by decide +kernel
theorem dX1_hit_97 : decode cX1_hit 97 = .ok (.getfield 17, 3) := by decide +kernel
theorem dX1_hit_100 : decode cX1_hit 100 = .ok (.iload_n 2, 1) := by decide +kernel
theorem dX1_hit_101 : decode cX1_hit 101 = .ok (.dup2, 1) := by decide +kernel
theorem dX1_hit_102 : decode cX1_hit 102 = .ok (.iaload, 1) := by decide +kernel
theorem dX1_hit_103 : decode cX1_hit 103 = .ok (.aload_n 0, 1) := by decide +kernel
theorem dX1_hit_104 : decode cX1_hit 104 = .ok (.getfield 17, 3) := by decide +kernel
theorem dX1_hit_107 : decode cX1_hit 107 = .ok (.iload_n 1, 1) := by decide +kernel
theorem dX1_hit_108 : decode cX1_hit 108 = .ok (.iaload, 1) := by decide +kernel
theorem dX1_hit_109 : decode cX1_hit 109 = .ok (.iadd, 1) := by decide +kernel
theorem dX1_hit_110 : decode cX1_hit 110 = .ok (.iastore, 1) := by decide +kernel
theorem dX1_hit_111 : decode cX1_hit 111 = .ok (.aload_n 0, 1) := by decide +kernel
theorem dX1_hit_112 : decode cX1_hit 112 = .ok (.getfield 17, 3) := by decide +kernel
theorem dX1_hit_115 : decode cX1_hit 115 = .ok (.iload_n 1, 1) := by decide +kernel
theorem dX1_hit_116 : decode cX1_hit 116 = .ok (.iconst 0, 1) := by decide +kernel
theorem dX1_hit_117 : decode cX1_hit 117 = .ok (.iastore, 1) := by decide +kernel
theorem dX1_hit_118 : decode cX1_hit 118 = .ok (.aload_n 0, 1) := by decide +kernel
theorem dX1_hit_119 : decode cX1_hit 119 = .ok (.getfield 20, 3) := by decide +kernel
theorem dX1_hit_122 : decode cX1_hit 122 = .ok (.iload_n 1, 1) := by decide +kernel
theorem dX1_hit_123 : decode cX1_hit 123 = .ok (.iconst 0, 1) := by decide +kernel
theorem dX1_hit_124 : decode cX1_hit 124 = .ok (.iastore, 1) := by decide +kernel
theorem dX1_hit_125 : decode cX1_hit 125 = .ok (.iload_n 2, 1) := by decide +kernel
theorem dX1_hit_126 : decode cX1_hit 126 = .ok (.ireturn, 1) := by decide +kernel
theorem dX1_shakenNow_0 : decode cX1_shakenNow 0 = .ok (.iconst 0, 1) := by decide +kernel
theorem dX1_shakenNow_1 : decode cX1_shakenNow 1 = .ok (.istore_n 1, 1) := by decide +kernel
theorem dX1_shakenNow_2 : decode cX1_shakenNow 2 = .ok (.iconst 0, 1) := by decide +kernel
theorem dX1_shakenNow_3 : decode cX1_shakenNow 3 = .ok (.istore_n 2, 1) := by decide +kernel
theorem dX1_shakenNow_4 : decode cX1_shakenNow 4 = .ok (.iload_n 2, 1) := by decide +kernel
theorem dX1_shakenNow_5 : decode cX1_shakenNow 5 = .ok (.aload_n 0, 1) := by decide +kernel
theorem dX1_shakenNow_6 : decode cX1_shakenNow 6 = .ok (.getfield 49, 3) := by decide +kernel
theorem dX1_shakenNow_9 : decode cX1_shakenNow 9 = .ok (.if_icmp .ge 27, 3) := by decide +kernel
theorem dX1_shakenNow_12 : decode cX1_shakenNow 12 = .ok (.iload_n 1, 1) := by decide +kernel
theorem dX1_shakenNow_13 : decode cX1_shakenNow 13 = .ok (.aload_n 0, 1) := by decide +kernel
theorem dX1_shakenNow_14 : decode cX1_shakenNow 14 = .ok (.getfield 26, 3) := by decide +kernel
theorem dX1_shakenNow_17 : decode cX1_shakenNow 17 = .ok (.iload_n 2, 1) := by decide +kernel
theorem dX1_shakenNow_18 : decode cX1_shakenNow 18 = .ok (.iaload, 1) := by decide +kernel
theorem dX1_shakenNow_19 : decode cX1_shakenNow 19 = .ok (.iconst 2, 1) := by decide +kernel
theorem dX1_shakenNow_20 : decode cX1_shakenNow 20 = .ok (.if_icmp .gt 7, 3) := by decide +kernel
theorem dX1_shakenNow_23 : decode cX1_shakenNow 23 = .ok (.iconst 1, 1) := by decide +kernel
theorem dX1_shakenNow_24 : decode cX1_shakenNow 24 = .ok (.goto 4, 3) := by decide +kernel
theorem dX1_shakenNow_27 : decode cX1_shakenNow 27 = .ok (.iconst 0, 1) := by decide +kernel
theorem dX1_shakenNow_28 : decode cX1_shakenNow 28 = .ok (.iadd, 1) := by decide +kernel
theorem dX1_shakenNow_29 : decode cX1_shakenNow 29 = .ok (.istore_n 1, 1) := by decide +kernel
theorem dX1_shakenNow_30 : decode cX1_shakenNow 30 = .ok (.iinc 2 1, 3) := by decide +kernel
theorem dX1_shakenNow_33 : decode cX1_shakenNow 33 = .ok (.goto (-29), 3) := by decide +kernel
theorem dX1_shakenNow_36 : decode cX1_shakenNow 36 = .ok (.iload_n 1, 1) := by decide +kernel
theorem dX1_shakenNow_37 : decode cX1_shakenNow 37 = .ok (.ireturn, 1) := by decide +kernel
theorem dX1_pass_0 : decode cX1_pass 0 = .ok (.aload_n 0, 1) := by decide +kernel
theorem dX1_pass_1 : decode cX1_pass 1 = .ok (.iconst 0, 1) := by decide +kernel
theorem dX1_pass_2 : decode cX1_pass 2 = .ok (.putfield 38, 3) := by decide +kernel
theorem dX1_pass_5 : decode cX1_pass 5 = .ok (.iload_n 1, 1) := by decide +kernel
theorem dX1_pass_6 : decode cX1_pass 6 = .ok (.iconst 1, 1) := by decide +kernel
theorem dX1_pass_7 : decode cX1_pass 7 = .ok (.bipush 30, 2) := by decide +kernel
theorem dX1_pass_9 : decode cX1_pass 9 = .ok (.invokestatic 45, 3) := by decide +kernel
theorem dX1_pass_12 : decode cX1_pass 12 = .ok (.ifCond .ne 9, 3) := by decide +kernel
theorem dX1_pass_15 : decode cX1_pass 15 = .ok (.aload_n 0, 1) := by decide +kernel
theorem dX1_pass_16 : decode cX1_pass 16 = .ok (.iconst 1, 1) := by decide +kernel
theorem dX1_pass_17 : decode cX1_pass 17 = .ok (.invokevirtual 97, 3) := by decide +kernel
theorem dX1_pass_20 : decode cX1_pass 20 = .ok (.ireturn, 1) := by decide +kernel
theorem dX1_pass_21 : decode cX1_pass 21 = .ok (.iconst 0, 1) := by decide +kernel
theorem dX1_pass_22 : decode cX1_pass 22 = .ok (.istore_n 2, 1) := by decide +kernel
theorem dX1_pass_23 : decode cX1_pass 23 = .ok (.iload_n 2, 1) := by decide +kernel
theorem dX1_pass_24 : decode cX1_pass 24 = .ok (.aload_n 0, 1) := by decide +kernel
theorem dX1_pass_25 : decode cX1_pass 25 = .ok (.getfield 49, 3) := by decide +kernel
theorem dX1_pass_28 : decode cX1_pass 28 = .ok (.if_icmp .ge 43, 3) := by decide +kernel
theorem dX1_pass_31 : decode cX1_pass 31 = .ok (.aload_n 0, 1) := by decide +kernel
theorem dX1_pass_32 : decode cX1_pass 32 = .ok (.getfield 26, 3) := by decide +kernel
theorem dX1_pass_35 : decode cX1_pass 35 = .ok (.iload_n 2, 1) := by decide +kernel
theorem dX1_pass_36 : decode cX1_pass 36 = .ok (.bipush 9, 2) := by decide +kernel
theorem dX1_pass_38 : decode cX1_pass 38 = .ok (.aload_n 0, 1) := by decide +kernel
theorem dX1_pass_39 : decode cX1_pass 39 = .ok (.getfield 26, 3) := by decide +kernel
theorem dX1_pass_42 : decode cX1_pass 42 = .ok (.iload_n 2, 1) := by decide +kernel
theorem dX1_pass_43 : decode cX1_pass 43 = .ok (.iaload, 1) := by decide +kernel
theorem dX1_pass_44 : decode cX1_pass 44 = .ok (.iload_n 1, 1) := by decide +kernel
theorem dX1_pass_45 : decode cX1_pass 45 = .ok (.aload_n 0, 1) := by decide +kernel
theorem dX1_pass_46 : decode cX1_pass 46 = .ok (.getfield 29, 3) := by decide +kernel
theorem dX1_pass_49 : decode cX1_pass 49 = .ok (.iload_n 2, 1) := by decide +kernel
theorem dX1_pass_50 : decode cX1_pass 50 = .ok (.baload, 1) := by decide +kernel
theorem dX1_pass_51 : decode cX1_pass 51 = .ok (.ifCond .eq 7, 3) := by decide +kernel
theorem dX1_pass_54 : decode cX1_pass 54 = .ok (.iconst 2, 1) := by decide +kernel
theorem dX1_pass_55 : decode cX1_pass 55 = .ok (.goto 4, 3) := by decide +kernel
theorem dX1_pass_58 : decode cX1_pass 58 = .ok (.iconst 1, 1) := by decide +kernel
theorem dX1_pass_59 : decode cX1_pass 59 = .ok (.imul, 1) := by decide +kernel
theorem dX1_pass_60 : decode cX1_pass 60 = .ok (.iadd, 1) := by decide +kernel
theorem dX1_pass_61 : decode cX1_pass 61 = .ok (.invokestatic 71, 3) := by decide +kernel
theorem dX1_pass_64 : decode cX1_pass 64 = .ok (.iastore, 1) := by decide +kernel
theorem dX1_pass_65 : decode cX1_pass 65 = .ok (.iinc 2 1, 3) := by decide +kernel
theorem dX1_pass_68 : decode cX1_pass 68 = .ok (.goto (-45), 3) := by decide +kernel
theorem dX1_pass_71 : decode cX1_pass 71 = .ok (.iconst 0, 1) := by decide +kernel
theorem dX1_pass_72 : decode cX1_pass 72 = .ok (.istore_n 2, 1) := by decide +kernel
theorem dX1_pass_73 : decode cX1_pass 73 = .ok (.iload_n 2, 1) := by decide +kernel
theorem dX1_pass_74 : decode cX1_pass 74 = .ok (.aload_n 0, 1) := by decide +kernel
theorem dX1_pass_75 : decode cX1_pass 75 = .ok (.getfield 42, 3) := by decide +kernel
theorem dX1_pass_78 : decode cX1_pass 78 = .ok (.if_icmp .ge 37, 3) := by decide +kernel
theorem dX1_pass_81 : decode cX1_pass 81 = .ok (.aload_n 0, 1) := by decide +kernel
theorem dX1_pass_82 : decode cX1_pass 82 = .ok (.getfield 9, 3) := by decide +kernel
theorem dX1_pass_85 : decode cX1_pass 85 = .ok (.iload_n 2, 1) := by decide +kernel
theorem dX1_pass_86 : decode cX1_pass 86 = .ok (.baload, 1) := by decide +kernel
theorem dX1_pass_87 : decode cX1_pass 87 = .ok (.ifCond .ne 22, 3) := by decide +kernel
theorem dX1_pass_90 : decode cX1_pass 90 = .ok (.aload_n 0, 1) := by decide +kernel
theorem dX1_pass_91 : decode cX1_pass 91 = .ok (.getfield 13, 3) := by decide +kernel
theorem dX1_pass_94 : decode cX1_pass 94 = .ok (.iload_n 2, 1) := by decide +kernel
theorem dX1_pass_95 : decode cX1_pass 95 = .ok (.bipush 99, 2) := by decide +kernel
theorem dX1_pass_97 : decode cX1_pass 97 = .ok (.aload_n 0, 1) := by decide +kernel
theorem dX1_pass_98 : decode cX1_pass 98 = .ok (.getfield 13, 3) := by decide +kernel
theorem dX1_pass_101 : decode cX1_pass 101 = .ok (.iload_n 2, 1) := by decide +kernel
theorem dX1_pass_102 : decode cX1_pass 102 = .ok (.iaload, 1) := by decide +kernel
theorem dX1_pass_103 : decode cX1_pass 103 = .ok (.iload_n 1, 1) := by decide +kernel
theorem dX1_pass_104 : decode cX1_pass 104 = .ok (.iadd, 1) := by decide +kernel
theorem dX1_pass_105 : decode cX1_pass 105 = .ok (.invokestatic 71, 3) := by decide +kernel
theorem dX1_pass_108 : decode cX1_pass 108 = .ok (.iastore, 1) := by decide +kernel
theorem dX1_pass_109 : decode cX1_pass 109 = .ok (.iinc 2 1, 3) := by decide +kernel
theorem dX1_pass_112 : decode cX1_pass 112 = .ok (.goto (-39), 3) := by decide +kernel
theorem dX1_pass_115 : decode cX1_pass 115 = .ok (.aload_n 0, 1) := by decide +kernel
theorem dX1_pass_116 : decode cX1_pass 116 = .ok (.dup, 1) := by decide +kernel
theorem dX1_pass_117 : decode cX1_pass 117 = .ok (.getfield 122, 3) := by decide +kernel
theorem dX1_pass_120 : decode cX1_pass 120 = .ok (.iload_n 1, 1) := by decide +kernel
theorem dX1_pass_121 : decode cX1_pass 121 = .ok (.iadd, 1) := by decide +kernel
theorem dX1_pass_122 : decode cX1_pass 122 = .ok (.putfield 122, 3) := by decide +kernel
theorem dX1_pass_125 : decode cX1_pass 125 = .ok (.aload_n 0, 1) := by decide +kernel
theorem dX1_pass_126 : decode cX1_pass 126 = .ok (.invokevirtual 125, 3) := by decide +kernel
theorem dX1_pass_129 : decode cX1_pass 129 = .ok (.ireturn, 1) := by decide +kernel
theorem dX1_night_0 : decode cX1_night 0 = .ok (.aload_n 0, 1) := by decide +kernel
theorem dX1_night_1 : decode cX1_night 1 = .ok (.aload_n 0, 1) := by decide +kernel
theorem dX1_night_2 : decode cX1_night 2 = .ok (.getfield 122, 3) := by decide +kernel
theorem dX1_night_5 : decode cX1_night 5 = .ok (.invokevirtual 128, 3) := by decide +kernel
theorem dX1_night_8 : decode cX1_night 8 = .ok (.ireturn, 1) := by decide +kernel
theorem dX1_persons_0 : decode cX1_persons 0 = .ok (.aload_n 0, 1) := by decide +kernel
theorem dX1_persons_1 : decode cX1_persons 1 = .ok (.aload_n 0, 1) := by decide +kernel
theorem dX1_persons_2 : decode cX1_persons 2 = .ok (.getfield 42, 3) := by decide +kernel
theorem dX1_persons_5 : decode cX1_persons 5 = .ok (.invokevirtual 128, 3) := by decide +kernel
theorem dX1_persons_8 : decode cX1_persons 8 = .ok (.ireturn, 1) := by decide +kernel
theorem dX1_living_0 : decode cX1_living 0 = .ok (.iconst 0, 1) := by decide +kernel
theorem dX1_living_1 : decode cX1_living 1 = .ok (.istore_n 1, 1) := by decide +kernel
theorem dX1_living_2 : decode cX1_living 2 = .ok (.iconst 0, 1) := by decide +kernel
theorem dX1_living_3 : decode cX1_living 3 = .ok (.istore_n 2, 1) := by decide +kernel
theorem dX1_living_4 : decode cX1_living 4 = .ok (.iload_n 2, 1) := by decide +kernel
theorem dX1_living_5 : decode cX1_living 5 = .ok (.aload_n 0, 1) := by decide +kernel
theorem dX1_living_6 : decode cX1_living 6 = .ok (.getfield 42, 3) := by decide +kernel
theorem dX1_living_9 : decode cX1_living 9 = .ok (.if_icmp .ge 26, 3) := by decide +kernel
theorem dX1_living_12 : decode cX1_living 12 = .ok (.iload_n 1, 1) := by decide +kernel
theorem dX1_living_13 : decode cX1_living 13 = .ok (.aload_n 0, 1) := by decide +kernel
theorem dX1_living_14 : decode cX1_living 14 = .ok (.getfield 9, 3) := by decide +kernel
theorem dX1_living_17 : decode cX1_living 17 = .ok (.iload_n 2, 1) := by decide +kernel
theorem dX1_living_18 : decode cX1_living 18 = .ok (.baload, 1) := by decide +kernel
theorem dX1_living_19 : decode cX1_living 19 = .ok (.ifCond .eq 7, 3) := by decide +kernel
theorem dX1_living_22 : decode cX1_living 22 = .ok (.iconst 0, 1) := by decide +kernel
theorem dX1_living_23 : decode cX1_living 23 = .ok (.goto 4, 3) := by decide +kernel
theorem dX1_living_26 : decode cX1_living 26 = .ok (.iconst 1, 1) := by decide +kernel
theorem dX1_living_27 : decode cX1_living 27 = .ok (.iadd, 1) := by decide +kernel
theorem dX1_living_28 : decode cX1_living 28 = .ok (.istore_n 1, 1) := by decide +kernel
theorem dX1_living_29 : decode cX1_living 29 = .ok (.iinc 2 1, 3) := by decide +kernel
theorem dX1_living_32 : decode cX1_living 32 = .ok (.goto (-28), 3) := by decide +kernel
theorem dX1_living_35 : decode cX1_living 35 = .ok (.iload_n 1, 1) := by decide +kernel
theorem dX1_living_36 : decode cX1_living 36 = .ok (.ireturn, 1) := by decide +kernel
theorem dX1_alive_0 : decode cX1_alive 0 = .ok (.aload_n 0, 1) := by decide +kernel
theorem dX1_alive_1 : decode cX1_alive 1 = .ok (.aload_n 0, 1) := by decide +kernel
theorem dX1_alive_2 : decode cX1_alive 2 = .ok (.invokevirtual 131, 3) := by decide +kernel
theorem dX1_alive_5 : decode cX1_alive 5 = .ok (.invokevirtual 128, 3) := by decide +kernel
theorem dX1_alive_8 : decode cX1_alive 8 = .ok (.ireturn, 1) := by decide +kernel
theorem dX1_witnesses_0 : decode cX1_witnesses 0 = .ok (.aload_n 0, 1) := by decide +kernel
theorem dX1_witnesses_1 : decode cX1_witnesses 1 = .ok (.aload_n 0, 1) := by decide +kernel
theorem dX1_witnesses_2 : decode cX1_witnesses 2 = .ok (.getfield 49, 3) := by decide +kernel
theorem dX1_witnesses_5 : decode cX1_witnesses 5 = .ok (.invokevirtual 128, 3) := by decide +kernel
theorem dX1_witnesses_8 : decode cX1_witnesses 8 = .ok (.ireturn, 1) := by decide +kernel
theorem dX1_shaken_0 : decode cX1_shaken 0 = .ok (.aload_n 0, 1) := by decide +kernel
theorem dX1_shaken_1 : decode cX1_shaken 1 = .ok (.aload_n 0, 1) := by decide +kernel
theorem dX1_shaken_2 : decode cX1_shaken 2 = .ok (.invokevirtual 125, 3) := by decide +kernel
theorem dX1_shaken_5 : decode cX1_shaken 5 = .ok (.invokevirtual 128, 3) := by decide +kernel
theorem dX1_shaken_8 : decode cX1_shaken 8 = .ok (.ireturn, 1) := by decide +kernel
theorem dX1_fund_0 : decode cX1_fund 0 = .ok (.aload_n 0, 1) := by decide +kernel
theorem dX1_fund_1 : decode cX1_fund 1 = .ok (.aload_n 0, 1) := by decide +kernel
theorem dX1_fund_2 : decode cX1_fund 2 = .ok (.getfield 64, 3) := by decide +kernel
theorem dX1_fund_5 : decode cX1_fund 5 = .ok (.invokevirtual 128, 3) := by decide +kernel
theorem dX1_fund_8 : decode cX1_fund 8 = .ok (.ireturn, 1) := by decide +kernel
theorem dX1_refunded_0 : decode cX1_refunded 0 = .ok (.aload_n 0, 1) := by decide +kernel
theorem dX1_refunded_1 : decode cX1_refunded 1 = .ok (.aload_n 0, 1) := by decide +kernel
theorem dX1_refunded_2 : decode cX1_refunded 2 = .ok (.getfield 113, 3) := by decide +kernel
theorem dX1_refunded_5 : decode cX1_refunded 5 = .ok (.invokevirtual 128, 3) := by decide +kernel
theorem dX1_refunded_8 : decode cX1_refunded 8 = .ok (.ireturn, 1) := by decide +kernel
theorem dX1_misses_0 : decode cX1_misses 0 = .ok (.aload_n 0, 1) := by decide +kernel
theorem dX1_misses_1 : decode cX1_misses 1 = .ok (.aload_n 0, 1) := by decide +kernel
theorem dX1_misses_2 : decode cX1_misses 2 = .ok (.getfield 52, 3) := by decide +kernel
theorem dX1_misses_5 : decode cX1_misses 5 = .ok (.invokevirtual 128, 3) := by decide +kernel
theorem dX1_misses_8 : decode cX1_misses 8 = .ok (.ireturn, 1) := by decide +kernel
theorem dX1_sealed_0 : decode cX1_sealed 0 = .ok (.iconst 0, 1) := by decide +kernel
theorem dX1_sealed_1 : decode cX1_sealed 1 = .ok (.istore_n 1, 1) := by decide +kernel
theorem dX1_sealed_2 : decode cX1_sealed 2 = .ok (.iconst 0, 1) := by decide +kernel
theorem dX1_sealed_3 : decode cX1_sealed 3 = .ok (.istore_n 2, 1) := by decide +kernel
theorem dX1_sealed_4 : decode cX1_sealed 4 = .ok (.iload_n 2, 1) := by decide +kernel
theorem dX1_sealed_5 : decode cX1_sealed 5 = .ok (.aload_n 0, 1) := by decide +kernel
theorem dX1_sealed_6 : decode cX1_sealed 6 = .ok (.getfield 52, 3) := by decide +kernel
theorem dX1_sealed_9 : decode cX1_sealed 9 = .ok (.if_icmp .ge 26, 3) := by decide +kernel
theorem dX1_sealed_12 : decode cX1_sealed 12 = .ok (.iload_n 1, 1) := by decide +kernel
theorem dX1_sealed_13 : decode cX1_sealed 13 = .ok (.aload_n 0, 1) := by decide +kernel
theorem dX1_sealed_14 : decode cX1_sealed 14 = .ok (.getfield 35, 3) := by decide +kernel
theorem dX1_sealed_17 : decode cX1_sealed 17 = .ok (.iload_n 2, 1) := by decide +kernel
theorem dX1_sealed_18 : decode cX1_sealed 18 = .ok (.iaload, 1) := by decide +kernel
theorem dX1_sealed_19 : decode cX1_sealed 19 = .ok (.ifCond .le 7, 3) := by decide +kernel
theorem dX1_sealed_22 : decode cX1_sealed 22 = .ok (.iconst 1, 1) := by decide +kernel
theorem dX1_sealed_23 : decode cX1_sealed 23 = .ok (.goto 4, 3) := by decide +kernel
theorem dX1_sealed_26 : decode cX1_sealed 26 = .ok (.iconst 0, 1) := by decide +kernel
theorem dX1_sealed_27 : decode cX1_sealed 27 = .ok (.iadd, 1) := by decide +kernel
theorem dX1_sealed_28 : decode cX1_sealed 28 = .ok (.istore_n 1, 1) := by decide +kernel
theorem dX1_sealed_29 : decode cX1_sealed 29 = .ok (.iinc 2 1, 3) := by decide +kernel
theorem dX1_sealed_32 : decode cX1_sealed 32 = .ok (.goto (-28), 3) := by decide +kernel
theorem dX1_sealed_35 : decode cX1_sealed 35 = .ok (.iload_n 1, 1) := by decide +kernel
theorem dX1_sealed_36 : decode cX1_sealed 36 = .ok (.ireturn, 1) := by decide +kernel
theorem dX1_certified_0 : decode cX1_certified 0 = .ok (.aload_n 0, 1) := by decide +kernel
theorem dX1_certified_1 : decode cX1_certified 1 = .ok (.aload_n 0, 1) := by decide +kernel
theorem dX1_certified_2 : decode cX1_certified 2 = .ok (.invokevirtual 134, 3) := by decide +kernel
theorem dX1_certified_5 : decode cX1_certified 5 = .ok (.invokevirtual 128, 3) := by decide +kernel
theorem dX1_certified_8 : decode cX1_certified 8 = .ok (.ireturn, 1) := by decide +kernel
theorem dX1_isAlive_0 : decode cX1_isAlive 0 = .ok (.aload_n 0, 1) := by decide +kernel
theorem dX1_isAlive_1 : decode cX1_isAlive 1 = .ok (.aload_n 0, 1) := by decide +kernel
theorem dX1_isAlive_2 : decode cX1_isAlive 2 = .ok (.iload_n 1, 1) := by decide +kernel
theorem dX1_isAlive_3 : decode cX1_isAlive 3 = .ok (.invokevirtual 100, 3) := by decide +kernel
theorem dX1_isAlive_6 : decode cX1_isAlive 6 = .ok (.ifCond .eq 7, 3) := by decide +kernel
theorem dX1_isAlive_9 : decode cX1_isAlive 9 = .ok (.iconst 0, 1) := by decide +kernel
theorem dX1_isAlive_10 : decode cX1_isAlive 10 = .ok (.goto 4, 3) := by decide +kernel
theorem dX1_isAlive_13 : decode cX1_isAlive 13 = .ok (.iconst 1, 1) := by decide +kernel
theorem dX1_isAlive_14 : decode cX1_isAlive 14 = .ok (.putfield 38, 3) := by decide +kernel
theorem dX1_isAlive_17 : decode cX1_isAlive 17 = .ok (.aload_n 0, 1) := by decide +kernel
theorem dX1_isAlive_18 : decode cX1_isAlive 18 = .ok (.getfield 38, 3) := by decide +kernel
theorem dX1_isAlive_21 : decode cX1_isAlive 21 = .ok (.ifCond .ne 16, 3) := by decide +kernel
theorem dX1_isAlive_24 : decode cX1_isAlive 24 = .ok (.aload_n 0, 1) := by decide +kernel
theorem dX1_isAlive_25 : decode cX1_isAlive 25 = .ok (.getfield 9, 3) := by decide +kernel
theorem dX1_isAlive_28 : decode cX1_isAlive 28 = .ok (.iload_n 1, 1) := by decide +kernel
theorem dX1_isAlive_29 : decode cX1_isAlive 29 = .ok (.baload, 1) := by decide +kernel
theorem dX1_isAlive_30 : decode cX1_isAlive 30 = .ok (.ifCond .ne 7, 3) := by decide +kernel
theorem dX1_isAlive_33 : decode cX1_isAlive 33 = .ok (.iconst 1, 1) := by decide +kernel
theorem dX1_isAlive_34 : decode cX1_isAlive 34 = .ok (.goto 4, 3) := by decide +kernel
theorem dX1_isAlive_37 : decode cX1_isAlive 37 = .ok (.iconst 0, 1) := by decide +kernel
theorem dX1_isAlive_38 : decode cX1_isAlive 38 = .ok (.ireturn, 1) := by decide +kernel
theorem dX1_of_0 : decode cX1_of 0 = .ok (.aload_n 0, 1) := by decide +kernel
theorem dX1_of_1 : decode cX1_of 1 = .ok (.iconst 0, 1) := by decide +kernel
theorem dX1_of_2 : decode cX1_of 2 = .ok (.putfield 38, 3) := by decide +kernel
theorem dX1_of_5 : decode cX1_of 5 = .ok (.aload_n 0, 1) := by decide +kernel
theorem dX1_of_6 : decode cX1_of 6 = .ok (.iload_n 1, 1) := by decide +kernel
theorem dX1_of_7 : decode cX1_of 7 = .ok (.invokevirtual 100, 3) := by decide +kernel
theorem dX1_of_10 : decode cX1_of 10 = .ok (.ifCond .eq 9, 3) := by decide +kernel
theorem dX1_of_13 : decode cX1_of 13 = .ok (.aload_n 2, 1) := by decide +kernel
theorem dX1_of_14 : decode cX1_of 14 = .ok (.iload_n 1, 1) := by decide +kernel
theorem dX1_of_15 : decode cX1_of 15 = .ok (.iaload, 1) := by decide +kernel
theorem dX1_of_16 : decode cX1_of 16 = .ok (.goto 8, 3) := by decide +kernel
theorem dX1_of_19 : decode cX1_of 19 = .ok (.aload_n 0, 1) := by decide +kernel
theorem dX1_of_20 : decode cX1_of 20 = .ok (.iconst 1, 1) := by decide +kernel
theorem dX1_of_21 : decode cX1_of 21 = .ok (.invokevirtual 97, 3) := by decide +kernel
theorem dX1_of_24 : decode cX1_of 24 = .ok (.ireturn, 1) := by decide +kernel
theorem dX1_luckOf_0 : decode cX1_luckOf 0 = .ok (.aload_n 0, 1) := by decide +kernel
theorem dX1_luckOf_1 : decode cX1_luckOf 1 = .ok (.iload_n 1, 1) := by decide +kernel
theorem dX1_luckOf_2 : decode cX1_luckOf 2 = .ok (.aload_n 0, 1) := by decide +kernel
theorem dX1_luckOf_3 : decode cX1_luckOf 3 = .ok (.getfield 13, 3) := by decide +kernel
theorem dX1_luckOf_6 : decode cX1_luckOf 6 = .ok (.invokevirtual 137, 3) := by decide +kernel
theorem dX1_luckOf_9 : decode cX1_luckOf 9 = .ok (.ireturn, 1) := by decide +kernel
theorem dX1_purseOf_0 : decode cX1_purseOf 0 = .ok (.aload_n 0, 1) := by decide +kernel
theorem dX1_purseOf_1 : decode cX1_purseOf 1 = .ok (.iload_n 1, 1) := by decide +kernel
theorem dX1_purseOf_2 : decode cX1_purseOf 2 = .ok (.aload_n 0, 1) := by decide +kernel
theorem dX1_purseOf_3 : decode cX1_purseOf 3 = .ok (.getfield 17, 3) := by decide +kernel
theorem dX1_purseOf_6 : decode cX1_purseOf 6 = .ok (.invokevirtual 137, 3) := by decide +kernel
theorem dX1_purseOf_9 : decode cX1_purseOf 9 = .ok (.ireturn, 1) := by decide +kernel
theorem dX1_fatesOf_0 : decode cX1_fatesOf 0 = .ok (.aload_n 0, 1) := by decide +kernel
theorem dX1_fatesOf_1 : decode cX1_fatesOf 1 = .ok (.iload_n 1, 1) := by decide +kernel
theorem dX1_fatesOf_2 : decode cX1_fatesOf 2 = .ok (.aload_n 0, 1) := by decide +kernel
theorem dX1_fatesOf_3 : decode cX1_fatesOf 3 = .ok (.getfield 20, 3) := by decide +kernel
theorem dX1_fatesOf_6 : decode cX1_fatesOf 6 = .ok (.invokevirtual 137, 3) := by decide +kernel
theorem dX1_fatesOf_9 : decode cX1_fatesOf 9 = .ok (.ireturn, 1) := by decide +kernel
theorem dX1_heirOf_0 : decode cX1_heirOf 0 = .ok (.aload_n 0, 1) := by decide +kernel
theorem dX1_heirOf_1 : decode cX1_heirOf 1 = .ok (.iload_n 1, 1) := by decide +kernel
theorem dX1_heirOf_2 : decode cX1_heirOf 2 = .ok (.aload_n 0, 1) := by decide +kernel
theorem dX1_heirOf_3 : decode cX1_heirOf 3 = .ok (.getfield 23, 3) := by decide +kernel
theorem dX1_heirOf_6 : decode cX1_heirOf 6 = .ok (.invokevirtual 137, 3) := by decide +kernel
theorem dX1_heirOf_9 : decode cX1_heirOf 9 = .ok (.ireturn, 1) := by decide +kernel
theorem dX1_lastHeirOf_0 : decode cX1_lastHeirOf 0 = .ok (.aload_n 0, 1) := by decide +kernel
theorem dX1_lastHeirOf_1 : decode cX1_lastHeirOf 1 = .ok (.iconst 0, 1) := by decide +kernel
theorem dX1_lastHeirOf_2 : decode cX1_lastHeirOf 2 = .ok (.putfield 38, 3) := by decide +kernel
theorem dX1_lastHeirOf_5 : decode cX1_lastHeirOf 5 = .ok (.aload_n 0, 1) := by decide +kernel
theorem dX1_lastHeirOf_6 : decode cX1_lastHeirOf 6 = .ok (.iload_n 1, 1) := by decide +kernel
theorem dX1_lastHeirOf_7 : decode cX1_lastHeirOf 7 = .ok (.invokevirtual 100, 3) := by decide +kernel
theorem dX1_lastHeirOf_10 : decode cX1_lastHeirOf 10 = .ok (.ifCond .eq 11, 3) := by decide +kernel
theorem dX1_lastHeirOf_13 : decode cX1_lastHeirOf 13 = .ok (.aload_n 0, 1) := by decide +kernel
theorem dX1_lastHeirOf_14 : decode cX1_lastHeirOf 14 = .ok (.iload_n 1, 1) := by decide +kernel
theorem dX1_lastHeirOf_15 : decode cX1_lastHeirOf 15 = .ok (.invokevirtual 119, 3) := by decide +kernel
theorem dX1_lastHeirOf_18 : decode cX1_lastHeirOf 18 = .ok (.goto 8, 3) := by decide +kernel
theorem dX1_lastHeirOf_21 : decode cX1_lastHeirOf 21 = .ok (.aload_n 0, 1) := by decide +kernel
theorem dX1_lastHeirOf_22 : decode cX1_lastHeirOf 22 = .ok (.iconst 1, 1) := by decide +kernel
theorem dX1_lastHeirOf_23 : decode cX1_lastHeirOf 23 = .ok (.invokevirtual 97, 3) := by decide +kernel
theorem dX1_lastHeirOf_26 : decode cX1_lastHeirOf 26 = .ok (.ireturn, 1) := by decide +kernel
theorem dX1_priceFor_0 : decode cX1_priceFor 0 = .ok (.aload_n 0, 1) := by decide +kernel
theorem dX1_priceFor_1 : decode cX1_priceFor 1 = .ok (.iconst 0, 1) := by decide +kernel
theorem dX1_priceFor_2 : decode cX1_priceFor 2 = .ok (.putfield 38, 3) := by decide +kernel
theorem dX1_priceFor_5 : decode cX1_priceFor 5 = .ok (.aload_n 0, 1) := by decide +kernel
theorem dX1_priceFor_6 : decode cX1_priceFor 6 = .ok (.iload_n 1, 1) := by decide +kernel
theorem dX1_priceFor_7 : decode cX1_priceFor 7 = .ok (.invokevirtual 100, 3) := by decide +kernel
theorem dX1_priceFor_10 : decode cX1_priceFor 10 = .ok (.ifCond .eq 11, 3) := by decide +kernel
theorem dX1_priceFor_13 : decode cX1_priceFor 13 = .ok (.aload_n 0, 1) := by decide +kernel
theorem dX1_priceFor_14 : decode cX1_priceFor 14 = .ok (.iload_n 1, 1) := by decide +kernel
theorem dX1_priceFor_15 : decode cX1_priceFor 15 = .ok (.invokevirtual 67, 3) := by decide +kernel
theorem dX1_priceFor_18 : decode cX1_priceFor 18 = .ok (.goto 8, 3) := by decide +kernel
theorem dX1_priceFor_21 : decode cX1_priceFor 21 = .ok (.aload_n 0, 1) := by decide +kernel
theorem dX1_priceFor_22 : decode cX1_priceFor 22 = .ok (.iconst 1, 1) := by decide +kernel
theorem dX1_priceFor_23 : decode cX1_priceFor 23 = .ok (.invokevirtual 97, 3) := by decide +kernel
theorem dX1_priceFor_26 : decode cX1_priceFor 26 = .ok (.ireturn, 1) := by decide +kernel
theorem dX1_many_0 : decode cX1_many 0 = .ok (.iconst 0, 1) := by decide +kernel
theorem dX1_many_1 : decode cX1_many 1 = .ok (.istore_n 2, 1) := by decide +kernel
theorem dX1_many_2 : decode cX1_many 2 = .ok (.iconst 0, 1) := by decide +kernel
theorem dX1_many_3 : decode cX1_many 3 = .ok (.istore_n 3, 1) := by decide +kernel
theorem dX1_many_4 : decode cX1_many 4 = .ok (.iload_n 3, 1) := by decide +kernel
theorem dX1_many_5 : decode cX1_many 5 = .ok (.aload_n 0, 1) := by decide +kernel
theorem dX1_many_6 : decode cX1_many 6 = .ok (.getfield 52, 3) := by decide +kernel
theorem dX1_many_9 : decode cX1_many 9 = .ok (.if_icmp .ge 27, 3) := by decide +kernel
theorem dX1_many_12 : decode cX1_many 12 = .ok (.iload_n 2, 1) := by decide +kernel
theorem dX1_many_13 : decode cX1_many 13 = .ok (.aload_n 0, 1) := by decide +kernel
theorem dX1_many_14 : decode cX1_many 14 = .ok (.getfield 32, 3) := by decide +kernel
theorem dX1_many_17 : decode cX1_many 17 = .ok (.iload_n 3, 1) := by decide +kernel
theorem dX1_many_18 : decode cX1_many 18 = .ok (.iaload, 1) := by decide +kernel
theorem dX1_many_19 : decode cX1_many 19 = .ok (.iload_n 1, 1) := by decide +kernel
theorem dX1_many_20 : decode cX1_many 20 = .ok (.if_icmp .ne 7, 3) := by decide +kernel
theorem dX1_many_23 : decode cX1_many 23 = .ok (.iconst 1, 1) := by decide +kernel
theorem dX1_many_24 : decode cX1_many 24 = .ok (.goto 4, 3) := by decide +kernel
theorem dX1_many_27 : decode cX1_many 27 = .ok (.iconst 0, 1) := by decide +kernel
theorem dX1_many_28 : decode cX1_many 28 = .ok (.iadd, 1) := by decide +kernel
theorem dX1_many_29 : decode cX1_many 29 = .ok (.istore_n 2, 1) := by decide +kernel
theorem dX1_many_30 : decode cX1_many 30 = .ok (.iinc 3 1, 3) := by decide +kernel
theorem dX1_many_33 : decode cX1_many 33 = .ok (.goto (-29), 3) := by decide +kernel
theorem dX1_many_36 : decode cX1_many 36 = .ok (.iload_n 2, 1) := by decide +kernel
theorem dX1_many_37 : decode cX1_many 37 = .ok (.ireturn, 1) := by decide +kernel
theorem dX1_missesOf_0 : decode cX1_missesOf 0 = .ok (.aload_n 0, 1) := by decide +kernel
theorem dX1_missesOf_1 : decode cX1_missesOf 1 = .ok (.iconst 0, 1) := by decide +kernel
theorem dX1_missesOf_2 : decode cX1_missesOf 2 = .ok (.putfield 38, 3) := by decide +kernel
theorem dX1_missesOf_5 : decode cX1_missesOf 5 = .ok (.aload_n 0, 1) := by decide +kernel
theorem dX1_missesOf_6 : decode cX1_missesOf 6 = .ok (.iload_n 1, 1) := by decide +kernel
theorem dX1_missesOf_7 : decode cX1_missesOf 7 = .ok (.invokevirtual 100, 3) := by decide +kernel
theorem dX1_missesOf_10 : decode cX1_missesOf 10 = .ok (.ifCond .eq 11, 3) := by decide +kernel
theorem dX1_missesOf_13 : decode cX1_missesOf 13 = .ok (.aload_n 0, 1) := by decide +kernel
theorem dX1_missesOf_14 : decode cX1_missesOf 14 = .ok (.iload_n 1, 1) := by decide +kernel
theorem dX1_missesOf_15 : decode cX1_missesOf 15 = .ok (.invokevirtual 141, 3) := by decide +kernel
theorem dX1_missesOf_18 : decode cX1_missesOf 18 = .ok (.goto 8, 3) := by decide +kernel
theorem dX1_missesOf_21 : decode cX1_missesOf 21 = .ok (.aload_n 0, 1) := by decide +kernel
theorem dX1_missesOf_22 : decode cX1_missesOf 22 = .ok (.iconst 1, 1) := by decide +kernel
theorem dX1_missesOf_23 : decode cX1_missesOf 23 = .ok (.invokevirtual 97, 3) := by decide +kernel
theorem dX1_missesOf_26 : decode cX1_missesOf 26 = .ok (.ireturn, 1) := by decide +kernel
theorem dX1_closest_0 : decode cX1_closest 0 = .ok (.iconst 0, 1) := by decide +kernel
theorem dX1_closest_1 : decode cX1_closest 1 = .ok (.istore_n 2, 1) := by decide +kernel
theorem dX1_closest_2 : decode cX1_closest 2 = .ok (.iconst 0, 1) := by decide +kernel
theorem dX1_closest_3 : decode cX1_closest 3 = .ok (.istore_n 3, 1) := by decide +kernel
theorem dX1_closest_4 : decode cX1_closest 4 = .ok (.iload_n 3, 1) := by decide +kernel
theorem dX1_closest_5 : decode cX1_closest 5 = .ok (.aload_n 0, 1) := by decide +kernel
theorem dX1_closest_6 : decode cX1_closest 6 = .ok (.getfield 52, 3) := by decide +kernel
theorem dX1_closest_9 : decode cX1_closest 9 = .ok (.if_icmp .ge 49, 3) := by decide +kernel
theorem dX1_closest_12 : decode cX1_closest 12 = .ok (.aload_n 0, 1) := by decide +kernel
theorem dX1_closest_13 : decode cX1_closest 13 = .ok (.getfield 32, 3) := by decide +kernel
theorem dX1_closest_16 : decode cX1_closest 16 = .ok (.iload_n 3, 1) := by decide +kernel
theorem dX1_closest_17 : decode cX1_closest 17 = .ok (.iaload, 1) := by decide +kernel
theorem dX1_closest_18 : decode cX1_closest 18 = .ok (.iload_n 1, 1) := by decide +kernel
theorem dX1_closest_19 : decode cX1_closest 19 = .ok (.if_icmp .ne 33, 3) := by decide +kernel
theorem dX1_closest_22 : decode cX1_closest 22 = .ok (.aload_n 0, 1) := by decide +kernel
theorem dX1_closest_23 : decode cX1_closest 23 = .ok (.getfield 35, 3) := by decide +kernel
theorem dX1_closest_26 : decode cX1_closest 26 = .ok (.iload_n 3, 1) := by decide +kernel
theorem dX1_closest_27 : decode cX1_closest 27 = .ok (.iaload, 1) := by decide +kernel
theorem dX1_closest_28 : decode cX1_closest 28 = .ok (.ifCond .le 24, 3) := by decide +kernel
theorem dX1_closest_31 : decode cX1_closest 31 = .ok (.iload_n 2, 1) := by decide +kernel
theorem dX1_closest_32 : decode cX1_closest 32 = .ok (.ifCond .eq 13, 3) := by decide +kernel
theorem dX1_closest_35 : decode cX1_closest 35 = .ok (.aload_n 0, 1) := by decide +kernel
theorem dX1_closest_36 : decode cX1_closest 36 = .ok (.getfield 35, 3) := by decide +kernel
theorem dX1_closest_39 : decode cX1_closest 39 = .ok (.iload_n 3, 1) := by decide +kernel
theorem dX1_closest_40 : decode cX1_closest 40 = .ok (.iaload, 1) := by decide +kernel
theorem dX1_closest_41 : decode cX1_closest 41 = .ok (.iload_n 2, 1) := by decide +kernel
theorem dX1_closest_42 : decode cX1_closest 42 = .ok (.if_icmp .ge 10, 3) := by decide +kernel
theorem dX1_closest_45 : decode cX1_closest 45 = .ok (.aload_n 0, 1) := by decide +kernel
theorem dX1_closest_46 : decode cX1_closest 46 = .ok (.getfield 35, 3) := by decide +kernel
theorem dX1_closest_49 : decode cX1_closest 49 = .ok (.iload_n 3, 1) := by decide +kernel
theorem dX1_closest_50 : decode cX1_closest 50 = .ok (.iaload, 1) := by decide +kernel
theorem dX1_closest_51 : decode cX1_closest 51 = .ok (.istore_n 2, 1) := by decide +kernel
theorem dX1_closest_52 : decode cX1_closest 52 = .ok (.iinc 3 1, 3) := by decide +kernel
theorem dX1_closest_55 : decode cX1_closest 55 = .ok (.goto (-51), 3) := by decide +kernel
theorem dX1_closest_58 : decode cX1_closest 58 = .ok (.iload_n 2, 1) := by decide +kernel
theorem dX1_closest_59 : decode cX1_closest 59 = .ok (.ireturn, 1) := by decide +kernel
theorem dX1_closestOf_0 : decode cX1_closestOf 0 = .ok (.aload_n 0, 1) := by decide +kernel
theorem dX1_closestOf_1 : decode cX1_closestOf 1 = .ok (.iconst 0, 1) := by decide +kernel
theorem dX1_closestOf_2 : decode cX1_closestOf 2 = .ok (.putfield 38, 3) := by decide +kernel
theorem dX1_closestOf_5 : decode cX1_closestOf 5 = .ok (.aload_n 0, 1) := by decide +kernel
theorem dX1_closestOf_6 : decode cX1_closestOf 6 = .ok (.iload_n 1, 1) := by decide +kernel
theorem dX1_closestOf_7 : decode cX1_closestOf 7 = .ok (.invokevirtual 100, 3) := by decide +kernel
theorem dX1_closestOf_10 : decode cX1_closestOf 10 = .ok (.ifCond .eq 11, 3) := by decide +kernel
theorem dX1_closestOf_13 : decode cX1_closestOf 13 = .ok (.aload_n 0, 1) := by decide +kernel
theorem dX1_closestOf_14 : decode cX1_closestOf 14 = .ok (.iload_n 1, 1) := by decide +kernel
theorem dX1_closestOf_15 : decode cX1_closestOf 15 = .ok (.invokevirtual 144, 3) := by decide +kernel
theorem dX1_closestOf_18 : decode cX1_closestOf 18 = .ok (.goto 8, 3) := by decide +kernel
theorem dX1_closestOf_21 : decode cX1_closestOf 21 = .ok (.aload_n 0, 1) := by decide +kernel
theorem dX1_closestOf_22 : decode cX1_closestOf 22 = .ok (.iconst 1, 1) := by decide +kernel
theorem dX1_closestOf_23 : decode cX1_closestOf 23 = .ok (.invokevirtual 97, 3) := by decide +kernel
theorem dX1_closestOf_26 : decode cX1_closestOf 26 = .ok (.ireturn, 1) := by decide +kernel
theorem dX1_nerveOf_0 : decode cX1_nerveOf 0 = .ok (.aload_n 0, 1) := by decide +kernel
theorem dX1_nerveOf_1 : decode cX1_nerveOf 1 = .ok (.iconst 0, 1) := by decide +kernel
theorem dX1_nerveOf_2 : decode cX1_nerveOf 2 = .ok (.putfield 38, 3) := by decide +kernel
theorem dX1_nerveOf_5 : decode cX1_nerveOf 5 = .ok (.aload_n 0, 1) := by decide +kernel
theorem dX1_nerveOf_6 : decode cX1_nerveOf 6 = .ok (.iload_n 1, 1) := by decide +kernel
theorem dX1_nerveOf_7 : decode cX1_nerveOf 7 = .ok (.invokevirtual 104, 3) := by decide +kernel
theorem dX1_nerveOf_10 : decode cX1_nerveOf 10 = .ok (.ifCond .eq 12, 3) := by decide +kernel
theorem dX1_nerveOf_13 : decode cX1_nerveOf 13 = .ok (.aload_n 0, 1) := by decide +kernel
theorem dX1_nerveOf_14 : decode cX1_nerveOf 14 = .ok (.getfield 26, 3) := by decide +kernel
theorem dX1_nerveOf_17 : decode cX1_nerveOf 17 = .ok (.iload_n 1, 1) := by decide +kernel
theorem dX1_nerveOf_18 : decode cX1_nerveOf 18 = .ok (.iaload, 1) := by decide +kernel
theorem dX1_nerveOf_19 : decode cX1_nerveOf 19 = .ok (.goto 8, 3) := by decide +kernel
theorem dX1_nerveOf_22 : decode cX1_nerveOf 22 = .ok (.aload_n 0, 1) := by decide +kernel
theorem dX1_nerveOf_23 : decode cX1_nerveOf 23 = .ok (.iconst 1, 1) := by decide +kernel
theorem dX1_nerveOf_24 : decode cX1_nerveOf 24 = .ok (.invokevirtual 97, 3) := by decide +kernel
theorem dX1_nerveOf_27 : decode cX1_nerveOf 27 = .ok (.ireturn, 1) := by decide +kernel
theorem dX1_isOnDuty_0 : decode cX1_isOnDuty 0 = .ok (.aload_n 0, 1) := by decide +kernel
theorem dX1_isOnDuty_1 : decode cX1_isOnDuty 1 = .ok (.aload_n 0, 1) := by decide +kernel
theorem dX1_isOnDuty_2 : decode cX1_isOnDuty 2 = .ok (.iload_n 1, 1) := by decide +kernel
theorem dX1_isOnDuty_3 : decode cX1_isOnDuty 3 = .ok (.invokevirtual 104, 3) := by decide +kernel
theorem dX1_isOnDuty_6 : decode cX1_isOnDuty 6 = .ok (.ifCond .eq 7, 3) := by decide +kernel
theorem dX1_isOnDuty_9 : decode cX1_isOnDuty 9 = .ok (.iconst 0, 1) := by decide +kernel
theorem dX1_isOnDuty_10 : decode cX1_isOnDuty 10 = .ok (.goto 4, 3) := by decide +kernel
theorem dX1_isOnDuty_13 : decode cX1_isOnDuty 13 = .ok (.iconst 1, 1) := by decide +kernel
theorem dX1_isOnDuty_14 : decode cX1_isOnDuty 14 = .ok (.putfield 38, 3) := by decide +kernel
theorem dX1_isOnDuty_17 : decode cX1_isOnDuty 17 = .ok (.aload_n 0, 1) := by decide +kernel
theorem dX1_isOnDuty_18 : decode cX1_isOnDuty 18 = .ok (.getfield 38, 3) := by decide +kernel
theorem dX1_isOnDuty_21 : decode cX1_isOnDuty 21 = .ok (.ifCond .ne 16, 3) := by decide +kernel
theorem dX1_isOnDuty_24 : decode cX1_isOnDuty 24 = .ok (.aload_n 0, 1) := by decide +kernel
theorem dX1_isOnDuty_25 : decode cX1_isOnDuty 25 = .ok (.getfield 29, 3) := by decide +kernel
theorem dX1_isOnDuty_28 : decode cX1_isOnDuty 28 = .ok (.iload_n 1, 1) := by decide +kernel
theorem dX1_isOnDuty_29 : decode cX1_isOnDuty 29 = .ok (.baload, 1) := by decide +kernel
theorem dX1_isOnDuty_30 : decode cX1_isOnDuty 30 = .ok (.ifCond .ne 7, 3) := by decide +kernel
theorem dX1_isOnDuty_33 : decode cX1_isOnDuty 33 = .ok (.iconst 1, 1) := by decide +kernel
theorem dX1_isOnDuty_34 : decode cX1_isOnDuty 34 = .ok (.goto 4, 3) := by decide +kernel
theorem dX1_isOnDuty_37 : decode cX1_isOnDuty 37 = .ok (.iconst 0, 1) := by decide +kernel
theorem dX1_isOnDuty_38 : decode cX1_isOnDuty 38 = .ok (.ireturn, 1) := by decide +kernel
theorem dX1_wouldTell_0 : decode cX1_wouldTell 0 = .ok (.aload_n 0, 1) := by decide +kernel
theorem dX1_wouldTell_1 : decode cX1_wouldTell 1 = .ok (.iconst 0, 1) := by decide +kernel
theorem dX1_wouldTell_2 : decode cX1_wouldTell 2 = .ok (.putfield 38, 3) := by decide +kernel
theorem dX1_wouldTell_5 : decode cX1_wouldTell 5 = .ok (.aload_n 0, 1) := by decide +kernel
theorem dX1_wouldTell_6 : decode cX1_wouldTell 6 = .ok (.iload_n 1, 1) := by decide +kernel
theorem dX1_wouldTell_7 : decode cX1_wouldTell 7 = .ok (.invokevirtual 104, 3) := by decide +kernel
theorem dX1_wouldTell_10 : decode cX1_wouldTell 10 = .ok (.ifCond .ne 9, 3) := by decide +kernel
theorem dX1_wouldTell_13 : decode cX1_wouldTell 13 = .ok (.aload_n 0, 1) := by decide +kernel
theorem dX1_wouldTell_14 : decode cX1_wouldTell 14 = .ok (.iconst 1, 1) := by decide +kernel
theorem dX1_wouldTell_15 : decode cX1_wouldTell 15 = .ok (.invokevirtual 97, 3) := by decide +kernel
theorem dX1_wouldTell_18 : decode cX1_wouldTell 18 = .ok (.ireturn, 1) := by decide +kernel
theorem dX1_wouldTell_19 : decode cX1_wouldTell 19 = .ok (.iload_n 2, 1) := by decide +kernel
theorem dX1_wouldTell_20 : decode cX1_wouldTell 20 = .ok (.iconst 1, 1) := by decide +kernel
theorem dX1_wouldTell_21 : decode cX1_wouldTell 21 = .ok (.bipush 60, 2) := by decide +kernel
theorem dX1_wouldTell_23 : decode cX1_wouldTell 23 = .ok (.invokestatic 45, 3) := by decide +kernel
theorem dX1_wouldTell_26 : decode cX1_wouldTell 26 = .ok (.ifCond .eq 12, 3) := by decide +kernel
theorem dX1_wouldTell_29 : decode cX1_wouldTell 29 = .ok (.aload_n 0, 1) := by decide +kernel
theorem dX1_wouldTell_30 : decode cX1_wouldTell 30 = .ok (.iload_n 1, 1) := by decide +kernel
theorem dX1_wouldTell_31 : decode cX1_wouldTell 31 = .ok (.iload_n 2, 1) := by decide +kernel
theorem dX1_wouldTell_32 : decode cX1_wouldTell 32 = .ok (.invokevirtual 61, 3) := by decide +kernel
theorem dX1_wouldTell_35 : decode cX1_wouldTell 35 = .ok (.goto 8, 3) := by decide +kernel
theorem dX1_wouldTell_38 : decode cX1_wouldTell 38 = .ok (.aload_n 0, 1) := by decide +kernel
theorem dX1_wouldTell_39 : decode cX1_wouldTell 39 = .ok (.iconst 2, 1) := by decide +kernel
theorem dX1_wouldTell_40 : decode cX1_wouldTell 40 = .ok (.invokevirtual 97, 3) := by decide +kernel
theorem dX1_wouldTell_43 : decode cX1_wouldTell 43 = .ok (.ireturn, 1) := by decide +kernel
theorem dX1_personOf_0 : decode cX1_personOf 0 = .ok (.aload_n 0, 1) := by decide +kernel
theorem dX1_personOf_1 : decode cX1_personOf 1 = .ok (.iconst 0, 1) := by decide +kernel
theorem dX1_personOf_2 : decode cX1_personOf 2 = .ok (.putfield 38, 3) := by decide +kernel
theorem dX1_personOf_5 : decode cX1_personOf 5 = .ok (.aload_n 0, 1) := by decide +kernel
theorem dX1_personOf_6 : decode cX1_personOf 6 = .ok (.iload_n 1, 1) := by decide +kernel
theorem dX1_personOf_7 : decode cX1_personOf 7 = .ok (.invokevirtual 147, 3) := by decide +kernel
theorem dX1_personOf_10 : decode cX1_personOf 10 = .ok (.ifCond .eq 12, 3) := by decide +kernel
theorem dX1_personOf_13 : decode cX1_personOf 13 = .ok (.aload_n 0, 1) := by decide +kernel
theorem dX1_personOf_14 : decode cX1_personOf 14 = .ok (.getfield 32, 3) := by decide +kernel
theorem dX1_personOf_17 : decode cX1_personOf 17 = .ok (.iload_n 1, 1) := by decide +kernel
theorem dX1_personOf_18 : decode cX1_personOf 18 = .ok (.iaload, 1) := by decide +kernel
theorem dX1_personOf_19 : decode cX1_personOf 19 = .ok (.goto 8, 3) := by decide +kernel
theorem dX1_personOf_22 : decode cX1_personOf 22 = .ok (.aload_n 0, 1) := by decide +kernel
theorem dX1_personOf_23 : decode cX1_personOf 23 = .ok (.iconst 1, 1) := by decide +kernel
theorem dX1_personOf_24 : decode cX1_personOf 24 = .ok (.invokevirtual 97, 3) := by decide +kernel
theorem dX1_personOf_27 : decode cX1_personOf 27 = .ok (.ireturn, 1) := by decide +kernel
theorem dX1_inchesOf_0 : decode cX1_inchesOf 0 = .ok (.aload_n 0, 1) := by decide +kernel
theorem dX1_inchesOf_1 : decode cX1_inchesOf 1 = .ok (.iconst 0, 1) := by decide +kernel
theorem dX1_inchesOf_2 : decode cX1_inchesOf 2 = .ok (.putfield 38, 3) := by decide +kernel
theorem dX1_inchesOf_5 : decode cX1_inchesOf 5 = .ok (.aload_n 0, 1) := by decide +kernel
theorem dX1_inchesOf_6 : decode cX1_inchesOf 6 = .ok (.iload_n 1, 1) := by decide +kernel
theorem dX1_inchesOf_7 : decode cX1_inchesOf 7 = .ok (.invokevirtual 147, 3) := by decide +kernel
theorem dX1_inchesOf_10 : decode cX1_inchesOf 10 = .ok (.ifCond .eq 12, 3) := by decide +kernel
theorem dX1_inchesOf_13 : decode cX1_inchesOf 13 = .ok (.aload_n 0, 1) := by decide +kernel
theorem dX1_inchesOf_14 : decode cX1_inchesOf 14 = .ok (.getfield 35, 3) := by decide +kernel
theorem dX1_inchesOf_17 : decode cX1_inchesOf 17 = .ok (.iload_n 1, 1) := by decide +kernel
theorem dX1_inchesOf_18 : decode cX1_inchesOf 18 = .ok (.iaload, 1) := by decide +kernel
theorem dX1_inchesOf_19 : decode cX1_inchesOf 19 = .ok (.goto 8, 3) := by decide +kernel
theorem dX1_inchesOf_22 : decode cX1_inchesOf 22 = .ok (.aload_n 0, 1) := by decide +kernel
theorem dX1_inchesOf_23 : decode cX1_inchesOf 23 = .ok (.iconst 1, 1) := by decide +kernel
theorem dX1_inchesOf_24 : decode cX1_inchesOf 24 = .ok (.invokevirtual 97, 3) := by decide +kernel
theorem dX1_inchesOf_27 : decode cX1_inchesOf 27 = .ok (.ireturn, 1) := by decide +kernel
theorem dX1_sealOf_0 : decode cX1_sealOf 0 = .ok (.aload_n 0, 1) := by decide +kernel
theorem dX1_sealOf_1 : decode cX1_sealOf 1 = .ok (.iconst 0, 1) := by decide +kernel
theorem dX1_sealOf_2 : decode cX1_sealOf 2 = .ok (.putfield 38, 3) := by decide +kernel
theorem dX1_sealOf_5 : decode cX1_sealOf 5 = .ok (.aload_n 0, 1) := by decide +kernel
theorem dX1_sealOf_6 : decode cX1_sealOf 6 = .ok (.iload_n 1, 1) := by decide +kernel
theorem dX1_sealOf_7 : decode cX1_sealOf 7 = .ok (.invokevirtual 147, 3) := by decide +kernel
theorem dX1_sealOf_10 : decode cX1_sealOf 10 = .ok (.ifCond .eq 11, 3) := by decide +kernel
theorem dX1_sealOf_13 : decode cX1_sealOf 13 = .ok (.aload_n 0, 1) := by decide +kernel
theorem dX1_sealOf_14 : decode cX1_sealOf 14 = .ok (.iload_n 1, 1) := by decide +kernel
theorem dX1_sealOf_15 : decode cX1_sealOf 15 = .ok (.invokevirtual 150, 3) := by decide +kernel
theorem dX1_sealOf_18 : decode cX1_sealOf 18 = .ok (.goto 8, 3) := by decide +kernel
theorem dX1_sealOf_21 : decode cX1_sealOf 21 = .ok (.aload_n 0, 1) := by decide +kernel
theorem dX1_sealOf_22 : decode cX1_sealOf 22 = .ok (.iconst 1, 1) := by decide +kernel
theorem dX1_sealOf_23 : decode cX1_sealOf 23 = .ok (.invokevirtual 97, 3) := by decide +kernel
theorem dX1_sealOf_26 : decode cX1_sealOf 26 = .ok (.ireturn, 1) := by decide +kernel
theorem dX1_wouldCertify_0 : decode cX1_wouldCertify 0 = .ok (.aload_n 0, 1) := by decide +kernel
theorem dX1_wouldCertify_1 : decode cX1_wouldCertify 1 = .ok (.iconst 0, 1) := by decide +kernel
theorem dX1_wouldCertify_2 : decode cX1_wouldCertify 2 = .ok (.putfield 38, 3) := by decide +kernel
theorem dX1_wouldCertify_5 : decode cX1_wouldCertify 5 = .ok (.iload_n 1, 1) := by decide +kernel
theorem dX1_wouldCertify_6 : decode cX1_wouldCertify 6 = .ok (.iconst 1, 1) := by decide +kernel
theorem dX1_wouldCertify_7 : decode cX1_wouldCertify 7 = .ok (.bipush 60, 2) := by decide +kernel
theorem dX1_wouldCertify_9 : decode cX1_wouldCertify 9 = .ok (.invokestatic 45, 3) := by decide +kernel
theorem dX1_wouldCertify_12 : decode cX1_wouldCertify 12 = .ok (.ifCond .eq 11, 3) := by decide +kernel
theorem dX1_wouldCertify_15 : decode cX1_wouldCertify 15 = .ok (.aload_n 0, 1) := by decide +kernel
theorem dX1_wouldCertify_16 : decode cX1_wouldCertify 16 = .ok (.iload_n 1, 1) := by decide +kernel
theorem dX1_wouldCertify_17 : decode cX1_wouldCertify 17 = .ok (.invokevirtual 107, 3) := by decide +kernel
theorem dX1_wouldCertify_20 : decode cX1_wouldCertify 20 = .ok (.goto 8, 3) := by decide +kernel
theorem dX1_wouldCertify_23 : decode cX1_wouldCertify 23 = .ok (.aload_n 0, 1) := by decide +kernel
theorem dX1_wouldCertify_24 : decode cX1_wouldCertify 24 = .ok (.iconst 1, 1) := by decide +kernel
theorem dX1_wouldCertify_25 : decode cX1_wouldCertify 25 = .ok (.invokevirtual 97, 3) := by decide +kernel
theorem dX1_wouldCertify_28 : decode cX1_wouldCertify 28 = .ok (.ireturn, 1) := by decide +kernel
theorem dX1_wouldRefund_0 : decode cX1_wouldRefund 0 = .ok (.aload_n 0, 1) := by decide +kernel
theorem dX1_wouldRefund_1 : decode cX1_wouldRefund 1 = .ok (.iconst 0, 1) := by decide +kernel
theorem dX1_wouldRefund_2 : decode cX1_wouldRefund 2 = .ok (.putfield 38, 3) := by decide +kernel
theorem dX1_wouldRefund_5 : decode cX1_wouldRefund 5 = .ok (.aload_n 0, 1) := by decide +kernel
theorem dX1_wouldRefund_6 : decode cX1_wouldRefund 6 = .ok (.iload_n 1, 1) := by decide +kernel
theorem dX1_wouldRefund_7 : decode cX1_wouldRefund 7 = .ok (.invokevirtual 100, 3) := by decide +kernel
theorem dX1_wouldRefund_10 : decode cX1_wouldRefund 10 = .ok (.ifCond .ne 9, 3) := by decide +kernel
theorem dX1_wouldRefund_13 : decode cX1_wouldRefund 13 = .ok (.aload_n 0, 1) := by decide +kernel
theorem dX1_wouldRefund_14 : decode cX1_wouldRefund 14 = .ok (.iconst 1, 1) := by decide +kernel
theorem dX1_wouldRefund_15 : decode cX1_wouldRefund 15 = .ok (.invokevirtual 97, 3) := by decide +kernel
theorem dX1_wouldRefund_18 : decode cX1_wouldRefund 18 = .ok (.ireturn, 1) := by decide +kernel
theorem dX1_wouldRefund_19 : decode cX1_wouldRefund 19 = .ok (.iload_n 2, 1) := by decide +kernel
theorem dX1_wouldRefund_20 : decode cX1_wouldRefund 20 = .ok (.iconst 1, 1) := by decide +kernel
theorem dX1_wouldRefund_21 : decode cX1_wouldRefund 21 = .ok (.bipush 60, 2) := by decide +kernel
theorem dX1_wouldRefund_23 : decode cX1_wouldRefund 23 = .ok (.invokestatic 45, 3) := by decide +kernel
theorem dX1_wouldRefund_26 : decode cX1_wouldRefund 26 = .ok (.ifCond .ne 9, 3) := by decide +kernel
theorem dX1_wouldRefund_29 : decode cX1_wouldRefund 29 = .ok (.aload_n 0, 1) := by decide +kernel
theorem dX1_wouldRefund_30 : decode cX1_wouldRefund 30 = .ok (.iconst 2, 1) := by decide +kernel
theorem dX1_wouldRefund_31 : decode cX1_wouldRefund 31 = .ok (.invokevirtual 97, 3) := by decide +kernel
theorem dX1_wouldRefund_34 : decode cX1_wouldRefund 34 = .ok (.ireturn, 1) := by decide +kernel
theorem dX1_wouldRefund_35 : decode cX1_wouldRefund 35 = .ok (.aload_n 0, 1) := by decide +kernel
theorem dX1_wouldRefund_36 : decode cX1_wouldRefund 36 = .ok (.getfield 9, 3) := by decide +kernel
theorem dX1_wouldRefund_39 : decode cX1_wouldRefund 39 = .ok (.iload_n 1, 1) := by decide +kernel
theorem dX1_wouldRefund_40 : decode cX1_wouldRefund 40 = .ok (.baload, 1) := by decide +kernel
theorem dX1_wouldRefund_41 : decode cX1_wouldRefund 41 = .ok (.ifCond .eq 7, 3) := by decide +kernel
theorem dX1_wouldRefund_44 : decode cX1_wouldRefund 44 = .ok (.iconst 0, 1) := by decide +kernel
theorem dX1_wouldRefund_45 : decode cX1_wouldRefund 45 = .ok (.goto 13, 3) := by decide +kernel
theorem dX1_wouldRefund_48 : decode cX1_wouldRefund 48 = .ok (.aload_n 0, 1) := by decide +kernel
theorem dX1_wouldRefund_49 : decode cX1_wouldRefund 49 = .ok (.iload_n 1, 1) := by decide +kernel
theorem dX1_wouldRefund_50 : decode cX1_wouldRefund 50 = .ok (.aload_n 0, 1) := by decide +kernel
theorem dX1_wouldRefund_51 : decode cX1_wouldRefund 51 = .ok (.iload_n 2, 1) := by decide +kernel
theorem dX1_wouldRefund_52 : decode cX1_wouldRefund 52 = .ok (.invokevirtual 107, 3) := by decide +kernel
theorem dX1_wouldRefund_55 : decode cX1_wouldRefund 55 = .ok (.invokevirtual 110, 3) := by decide +kernel
theorem dX1_wouldRefund_58 : decode cX1_wouldRefund 58 = .ok (.ireturn, 1) := by decide +kernel
theorem dX1_untilShaken_0 : decode cX1_untilShaken 0 = .ok (.iconst 0, 1) := by decide +kernel
theorem dX1_untilShaken_1 : decode cX1_untilShaken 1 = .ok (.istore_n 2, 1) := by decide +kernel
theorem dX1_untilShaken_2 : decode cX1_untilShaken 2 = .ok (.iconst 0, 1) := by decide +kernel
theorem dX1_untilShaken_3 : decode cX1_untilShaken 3 = .ok (.istore_n 3, 1) := by decide +kernel
theorem dX1_untilShaken_4 : decode cX1_untilShaken 4 = .ok (.iload_n 3, 1) := by decide +kernel
theorem dX1_untilShaken_5 : decode cX1_untilShaken 5 = .ok (.aload_n 0, 1) := by decide +kernel
theorem dX1_untilShaken_6 : decode cX1_untilShaken 6 = .ok (.getfield 49, 3) := by decide +kernel
theorem dX1_untilShaken_9 : decode cX1_untilShaken 9 = .ok (.if_icmp .ge 29, 3) := by decide +kernel
theorem dX1_untilShaken_12 : decode cX1_untilShaken 12 = .ok (.aload_n 0, 1) := by decide +kernel
theorem dX1_untilShaken_13 : decode cX1_untilShaken 13 = .ok (.getfield 29, 3) := by decide +kernel
theorem dX1_untilShaken_16 : decode cX1_untilShaken 16 = .ok (.iload_n 3, 1) := by decide +kernel
theorem dX1_untilShaken_17 : decode cX1_untilShaken 17 = .ok (.baload, 1) := by decide +kernel
theorem dX1_untilShaken_18 : decode cX1_untilShaken 18 = .ok (.ifCond .ne 14, 3) := by decide +kernel
theorem dX1_untilShaken_21 : decode cX1_untilShaken 21 = .ok (.iload_n 2, 1) := by decide +kernel
theorem dX1_untilShaken_22 : decode cX1_untilShaken 22 = .ok (.aload_n 0, 1) := by decide +kernel
theorem dX1_untilShaken_23 : decode cX1_untilShaken 23 = .ok (.getfield 26, 3) := by decide +kernel
theorem dX1_untilShaken_26 : decode cX1_untilShaken 26 = .ok (.iload_n 3, 1) := by decide +kernel
theorem dX1_untilShaken_27 : decode cX1_untilShaken 27 = .ok (.iaload, 1) := by decide +kernel
theorem dX1_untilShaken_28 : decode cX1_untilShaken 28 = .ok (.invokestatic 55, 3) := by decide +kernel
theorem dX1_untilShaken_31 : decode cX1_untilShaken 31 = .ok (.istore_n 2, 1) := by decide +kernel
theorem dX1_untilShaken_32 : decode cX1_untilShaken 32 = .ok (.iinc 3 1, 3) := by decide +kernel
theorem dX1_untilShaken_35 : decode cX1_untilShaken 35 = .ok (.goto (-31), 3) := by decide +kernel
theorem dX1_untilShaken_38 : decode cX1_untilShaken 38 = .ok (.iload_n 2, 1) := by decide +kernel
theorem dX1_untilShaken_39 : decode cX1_untilShaken 39 = .ok (.iconst 2, 1) := by decide +kernel
theorem dX1_untilShaken_40 : decode cX1_untilShaken 40 = .ok (.if_icmp .gt 7, 3) := by decide +kernel
theorem dX1_untilShaken_43 : decode cX1_untilShaken 43 = .ok (.iconst 0, 1) := by decide +kernel
theorem dX1_untilShaken_44 : decode cX1_untilShaken 44 = .ok (.goto 18, 3) := by decide +kernel
theorem dX1_untilShaken_47 : decode cX1_untilShaken 47 = .ok (.iload_n 2, 1) := by decide +kernel
theorem dX1_untilShaken_48 : decode cX1_untilShaken 48 = .ok (.iconst 2, 1) := by decide +kernel
theorem dX1_untilShaken_49 : decode cX1_untilShaken 49 = .ok (.isub, 1) := by decide +kernel
theorem dX1_untilShaken_50 : decode cX1_untilShaken 50 = .ok (.iload_n 1, 1) := by decide +kernel
theorem dX1_untilShaken_51 : decode cX1_untilShaken 51 = .ok (.invokestatic 116, 3) := by decide +kernel
theorem dX1_untilShaken_54 : decode cX1_untilShaken 54 = .ok (.iadd, 1) := by decide +kernel
theorem dX1_untilShaken_55 : decode cX1_untilShaken 55 = .ok (.iconst 1, 1) := by decide +kernel
theorem dX1_untilShaken_56 : decode cX1_untilShaken 56 = .ok (.isub, 1) := by decide +kernel
theorem dX1_untilShaken_57 : decode cX1_untilShaken 57 = .ok (.iload_n 1, 1) := by decide +kernel
theorem dX1_untilShaken_58 : decode cX1_untilShaken 58 = .ok (.invokestatic 116, 3) := by decide +kernel
theorem dX1_untilShaken_61 : decode cX1_untilShaken 61 = .ok (.idiv, 1) := by decide +kernel
theorem dX1_untilShaken_62 : decode cX1_untilShaken 62 = .ok (.ireturn, 1) := by decide +kernel
theorem dX1_missesUntilShaken_0 : decode cX1_missesUntilShaken 0 = .ok (.aload_n 0, 1) := by decide +kernel
theorem dX1_missesUntilShaken_1 : decode cX1_missesUntilShaken 1 = .ok (.iconst 0, 1) := by decide +kernel
theorem dX1_missesUntilShaken_2 : decode cX1_missesUntilShaken 2 = .ok (.putfield 38, 3) := by decide +kernel
theorem dX1_missesUntilShaken_5 : decode cX1_missesUntilShaken 5 = .ok (.iload_n 1, 1) := by decide +kernel
theorem dX1_missesUntilShaken_6 : decode cX1_missesUntilShaken 6 = .ok (.iconst 1, 1) := by decide +kernel
theorem dX1_missesUntilShaken_7 : decode cX1_missesUntilShaken 7 = .ok (.bipush 60, 2) := by decide +kernel
theorem dX1_missesUntilShaken_9 : decode cX1_missesUntilShaken 9 = .ok (.invokestatic 45, 3) := by decide +kernel
theorem dX1_missesUntilShaken_12 : decode cX1_missesUntilShaken 12 = .ok (.ifCond .eq 11, 3) := by decide +kernel
theorem dX1_missesUntilShaken_15 : decode cX1_missesUntilShaken 15 = .ok (.aload_n 0, 1) := by decide +kernel
theorem dX1_missesUntilShaken_16 : decode cX1_missesUntilShaken 16 = .ok (.iload_n 1, 1) := by decide +kernel
theorem dX1_missesUntilShaken_17 : decode cX1_missesUntilShaken 17 = .ok (.invokevirtual 153, 3) := by decide +kernel
theorem dX1_missesUntilShaken_20 : decode cX1_missesUntilShaken 20 = .ok (.goto 8, 3) := by decide +kernel
theorem dX1_missesUntilShaken_23 : decode cX1_missesUntilShaken 23 = .ok (.aload_n 0, 1) := by decide +kernel
theorem dX1_missesUntilShaken_24 : decode cX1_missesUntilShaken 24 = .ok (.iconst 1, 1) := by decide +kernel
theorem dX1_missesUntilShaken_25 : decode cX1_missesUntilShaken 25 = .ok (.invokevirtual 97, 3) := by decide +kernel
theorem dX1_missesUntilShaken_28 : decode cX1_missesUntilShaken 28 = .ok (.ireturn, 1) := by decide +kernel
theorem dX1_untilCalm_0 : decode cX1_untilCalm 0 = .ok (.iconst 0, 1) := by decide +kernel
theorem dX1_untilCalm_1 : decode cX1_untilCalm 1 = .ok (.istore_n 1, 1) := by decide +kernel
theorem dX1_untilCalm_2 : decode cX1_untilCalm 2 = .ok (.iconst 0, 1) := by decide +kernel
theorem dX1_untilCalm_3 : decode cX1_untilCalm 3 = .ok (.istore_n 2, 1) := by decide +kernel
theorem dX1_untilCalm_4 : decode cX1_untilCalm 4 = .ok (.iload_n 2, 1) := by decide +kernel
theorem dX1_untilCalm_5 : decode cX1_untilCalm 5 = .ok (.aload_n 0, 1) := by decide +kernel
theorem dX1_untilCalm_6 : decode cX1_untilCalm 6 = .ok (.getfield 49, 3) := by decide +kernel
theorem dX1_untilCalm_9 : decode cX1_untilCalm 9 = .ok (.if_icmp .ge 45, 3) := by decide +kernel
theorem dX1_untilCalm_12 : decode cX1_untilCalm 12 = .ok (.iconst 0, 1) := by decide +kernel
theorem dX1_untilCalm_13 : decode cX1_untilCalm 13 = .ok (.iconst 3, 1) := by decide +kernel
theorem dX1_untilCalm_14 : decode cX1_untilCalm 14 = .ok (.aload_n 0, 1) := by decide +kernel
theorem dX1_untilCalm_15 : decode cX1_untilCalm 15 = .ok (.getfield 26, 3) := by decide +kernel
theorem dX1_untilCalm_18 : decode cX1_untilCalm 18 = .ok (.iload_n 2, 1) := by decide +kernel
theorem dX1_untilCalm_19 : decode cX1_untilCalm 19 = .ok (.iaload, 1) := by decide +kernel
theorem dX1_untilCalm_20 : decode cX1_untilCalm 20 = .ok (.isub, 1) := by decide +kernel
theorem dX1_untilCalm_21 : decode cX1_untilCalm 21 = .ok (.invokestatic 55, 3) := by decide +kernel
theorem dX1_untilCalm_24 : decode cX1_untilCalm 24 = .ok (.istore_n 3, 1) := by decide +kernel
theorem dX1_untilCalm_25 : decode cX1_untilCalm 25 = .ok (.iload_n 1, 1) := by decide +kernel
theorem dX1_untilCalm_26 : decode cX1_untilCalm 26 = .ok (.aload_n 0, 1) := by decide +kernel
theorem dX1_untilCalm_27 : decode cX1_untilCalm 27 = .ok (.getfield 29, 3) := by decide +kernel
theorem dX1_untilCalm_30 : decode cX1_untilCalm 30 = .ok (.iload_n 2, 1) := by decide +kernel
theorem dX1_untilCalm_31 : decode cX1_untilCalm 31 = .ok (.baload, 1) := by decide +kernel
theorem dX1_untilCalm_32 : decode cX1_untilCalm 32 = .ok (.ifCond .eq 11, 3) := by decide +kernel
theorem dX1_untilCalm_35 : decode cX1_untilCalm 35 = .ok (.iload_n 3, 1) := by decide +kernel
theorem dX1_untilCalm_36 : decode cX1_untilCalm 36 = .ok (.iconst 1, 1) := by decide +kernel
theorem dX1_untilCalm_37 : decode cX1_untilCalm 37 = .ok (.iadd, 1) := by decide +kernel
theorem dX1_untilCalm_38 : decode cX1_untilCalm 38 = .ok (.iconst 2, 1) := by decide +kernel
theorem dX1_untilCalm_39 : decode cX1_untilCalm 39 = .ok (.idiv, 1) := by decide +kernel
theorem dX1_untilCalm_40 : decode cX1_untilCalm 40 = .ok (.goto 4, 3) := by decide +kernel
theorem dX1_untilCalm_43 : decode cX1_untilCalm 43 = .ok (.iload_n 3, 1) := by decide +kernel
theorem dX1_untilCalm_44 : decode cX1_untilCalm 44 = .ok (.invokestatic 55, 3) := by decide +kernel
theorem dX1_untilCalm_47 : decode cX1_untilCalm 47 = .ok (.istore_n 1, 1) := by decide +kernel
theorem dX1_untilCalm_48 : decode cX1_untilCalm 48 = .ok (.iinc 2 1, 3) := by decide +kernel
theorem dX1_untilCalm_51 : decode cX1_untilCalm 51 = .ok (.goto (-47), 3) := by decide +kernel
theorem dX1_untilCalm_54 : decode cX1_untilCalm 54 = .ok (.iload_n 1, 1) := by decide +kernel
theorem dX1_untilCalm_55 : decode cX1_untilCalm 55 = .ok (.ireturn, 1) := by decide +kernel
theorem dX1_nightsUntilCalm_0 : decode cX1_nightsUntilCalm 0 = .ok (.aload_n 0, 1) := by decide +kernel
theorem dX1_nightsUntilCalm_1 : decode cX1_nightsUntilCalm 1 = .ok (.aload_n 0, 1) := by decide +kernel
theorem dX1_nightsUntilCalm_2 : decode cX1_nightsUntilCalm 2 = .ok (.invokevirtual 156, 3) := by decide +kernel
theorem dX1_nightsUntilCalm_5 : decode cX1_nightsUntilCalm 5 = .ok (.invokevirtual 128, 3) := by decide +kernel
theorem dX1_nightsUntilCalm_8 : decode cX1_nightsUntilCalm 8 = .ok (.ireturn, 1) := by decide +kernel
theorem dX1_steady_0 : decode cX1_steady 0 = .ok (.iconst (-1), 1) := by decide +kernel
theorem dX1_steady_1 : decode cX1_steady 1 = .ok (.istore_n 1, 1) := by decide +kernel
theorem dX1_steady_2 : decode cX1_steady 2 = .ok (.iconst 0, 1) := by decide +kernel
theorem dX1_steady_3 : decode cX1_steady 3 = .ok (.istore_n 2, 1) := by decide +kernel
theorem dX1_steady_4 : decode cX1_steady 4 = .ok (.iload_n 2, 1) := by decide +kernel
theorem dX1_steady_5 : decode cX1_steady 5 = .ok (.aload_n 0, 1) := by decide +kernel
theorem dX1_steady_6 : decode cX1_steady 6 = .ok (.getfield 49, 3) := by decide +kernel
theorem dX1_steady_9 : decode cX1_steady 9 = .ok (.if_icmp .ge 40, 3) := by decide +kernel
theorem dX1_steady_12 : decode cX1_steady 12 = .ok (.aload_n 0, 1) := by decide +kernel
theorem dX1_steady_13 : decode cX1_steady 13 = .ok (.getfield 29, 3) := by decide +kernel
theorem dX1_steady_16 : decode cX1_steady 16 = .ok (.iload_n 2, 1) := by decide +kernel
theorem dX1_steady_17 : decode cX1_steady 17 = .ok (.baload, 1) := by decide +kernel
theorem dX1_steady_18 : decode cX1_steady 18 = .ok (.ifCond .ne 25, 3) := by decide +kernel
theorem dX1_steady_21 : decode cX1_steady 21 = .ok (.iload_n 1, 1) := by decide +kernel
theorem dX1_steady_22 : decode cX1_steady 22 = .ok (.iconst (-1), 1) := by decide +kernel
theorem dX1_steady_23 : decode cX1_steady 23 = .ok (.if_icmp .eq 18, 3) := by decide +kernel
theorem dX1_steady_26 : decode cX1_steady 26 = .ok (.aload_n 0, 1) := by decide +kernel
theorem dX1_steady_27 : decode cX1_steady 27 = .ok (.getfield 26, 3) := by decide +kernel
theorem dX1_steady_30 : decode cX1_steady 30 = .ok (.iload_n 2, 1) := by decide +kernel
theorem dX1_steady_31 : decode cX1_steady 31 = .ok (.iaload, 1) := by decide +kernel
theorem dX1_steady_32 : decode cX1_steady 32 = .ok (.aload_n 0, 1) := by decide +kernel
theorem dX1_steady_33 : decode cX1_steady 33 = .ok (.getfield 26, 3) := by decide +kernel
theorem dX1_steady_36 : decode cX1_steady 36 = .ok (.iload_n 1, 1) := by decide +kernel
theorem dX1_steady_37 : decode cX1_steady 37 = .ok (.iaload, 1) := by decide +kernel
theorem dX1_steady_38 : decode cX1_steady 38 = .ok (.if_icmp .le 5, 3) := by decide +kernel
theorem dX1_steady_41 : decode cX1_steady 41 = .ok (.iload_n 2, 1) := by decide +kernel
theorem dX1_steady_42 : decode cX1_steady 42 = .ok (.istore_n 1, 1) := by decide +kernel
theorem dX1_steady_43 : decode cX1_steady 43 = .ok (.iinc 2 1, 3) := by decide +kernel
theorem dX1_steady_46 : decode cX1_steady 46 = .ok (.goto (-42), 3) := by decide +kernel
theorem dX1_steady_49 : decode cX1_steady 49 = .ok (.iload_n 1, 1) := by decide +kernel
theorem dX1_steady_50 : decode cX1_steady 50 = .ok (.ireturn, 1) := by decide +kernel
theorem dX1_steadiest_0 : decode cX1_steadiest 0 = .ok (.aload_n 0, 1) := by decide +kernel
theorem dX1_steadiest_1 : decode cX1_steadiest 1 = .ok (.aload_n 0, 1) := by decide +kernel
theorem dX1_steadiest_2 : decode cX1_steadiest 2 = .ok (.invokevirtual 159, 3) := by decide +kernel
theorem dX1_steadiest_5 : decode cX1_steadiest 5 = .ok (.invokevirtual 128, 3) := by decide +kernel
theorem dX1_steadiest_8 : decode cX1_steadiest 8 = .ok (.ireturn, 1) := by decide +kernel
theorem dX1_lucky_0 : decode cX1_lucky 0 = .ok (.iconst (-1), 1) := by decide +kernel
theorem dX1_lucky_1 : decode cX1_lucky 1 = .ok (.istore_n 1, 1) := by decide +kernel
theorem dX1_lucky_2 : decode cX1_lucky 2 = .ok (.iconst 0, 1) := by decide +kernel
theorem dX1_lucky_3 : decode cX1_lucky 3 = .ok (.istore_n 2, 1) := by decide +kernel
theorem dX1_lucky_4 : decode cX1_lucky 4 = .ok (.iload_n 2, 1) := by decide +kernel
theorem dX1_lucky_5 : decode cX1_lucky 5 = .ok (.aload_n 0, 1) := by decide +kernel
theorem dX1_lucky_6 : decode cX1_lucky 6 = .ok (.getfield 42, 3) := by decide +kernel
theorem dX1_lucky_9 : decode cX1_lucky 9 = .ok (.if_icmp .ge 40, 3) := by decide +kernel
theorem dX1_lucky_12 : decode cX1_lucky 12 = .ok (.aload_n 0, 1) := by decide +kernel
theorem dX1_lucky_13 : decode cX1_lucky 13 = .ok (.getfield 9, 3) := by decide +kernel
theorem dX1_lucky_16 : decode cX1_lucky 16 = .ok (.iload_n 2, 1) := by decide +kernel
theorem dX1_lucky_17 : decode cX1_lucky 17 = .ok (.baload, 1) := by decide +kernel
theorem dX1_lucky_18 : decode cX1_lucky 18 = .ok (.ifCond .ne 25, 3) := by decide +kernel
theorem dX1_lucky_21 : decode cX1_lucky 21 = .ok (.iload_n 1, 1) := by decide +kernel
theorem dX1_lucky_22 : decode cX1_lucky 22 = .ok (.iconst (-1), 1) := by decide +kernel
theorem dX1_lucky_23 : decode cX1_lucky 23 = .ok (.if_icmp .eq 18, 3) := by decide +kernel
theorem dX1_lucky_26 : decode cX1_lucky 26 = .ok (.aload_n 0, 1) := by decide +kernel
theorem dX1_lucky_27 : decode cX1_lucky 27 = .ok (.getfield 13, 3) := by decide +kernel
theorem dX1_lucky_30 : decode cX1_lucky 30 = .ok (.iload_n 2, 1) := by decide +kernel
theorem dX1_lucky_31 : decode cX1_lucky 31 = .ok (.iaload, 1) := by decide +kernel
theorem dX1_lucky_32 : decode cX1_lucky 32 = .ok (.aload_n 0, 1) := by decide +kernel
theorem dX1_lucky_33 : decode cX1_lucky 33 = .ok (.getfield 13, 3) := by decide +kernel
theorem dX1_lucky_36 : decode cX1_lucky 36 = .ok (.iload_n 1, 1) := by decide +kernel
theorem dX1_lucky_37 : decode cX1_lucky 37 = .ok (.iaload, 1) := by decide +kernel
theorem dX1_lucky_38 : decode cX1_lucky 38 = .ok (.if_icmp .le 5, 3) := by decide +kernel
theorem dX1_lucky_41 : decode cX1_lucky 41 = .ok (.iload_n 2, 1) := by decide +kernel
theorem dX1_lucky_42 : decode cX1_lucky 42 = .ok (.istore_n 1, 1) := by decide +kernel
theorem dX1_lucky_43 : decode cX1_lucky 43 = .ok (.iinc 2 1, 3) := by decide +kernel
theorem dX1_lucky_46 : decode cX1_lucky 46 = .ok (.goto (-42), 3) := by decide +kernel
theorem dX1_lucky_49 : decode cX1_lucky 49 = .ok (.iload_n 1, 1) := by decide +kernel
theorem dX1_lucky_50 : decode cX1_lucky 50 = .ok (.ireturn, 1) := by decide +kernel
theorem dX1_luckiest_0 : decode cX1_luckiest 0 = .ok (.aload_n 0, 1) := by decide +kernel
theorem dX1_luckiest_1 : decode cX1_luckiest 1 = .ok (.aload_n 0, 1) := by decide +kernel
theorem dX1_luckiest_2 : decode cX1_luckiest 2 = .ok (.invokevirtual 162, 3) := by decide +kernel
theorem dX1_luckiest_5 : decode cX1_luckiest 5 = .ok (.invokevirtual 128, 3) := by decide +kernel
theorem dX1_luckiest_8 : decode cX1_luckiest 8 = .ok (.ireturn, 1) := by decide +kernel
theorem dX1_meanLuck_0 : decode cX1_meanLuck 0 = .ok (.aload_n 0, 1) := by decide +kernel
theorem dX1_meanLuck_1 : decode cX1_meanLuck 1 = .ok (.iconst 0, 1) := by decide +kernel
theorem dX1_meanLuck_2 : decode cX1_meanLuck 2 = .ok (.putfield 38, 3) := by decide +kernel
theorem dX1_meanLuck_5 : decode cX1_meanLuck 5 = .ok (.iconst 0, 1) := by decide +kernel
theorem dX1_meanLuck_6 : decode cX1_meanLuck 6 = .ok (.istore_n 1, 1) := by decide +kernel
theorem dX1_meanLuck_7 : decode cX1_meanLuck 7 = .ok (.iconst 0, 1) := by decide +kernel
theorem dX1_meanLuck_8 : decode cX1_meanLuck 8 = .ok (.istore_n 2, 1) := by decide +kernel
theorem dX1_meanLuck_9 : decode cX1_meanLuck 9 = .ok (.iload_n 2, 1) := by decide +kernel
theorem dX1_meanLuck_10 : decode cX1_meanLuck 10 = .ok (.aload_n 0, 1) := by decide +kernel
theorem dX1_meanLuck_11 : decode cX1_meanLuck 11 = .ok (.getfield 42, 3) := by decide +kernel
theorem dX1_meanLuck_14 : decode cX1_meanLuck 14 = .ok (.if_icmp .ge 31, 3) := by decide +kernel
theorem dX1_meanLuck_17 : decode cX1_meanLuck 17 = .ok (.iload_n 1, 1) := by decide +kernel
theorem dX1_meanLuck_18 : decode cX1_meanLuck 18 = .ok (.aload_n 0, 1) := by decide +kernel
theorem dX1_meanLuck_19 : decode cX1_meanLuck 19 = .ok (.getfield 9, 3) := by decide +kernel
theorem dX1_meanLuck_22 : decode cX1_meanLuck 22 = .ok (.iload_n 2, 1) := by decide +kernel
theorem dX1_meanLuck_23 : decode cX1_meanLuck 23 = .ok (.baload, 1) := by decide +kernel
theorem dX1_meanLuck_24 : decode cX1_meanLuck 24 = .ok (.ifCond .eq 7, 3) := by decide +kernel
theorem dX1_meanLuck_27 : decode cX1_meanLuck 27 = .ok (.iconst 0, 1) := by decide +kernel
theorem dX1_meanLuck_28 : decode cX1_meanLuck 28 = .ok (.goto 9, 3) := by decide +kernel
theorem dX1_meanLuck_31 : decode cX1_meanLuck 31 = .ok (.aload_n 0, 1) := by decide +kernel
theorem dX1_meanLuck_32 : decode cX1_meanLuck 32 = .ok (.getfield 13, 3) := by decide +kernel
theorem dX1_meanLuck_35 : decode cX1_meanLuck 35 = .ok (.iload_n 2, 1) := by decide +kernel
theorem dX1_meanLuck_36 : decode cX1_meanLuck 36 = .ok (.iaload, 1) := by decide +kernel
theorem dX1_meanLuck_37 : decode cX1_meanLuck 37 = .ok (.iadd, 1) := by decide +kernel
theorem dX1_meanLuck_38 : decode cX1_meanLuck 38 = .ok (.istore_n 1, 1) := by decide +kernel
theorem dX1_meanLuck_39 : decode cX1_meanLuck 39 = .ok (.iinc 2 1, 3) := by decide +kernel
theorem dX1_meanLuck_42 : decode cX1_meanLuck 42 = .ok (.goto (-33), 3) := by decide +kernel
theorem dX1_meanLuck_45 : decode cX1_meanLuck 45 = .ok (.aload_n 0, 1) := by decide +kernel
theorem dX1_meanLuck_46 : decode cX1_meanLuck 46 = .ok (.invokevirtual 131, 3) := by decide +kernel
theorem dX1_meanLuck_49 : decode cX1_meanLuck 49 = .ok (.ifCond .ne 7, 3) := by decide +kernel
theorem dX1_meanLuck_52 : decode cX1_meanLuck 52 = .ok (.dconst 0, 1) := by decide +kernel
theorem dX1_meanLuck_53 : decode cX1_meanLuck 53 = .ok (.goto 11, 3) := by decide +kernel
theorem dX1_meanLuck_56 : decode cX1_meanLuck 56 = .ok (.iload_n 1, 1) := by decide +kernel
theorem dX1_meanLuck_57 : decode cX1_meanLuck 57 = .ok (.i2d, 1) := by decide +kernel
theorem dX1_meanLuck_58 : decode cX1_meanLuck 58 = .ok (.aload_n 0, 1) := by decide +kernel
theorem dX1_meanLuck_59 : decode cX1_meanLuck 59 = .ok (.invokevirtual 131, 3) := by decide +kernel
theorem dX1_meanLuck_62 : decode cX1_meanLuck 62 = .ok (.i2d, 1) := by decide +kernel
theorem dX1_meanLuck_63 : decode cX1_meanLuck 63 = .ok (.ddiv, 1) := by decide +kernel
theorem dX1_meanLuck_64 : decode cX1_meanLuck 64 = .ok (.dreturn, 1) := by decide +kernel
theorem dX1_digest_0 : decode cX1_digest 0 = .ok (.aload_n 0, 1) := by decide +kernel
theorem dX1_digest_1 : decode cX1_digest 1 = .ok (.iconst 0, 1) := by decide +kernel
theorem dX1_digest_2 : decode cX1_digest 2 = .ok (.putfield 38, 3) := by decide +kernel
theorem dX1_digest_5 : decode cX1_digest 5 = .ok (.bipush 14, 2) := by decide +kernel
theorem dX1_digest_7 : decode cX1_digest 7 = .ok (.newarray .int, 2) := by decide +kernel
theorem dX1_digest_9 : decode cX1_digest 9 = .ok (.dup, 1) := by decide +kernel
theorem dX1_digest_10 : decode cX1_digest 10 = .ok (.iconst 0, 1) := by decide +kernel
theorem dX1_digest_11 : decode cX1_digest 11 = .ok (.aload_n 0, 1) := by decide +kernel
theorem dX1_digest_12 : decode cX1_digest 12 = .ok (.getfield 122, 3) := by decide +kernel
theorem dX1_digest_15 : decode cX1_digest 15 = .ok (.iastore, 1) := by decide +kernel
theorem dX1_digest_16 : decode cX1_digest 16 = .ok (.dup, 1) := by decide +kernel
theorem dX1_digest_17 : decode cX1_digest 17 = .ok (.iconst 1, 1) := by decide +kernel
theorem dX1_digest_18 : decode cX1_digest 18 = .ok (.aload_n 0, 1) := by decide +kernel
theorem dX1_digest_19 : decode cX1_digest 19 = .ok (.getfield 42, 3) := by decide +kernel
theorem dX1_digest_22 : decode cX1_digest 22 = .ok (.iastore, 1) := by decide +kernel
theorem dX1_digest_23 : decode cX1_digest 23 = .ok (.dup, 1) := by decide +kernel
theorem dX1_digest_24 : decode cX1_digest 24 = .ok (.iconst 2, 1) := by decide +kernel
theorem dX1_digest_25 : decode cX1_digest 25 = .ok (.aload_n 0, 1) := by decide +kernel
theorem dX1_digest_26 : decode cX1_digest 26 = .ok (.invokevirtual 131, 3) := by decide +kernel
theorem dX1_digest_29 : decode cX1_digest 29 = .ok (.iastore, 1) := by decide +kernel
theorem dX1_digest_30 : decode cX1_digest 30 = .ok (.dup, 1) := by decide +kernel
theorem dX1_digest_31 : decode cX1_digest 31 = .ok (.iconst 3, 1) := by decide +kernel
theorem dX1_digest_32 : decode cX1_digest 32 = .ok (.aload_n 0, 1) := by decide +kernel
theorem dX1_digest_33 : decode cX1_digest 33 = .ok (.getfield 49, 3) := by decide +kernel
theorem dX1_digest_36 : decode cX1_digest 36 = .ok (.iastore, 1) := by decide +kernel
theorem dX1_digest_37 : decode cX1_digest 37 = .ok (.dup, 1) := by decide +kernel
theorem dX1_digest_38 : decode cX1_digest 38 = .ok (.iconst 4, 1) := by decide +kernel
theorem dX1_digest_39 : decode cX1_digest 39 = .ok (.aload_n 0, 1) := by decide +kernel
theorem dX1_digest_40 : decode cX1_digest 40 = .ok (.invokevirtual 125, 3) := by decide +kernel
theorem dX1_digest_43 : decode cX1_digest 43 = .ok (.iastore, 1) := by decide +kernel
theorem dX1_digest_44 : decode cX1_digest 44 = .ok (.dup, 1) := by decide +kernel
theorem dX1_digest_45 : decode cX1_digest 45 = .ok (.iconst 5, 1) := by decide +kernel
theorem dX1_digest_46 : decode cX1_digest 46 = .ok (.aload_n 0, 1) := by decide +kernel
theorem dX1_digest_47 : decode cX1_digest 47 = .ok (.getfield 64, 3) := by decide +kernel
theorem dX1_digest_50 : decode cX1_digest 50 = .ok (.iastore, 1) := by decide +kernel
theorem dX1_digest_51 : decode cX1_digest 51 = .ok (.dup, 1) := by decide +kernel
theorem dX1_digest_52 : decode cX1_digest 52 = .ok (.bipush 6, 2) := by decide +kernel
theorem dX1_digest_54 : decode cX1_digest 54 = .ok (.aload_n 0, 1) := by decide +kernel
theorem dX1_digest_55 : decode cX1_digest 55 = .ok (.getfield 113, 3) := by decide +kernel
theorem dX1_digest_58 : decode cX1_digest 58 = .ok (.iastore, 1) := by decide +kernel
theorem dX1_digest_59 : decode cX1_digest 59 = .ok (.dup, 1) := by decide +kernel
theorem dX1_digest_60 : decode cX1_digest 60 = .ok (.bipush 7, 2) := by decide +kernel
theorem dX1_digest_62 : decode cX1_digest 62 = .ok (.aload_n 0, 1) := by decide +kernel
theorem dX1_digest_63 : decode cX1_digest 63 = .ok (.getfield 52, 3) := by decide +kernel
theorem dX1_digest_66 : decode cX1_digest 66 = .ok (.iastore, 1) := by decide +kernel
theorem dX1_digest_67 : decode cX1_digest 67 = .ok (.dup, 1) := by decide +kernel
theorem dX1_digest_68 : decode cX1_digest 68 = .ok (.bipush 8, 2) := by decide +kernel
theorem dX1_digest_70 : decode cX1_digest 70 = .ok (.aload_n 0, 1) := by decide +kernel
theorem dX1_digest_71 : decode cX1_digest 71 = .ok (.invokevirtual 134, 3) := by decide +kernel
theorem dX1_digest_74 : decode cX1_digest 74 = .ok (.iastore, 1) := by decide +kernel
theorem dX1_digest_75 : decode cX1_digest 75 = .ok (.dup, 1) := by decide +kernel
theorem dX1_digest_76 : decode cX1_digest 76 = .ok (.bipush 9, 2) := by decide +kernel
theorem dX1_digest_78 : decode cX1_digest 78 = .ok (.aload_n 0, 1) := by decide +kernel
theorem dX1_digest_79 : decode cX1_digest 79 = .ok (.bipush 20, 2) := by decide +kernel
theorem dX1_digest_81 : decode cX1_digest 81 = .ok (.invokevirtual 107, 3) := by decide +kernel
theorem dX1_digest_84 : decode cX1_digest 84 = .ok (.iastore, 1) := by decide +kernel
theorem dX1_digest_85 : decode cX1_digest 85 = .ok (.dup, 1) := by decide +kernel
theorem dX1_digest_86 : decode cX1_digest 86 = .ok (.bipush 10, 2) := by decide +kernel
theorem dX1_digest_88 : decode cX1_digest 88 = .ok (.aload_n 0, 1) := by decide +kernel
theorem dX1_digest_89 : decode cX1_digest 89 = .ok (.bipush 10, 2) := by decide +kernel
theorem dX1_digest_91 : decode cX1_digest 91 = .ok (.invokevirtual 153, 3) := by decide +kernel
theorem dX1_digest_94 : decode cX1_digest 94 = .ok (.iastore, 1) := by decide +kernel
theorem dX1_digest_95 : decode cX1_digest 95 = .ok (.dup, 1) := by decide +kernel
theorem dX1_digest_96 : decode cX1_digest 96 = .ok (.bipush 11, 2) := by decide +kernel
theorem dX1_digest_98 : decode cX1_digest 98 = .ok (.aload_n 0, 1) := by decide +kernel
theorem dX1_digest_99 : decode cX1_digest 99 = .ok (.invokevirtual 156, 3) := by decide +kernel
theorem dX1_digest_102 : decode cX1_digest 102 = .ok (.iastore, 1) := by decide +kernel
theorem dX1_digest_103 : decode cX1_digest 103 = .ok (.dup, 1) := by decide +kernel
theorem dX1_digest_104 : decode cX1_digest 104 = .ok (.bipush 12, 2) := by decide +kernel
theorem dX1_digest_106 : decode cX1_digest 106 = .ok (.aload_n 0, 1) := by decide +kernel
theorem dX1_digest_107 : decode cX1_digest 107 = .ok (.invokevirtual 159, 3) := by decide +kernel
theorem dX1_digest_110 : decode cX1_digest 110 = .ok (.iastore, 1) := by decide +kernel
theorem dX1_digest_111 : decode cX1_digest 111 = .ok (.dup, 1) := by decide +kernel
theorem dX1_digest_112 : decode cX1_digest 112 = .ok (.bipush 13, 2) := by decide +kernel
theorem dX1_digest_114 : decode cX1_digest 114 = .ok (.aload_n 0, 1) := by decide +kernel
theorem dX1_digest_115 : decode cX1_digest 115 = .ok (.invokevirtual 162, 3) := by decide +kernel
theorem dX1_digest_118 : decode cX1_digest 118 = .ok (.iastore, 1) := by decide +kernel
theorem dX1_digest_119 : decode cX1_digest 119 = .ok (.astore_n 1, 1) := by decide +kernel
theorem dX1_digest_120 : decode cX1_digest 120 = .ok (.ldc2_w 165, 3) := by decide +kernel
theorem dX1_digest_123 : decode cX1_digest 123 = .ok (.lstore_n 2, 1) := by decide +kernel
theorem dX1_digest_124 : decode cX1_digest 124 = .ok (.aload_n 1, 1) := by decide +kernel
theorem dX1_digest_125 : decode cX1_digest 125 = .ok (.astore 4, 2) := by decide +kernel
theorem dX1_digest_127 : decode cX1_digest 127 = .ok (.aload 4, 2) := by decide +kernel
theorem dX1_digest_129 : decode cX1_digest 129 = .ok (.arraylength, 1) := by decide +kernel
theorem dX1_digest_130 : decode cX1_digest 130 = .ok (.istore 5, 2) := by decide +kernel
theorem dX1_digest_132 : decode cX1_digest 132 = .ok (.iconst 0, 1) := by decide +kernel
theorem dX1_digest_133 : decode cX1_digest 133 = .ok (.istore 6, 2) := by decide +kernel
theorem dX1_digest_135 : decode cX1_digest 135 = .ok (.iload 6, 2) := by decide +kernel
theorem dX1_digest_137 : decode cX1_digest 137 = .ok (.iload 5, 2) := by decide +kernel
theorem dX1_digest_139 : decode cX1_digest 139 = .ok (.if_icmp .ge 26, 3) := by decide +kernel
theorem dX1_digest_142 : decode cX1_digest 142 = .ok (.aload 4, 2) := by decide +kernel
theorem dX1_digest_144 : decode cX1_digest 144 = .ok (.iload 6, 2) := by decide +kernel
theorem dX1_digest_146 : decode cX1_digest 146 = .ok (.iaload, 1) := by decide +kernel
theorem dX1_digest_147 : decode cX1_digest 147 = .ok (.istore 7, 2) := by decide +kernel
theorem dX1_digest_149 : decode cX1_digest 149 = .ok (.lload_n 2, 1) := by decide +kernel
theorem dX1_digest_150 : decode cX1_digest 150 = .ok (.ldc2_w 167, 3) := by decide +kernel
theorem dX1_digest_153 : decode cX1_digest 153 = .ok (.lmul, 1) := by decide +kernel
theorem dX1_digest_154 : decode cX1_digest 154 = .ok (.iload 7, 2) := by decide +kernel
theorem dX1_digest_156 : decode cX1_digest 156 = .ok (.i2l, 1) := by decide +kernel
theorem dX1_digest_157 : decode cX1_digest 157 = .ok (.ladd, 1) := by decide +kernel
theorem dX1_digest_158 : decode cX1_digest 158 = .ok (.lstore_n 2, 1) := by decide +kernel
theorem dX1_digest_159 : decode cX1_digest 159 = .ok (.iinc 6 1, 3) := by decide +kernel
theorem dX1_digest_162 : decode cX1_digest 162 = .ok (.goto (-27), 3) := by decide +kernel
theorem dX1_digest_165 : decode cX1_digest 165 = .ok (.iconst 0, 1) := by decide +kernel
theorem dX1_digest_166 : decode cX1_digest 166 = .ok (.istore 4, 2) := by decide +kernel
theorem dX1_digest_168 : decode cX1_digest 168 = .ok (.iload 4, 2) := by decide +kernel
theorem dX1_digest_170 : decode cX1_digest 170 = .ok (.aload_n 0, 1) := by decide +kernel
theorem dX1_digest_171 : decode cX1_digest 171 = .ok (.getfield 42, 3) := by decide +kernel
theorem dX1_digest_174 : decode cX1_digest 174 = .ok (.if_icmp .ge 144, 3) := by decide +kernel
theorem dX1_digest_177 : decode cX1_digest 177 = .ok (.bipush 8, 2) := by decide +kernel
theorem dX1_digest_179 : decode cX1_digest 179 = .ok (.newarray .int, 2) := by decide +kernel
theorem dX1_digest_181 : decode cX1_digest 181 = .ok (.dup, 1) := by decide +kernel
theorem dX1_digest_182 : decode cX1_digest 182 = .ok (.iconst 0, 1) := by decide +kernel
theorem dX1_digest_183 : decode cX1_digest 183 = .ok (.aload_n 0, 1) := by decide +kernel
theorem dX1_digest_184 : decode cX1_digest 184 = .ok (.getfield 9, 3) := by decide +kernel
theorem dX1_digest_187 : decode cX1_digest 187 = .ok (.iload 4, 2) := by decide +kernel
theorem dX1_digest_189 : decode cX1_digest 189 = .ok (.baload, 1) := by decide +kernel
theorem dX1_digest_190 : decode cX1_digest 190 = .ok (.ifCond .eq 7, 3) := by decide +kernel
theorem dX1_digest_193 : decode cX1_digest 193 = .ok (.iconst 0, 1) := by decide +kernel
theorem dX1_digest_194 : decode cX1_digest 194 = .ok (.goto 4, 3) := by decide +kernel
theorem dX1_digest_197 : decode cX1_digest 197 = .ok (.iconst 1, 1) := by decide +kernel
theorem dX1_digest_198 : decode cX1_digest 198 = .ok (.iastore, 1) := by decide +kernel
theorem dX1_digest_199 : decode cX1_digest 199 = .ok (.dup, 1) := by decide +kernel
theorem dX1_digest_200 : decode cX1_digest 200 = .ok (.iconst 1, 1) := by decide +kernel
theorem dX1_digest_201 : decode cX1_digest 201 = .ok (.aload_n 0, 1) := by decide +kernel
theorem dX1_digest_202 : decode cX1_digest 202 = .ok (.getfield 13, 3) := by decide +kernel
theorem dX1_digest_205 : decode cX1_digest 205 = .ok (.iload 4, 2) := by decide +kernel
theorem dX1_digest_207 : decode cX1_digest 207 = .ok (.iaload, 1) := by decide +kernel
theorem dX1_digest_208 : decode cX1_digest 208 = .ok (.iastore, 1) := by decide +kernel
theorem dX1_digest_209 : decode cX1_digest 209 = .ok (.dup, 1) := by decide +kernel
theorem dX1_digest_210 : decode cX1_digest 210 = .ok (.iconst 2, 1) := by decide +kernel
theorem dX1_digest_211 : decode cX1_digest 211 = .ok (.aload_n 0, 1) := by decide +kernel
theorem dX1_digest_212 : decode cX1_digest 212 = .ok (.getfield 17, 3) := by decide +kernel
theorem dX1_digest_215 : decode cX1_digest 215 = .ok (.iload 4, 2) := by decide +kernel
theorem dX1_digest_217 : decode cX1_digest 217 = .ok (.iaload, 1) := by decide +kernel
theorem dX1_digest_218 : decode cX1_digest 218 = .ok (.iastore, 1) := by decide +kernel
theorem dX1_digest_219 : decode cX1_digest 219 = .ok (.dup, 1) := by decide +kernel
theorem dX1_digest_220 : decode cX1_digest 220 = .ok (.iconst 3, 1) := by decide +kernel
theorem dX1_digest_221 : decode cX1_digest 221 = .ok (.aload_n 0, 1) := by decide +kernel
theorem dX1_digest_222 : decode cX1_digest 222 = .ok (.getfield 20, 3) := by decide +kernel
theorem dX1_digest_225 : decode cX1_digest 225 = .ok (.iload 4, 2) := by decide +kernel
theorem dX1_digest_227 : decode cX1_digest 227 = .ok (.iaload, 1) := by decide +kernel
theorem dX1_digest_228 : decode cX1_digest 228 = .ok (.iastore, 1) := by decide +kernel
theorem dX1_digest_229 : decode cX1_digest 229 = .ok (.dup, 1) := by decide +kernel
theorem dX1_digest_230 : decode cX1_digest 230 = .ok (.iconst 4, 1) := by decide +kernel
theorem dX1_digest_231 : decode cX1_digest 231 = .ok (.aload_n 0, 1) := by decide +kernel
theorem dX1_digest_232 : decode cX1_digest 232 = .ok (.getfield 23, 3) := by decide +kernel
theorem dX1_digest_235 : decode cX1_digest 235 = .ok (.iload 4, 2) := by decide +kernel
theorem dX1_digest_237 : decode cX1_digest 237 = .ok (.iaload, 1) := by decide +kernel
theorem dX1_digest_238 : decode cX1_digest 238 = .ok (.iastore, 1) := by decide +kernel
theorem dX1_digest_239 : decode cX1_digest 239 = .ok (.dup, 1) := by decide +kernel
theorem dX1_digest_240 : decode cX1_digest 240 = .ok (.iconst 5, 1) := by decide +kernel
theorem dX1_digest_241 : decode cX1_digest 241 = .ok (.aload_n 0, 1) := by decide +kernel
theorem dX1_digest_242 : decode cX1_digest 242 = .ok (.iload 4, 2) := by decide +kernel
theorem dX1_digest_244 : decode cX1_digest 244 = .ok (.invokevirtual 119, 3) := by decide +kernel
theorem dX1_digest_247 : decode cX1_digest 247 = .ok (.iastore, 1) := by decide +kernel
theorem dX1_digest_248 : decode cX1_digest 248 = .ok (.dup, 1) := by decide +kernel
theorem dX1_digest_249 : decode cX1_digest 249 = .ok (.bipush 6, 2) := by decide +kernel
theorem dX1_digest_251 : decode cX1_digest 251 = .ok (.aload_n 0, 1) := by decide +kernel
theorem dX1_digest_252 : decode cX1_digest 252 = .ok (.iload 4, 2) := by decide +kernel
theorem dX1_digest_254 : decode cX1_digest 254 = .ok (.invokevirtual 141, 3) := by decide +kernel
theorem dX1_digest_257 : decode cX1_digest 257 = .ok (.iastore, 1) := by decide +kernel
theorem dX1_digest_258 : decode cX1_digest 258 = .ok (.dup, 1) := by decide +kernel
theorem dX1_digest_259 : decode cX1_digest 259 = .ok (.bipush 7, 2) := by decide +kernel
theorem dX1_digest_261 : decode cX1_digest 261 = .ok (.aload_n 0, 1) := by decide +kernel
theorem dX1_digest_262 : decode cX1_digest 262 = .ok (.iload 4, 2) := by decide +kernel
theorem dX1_digest_264 : decode cX1_digest 264 = .ok (.invokevirtual 144, 3) := by decide +kernel
theorem dX1_digest_267 : decode cX1_digest 267 = .ok (.iastore, 1) := by decide +kernel
theorem dX1_digest_268 : decode cX1_digest 268 = .ok (.astore 5, 2) := by decide +kernel
theorem dX1_digest_270 : decode cX1_digest 270 = .ok (.aload 5, 2) := by decide +kernel
theorem dX1_digest_272 : decode cX1_digest 272 = .ok (.astore 6, 2) := by decide +kernel
theorem dX1_digest_274 : decode cX1_digest 274 = .ok (.aload 6, 2) := by decide +kernel
theorem dX1_digest_276 : decode cX1_digest 276 = .ok (.arraylength, 1) := by decide +kernel
theorem dX1_digest_277 : decode cX1_digest 277 = .ok (.istore 7, 2) := by decide +kernel
theorem dX1_digest_279 : decode cX1_digest 279 = .ok (.iconst 0, 1) := by decide +kernel
theorem dX1_digest_280 : decode cX1_digest 280 = .ok (.istore 8, 2) := by decide +kernel
theorem dX1_digest_282 : decode cX1_digest 282 = .ok (.iload 8, 2) := by decide +kernel
theorem dX1_digest_284 : decode cX1_digest 284 = .ok (.iload 7, 2) := by decide +kernel
theorem dX1_digest_286 : decode cX1_digest 286 = .ok (.if_icmp .ge 26, 3) := by decide +kernel
theorem dX1_digest_289 : decode cX1_digest 289 = .ok (.aload 6, 2) := by decide +kernel
theorem dX1_digest_291 : decode cX1_digest 291 = .ok (.iload 8, 2) := by decide +kernel
theorem dX1_digest_293 : decode cX1_digest 293 = .ok (.iaload, 1) := by decide +kernel
theorem dX1_digest_294 : decode cX1_digest 294 = .ok (.istore 9, 2) := by decide +kernel
theorem dX1_digest_296 : decode cX1_digest 296 = .ok (.lload_n 2, 1) := by decide +kernel
theorem dX1_digest_297 : decode cX1_digest 297 = .ok (.ldc2_w 167, 3) := by decide +kernel
theorem dX1_digest_300 : decode cX1_digest 300 = .ok (.lmul, 1) := by decide +kernel
theorem dX1_digest_301 : decode cX1_digest 301 = .ok (.iload 9, 2) := by decide +kernel
theorem dX1_digest_303 : decode cX1_digest 303 = .ok (.i2l, 1) := by decide +kernel
theorem dX1_digest_304 : decode cX1_digest 304 = .ok (.ladd, 1) := by decide +kernel
theorem dX1_digest_305 : decode cX1_digest 305 = .ok (.lstore_n 2, 1) := by decide +kernel
theorem dX1_digest_306 : decode cX1_digest 306 = .ok (.iinc 8 1, 3) := by decide +kernel
theorem dX1_digest_309 : decode cX1_digest 309 = .ok (.goto (-27), 3) := by decide +kernel
theorem dX1_digest_312 : decode cX1_digest 312 = .ok (.iinc 4 1, 3) := by decide +kernel
theorem dX1_digest_315 : decode cX1_digest 315 = .ok (.goto (-147), 3) := by decide +kernel
theorem dX1_digest_318 : decode cX1_digest 318 = .ok (.iconst 0, 1) := by decide +kernel
theorem dX1_digest_319 : decode cX1_digest 319 = .ok (.istore 4, 2) := by decide +kernel
theorem dX1_digest_321 : decode cX1_digest 321 = .ok (.iload 4, 2) := by decide +kernel
theorem dX1_digest_323 : decode cX1_digest 323 = .ok (.aload_n 0, 1) := by decide +kernel
theorem dX1_digest_324 : decode cX1_digest 324 = .ok (.getfield 49, 3) := by decide +kernel
theorem dX1_digest_327 : decode cX1_digest 327 = .ok (.if_icmp .ge 47, 3) := by decide +kernel
theorem dX1_digest_330 : decode cX1_digest 330 = .ok (.lload_n 2, 1) := by decide +kernel
theorem dX1_digest_331 : decode cX1_digest 331 = .ok (.ldc2_w 167, 3) := by decide +kernel
theorem dX1_digest_334 : decode cX1_digest 334 = .ok (.lmul, 1) := by decide +kernel
theorem dX1_digest_335 : decode cX1_digest 335 = .ok (.aload_n 0, 1) := by decide +kernel
theorem dX1_digest_336 : decode cX1_digest 336 = .ok (.getfield 26, 3) := by decide +kernel
theorem dX1_digest_339 : decode cX1_digest 339 = .ok (.iload 4, 2) := by decide +kernel
theorem dX1_digest_341 : decode cX1_digest 341 = .ok (.iaload, 1) := by decide +kernel
theorem dX1_digest_342 : decode cX1_digest 342 = .ok (.i2l, 1) := by decide +kernel
theorem dX1_digest_343 : decode cX1_digest 343 = .ok (.ladd, 1) := by decide +kernel
theorem dX1_digest_344 : decode cX1_digest 344 = .ok (.lstore_n 2, 1) := by decide +kernel
theorem dX1_digest_345 : decode cX1_digest 345 = .ok (.lload_n 2, 1) := by decide +kernel
theorem dX1_digest_346 : decode cX1_digest 346 = .ok (.ldc2_w 167, 3) := by decide +kernel
theorem dX1_digest_349 : decode cX1_digest 349 = .ok (.lmul, 1) := by decide +kernel
theorem dX1_digest_350 : decode cX1_digest 350 = .ok (.aload_n 0, 1) := by decide +kernel
theorem dX1_digest_351 : decode cX1_digest 351 = .ok (.getfield 29, 3) := by decide +kernel
theorem dX1_digest_354 : decode cX1_digest 354 = .ok (.iload 4, 2) := by decide +kernel
theorem dX1_digest_356 : decode cX1_digest 356 = .ok (.baload, 1) := by decide +kernel
theorem dX1_digest_357 : decode cX1_digest 357 = .ok (.ifCond .eq 7, 3) := by decide +kernel
theorem dX1_digest_360 : decode cX1_digest 360 = .ok (.iconst 0, 1) := by decide +kernel
theorem dX1_digest_361 : decode cX1_digest 361 = .ok (.goto 4, 3) := by decide +kernel
theorem dX1_digest_364 : decode cX1_digest 364 = .ok (.iconst 1, 1) := by decide +kernel
theorem dX1_digest_365 : decode cX1_digest 365 = .ok (.i2l, 1) := by decide +kernel
theorem dX1_digest_366 : decode cX1_digest 366 = .ok (.ladd, 1) := by decide +kernel
theorem dX1_digest_367 : decode cX1_digest 367 = .ok (.lstore_n 2, 1) := by decide +kernel
theorem dX1_digest_368 : decode cX1_digest 368 = .ok (.iinc 4 1, 3) := by decide +kernel
theorem dX1_digest_371 : decode cX1_digest 371 = .ok (.goto (-50), 3) := by decide +kernel
theorem dX1_digest_374 : decode cX1_digest 374 = .ok (.lload_n 2, 1) := by decide +kernel
theorem dX1_digest_375 : decode cX1_digest 375 = .ok (.ldc2_w 167, 3) := by decide +kernel
theorem dX1_digest_378 : decode cX1_digest 378 = .ok (.lmul, 1) := by decide +kernel
theorem dX1_digest_379 : decode cX1_digest 379 = .ok (.aload_n 0, 1) := by decide +kernel
theorem dX1_digest_380 : decode cX1_digest 380 = .ok (.getfield 52, 3) := by decide +kernel
theorem dX1_digest_383 : decode cX1_digest 383 = .ok (.ifCond .ne 7, 3) := by decide +kernel
theorem dX1_digest_386 : decode cX1_digest 386 = .ok (.iconst 0, 1) := by decide +kernel
theorem dX1_digest_387 : decode cX1_digest 387 = .ok (.goto 14, 3) := by decide +kernel
theorem dX1_digest_390 : decode cX1_digest 390 = .ok (.aload_n 0, 1) := by decide +kernel
theorem dX1_digest_391 : decode cX1_digest 391 = .ok (.getfield 35, 3) := by decide +kernel
theorem dX1_digest_394 : decode cX1_digest 394 = .ok (.aload_n 0, 1) := by decide +kernel
theorem dX1_digest_395 : decode cX1_digest 395 = .ok (.getfield 52, 3) := by decide +kernel
theorem dX1_digest_398 : decode cX1_digest 398 = .ok (.iconst 1, 1) := by decide +kernel
theorem dX1_digest_399 : decode cX1_digest 399 = .ok (.isub, 1) := by decide +kernel
theorem dX1_digest_400 : decode cX1_digest 400 = .ok (.iaload, 1) := by decide +kernel
theorem dX1_digest_401 : decode cX1_digest 401 = .ok (.i2l, 1) := by decide +kernel
theorem dX1_digest_402 : decode cX1_digest 402 = .ok (.ladd, 1) := by decide +kernel
theorem dX1_digest_403 : decode cX1_digest 403 = .ok (.lstore_n 2, 1) := by decide +kernel
theorem dX1_digest_404 : decode cX1_digest 404 = .ok (.lload_n 2, 1) := by decide +kernel
theorem dX1_digest_405 : decode cX1_digest 405 = .ok (.ldc2_w 167, 3) := by decide +kernel
theorem dX1_digest_408 : decode cX1_digest 408 = .ok (.lmul, 1) := by decide +kernel
theorem dX1_digest_409 : decode cX1_digest 409 = .ok (.aload_n 0, 1) := by decide +kernel
theorem dX1_digest_410 : decode cX1_digest 410 = .ok (.getfield 52, 3) := by decide +kernel
theorem dX1_digest_413 : decode cX1_digest 413 = .ok (.ifCond .ne 7, 3) := by decide +kernel
theorem dX1_digest_416 : decode cX1_digest 416 = .ok (.iconst 0, 1) := by decide +kernel
theorem dX1_digest_417 : decode cX1_digest 417 = .ok (.goto 13, 3) := by decide +kernel
theorem dX1_digest_420 : decode cX1_digest 420 = .ok (.aload_n 0, 1) := by decide +kernel
theorem dX1_digest_421 : decode cX1_digest 421 = .ok (.aload_n 0, 1) := by decide +kernel
theorem dX1_digest_422 : decode cX1_digest 422 = .ok (.getfield 52, 3) := by decide +kernel
theorem dX1_digest_425 : decode cX1_digest 425 = .ok (.iconst 1, 1) := by decide +kernel
theorem dX1_digest_426 : decode cX1_digest 426 = .ok (.isub, 1) := by decide +kernel
theorem dX1_digest_427 : decode cX1_digest 427 = .ok (.invokevirtual 150, 3) := by decide +kernel
theorem dX1_digest_430 : decode cX1_digest 430 = .ok (.i2l, 1) := by decide +kernel
theorem dX1_digest_431 : decode cX1_digest 431 = .ok (.ladd, 1) := by decide +kernel
theorem dX1_digest_432 : decode cX1_digest 432 = .ok (.lstore_n 2, 1) := by decide +kernel
theorem dX1_digest_433 : decode cX1_digest 433 = .ok (.lload_n 2, 1) := by decide +kernel
theorem dX1_digest_434 : decode cX1_digest 434 = .ok (.lreturn, 1) := by decide +kernel

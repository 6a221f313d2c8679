/-! decode rows: the class -/
theorem dX0_init_0 : decode cX0_init 0 = .ok (.aload_n 0, 1) := by decide +kernel
theorem dX0_init_1 : decode cX0_init 1 = .ok (.invokespecial 1, 3) := by decide +kernel
theorem dX0_init_4 : decode cX0_init 4 = .ok (.aload_n 0, 1) := by decide +kernel
theorem dX0_init_5 : decode cX0_init 5 = .ok (.bipush 10, 2) := by decide +kernel
theorem dX0_init_7 : decode cX0_init 7 = .ok (.newarray .boolean, 2) := by decide +kernel
theorem dX0_init_9 : decode cX0_init 9 = .ok (.putfield 9, 3) := by decide +kernel
theorem dX0_init_12 : decode cX0_init 12 = .ok (.aload_n 0, 1) := by decide +kernel
theorem dX0_init_13 : decode cX0_init 13 = .ok (.bipush 10, 2) := by decide +kernel
theorem dX0_init_15 : decode cX0_init 15 = .ok (.newarray .int, 2) := by decide +kernel
theorem dX0_init_17 : decode cX0_init 17 = .ok (.putfield 13, 3) := by decide +kernel
theorem dX0_init_20 : decode cX0_init 20 = .ok (.aload_n 0, 1) := by decide +kernel
theorem dX0_init_21 : decode cX0_init 21 = .ok (.bipush 10, 2) := by decide +kernel
theorem dX0_init_23 : decode cX0_init 23 = .ok (.newarray .int, 2) := by decide +kernel
theorem dX0_init_25 : decode cX0_init 25 = .ok (.putfield 17, 3) := by decide +kernel
theorem dX0_init_28 : decode cX0_init 28 = .ok (.aload_n 0, 1) := by decide +kernel
theorem dX0_init_29 : decode cX0_init 29 = .ok (.bipush 10, 2) := by decide +kernel
theorem dX0_init_31 : decode cX0_init 31 = .ok (.newarray .int, 2) := by decide +kernel
theorem dX0_init_33 : decode cX0_init 33 = .ok (.putfield 20, 3) := by decide +kernel
theorem dX0_init_36 : decode cX0_init 36 = .ok (.aload_n 0, 1) := by decide +kernel
theorem dX0_init_37 : decode cX0_init 37 = .ok (.bipush 10, 2) := by decide +kernel
theorem dX0_init_39 : decode cX0_init 39 = .ok (.newarray .int, 2) := by decide +kernel
theorem dX0_init_41 : decode cX0_init 41 = .ok (.putfield 23, 3) := by decide +kernel
theorem dX0_init_44 : decode cX0_init 44 = .ok (.aload_n 0, 1) := by decide +kernel
theorem dX0_init_45 : decode cX0_init 45 = .ok (.bipush 6, 2) := by decide +kernel
theorem dX0_init_47 : decode cX0_init 47 = .ok (.newarray .int, 2) := by decide +kernel
theorem dX0_init_49 : decode cX0_init 49 = .ok (.putfield 26, 3) := by decide +kernel
theorem dX0_init_52 : decode cX0_init 52 = .ok (.aload_n 0, 1) := by decide +kernel
theorem dX0_init_53 : decode cX0_init 53 = .ok (.bipush 6, 2) := by decide +kernel
theorem dX0_init_55 : decode cX0_init 55 = .ok (.newarray .boolean, 2) := by decide +kernel
theorem dX0_init_57 : decode cX0_init 57 = .ok (.putfield 29, 3) := by decide +kernel
theorem dX0_init_60 : decode cX0_init 60 = .ok (.aload_n 0, 1) := by decide +kernel
theorem dX0_init_61 : decode cX0_init 61 = .ok (.bipush 6, 2) := by decide +kernel
theorem dX0_init_63 : decode cX0_init 63 = .ok (.newarray .int, 2) := by decide +kernel
theorem dX0_init_65 : decode cX0_init 65 = .ok (.putfield 32, 3) := by decide +kernel
theorem dX0_init_68 : decode cX0_init 68 = .ok (.aload_n 0, 1) := by decide +kernel
theorem dX0_init_69 : decode cX0_init 69 = .ok (.bipush 60, 2) := by decide +kernel
theorem dX0_init_71 : decode cX0_init 71 = .ok (.newarray .int, 2) := by decide +kernel
theorem dX0_init_73 : decode cX0_init 73 = .ok (.putfield 35, 3) := by decide +kernel
theorem dX0_init_76 : decode cX0_init 76 = .ok (.aload_n 0, 1) := by decide +kernel
theorem dX0_init_77 : decode cX0_init 77 = .ok (.bipush 60, 2) := by decide +kernel
theorem dX0_init_79 : decode cX0_init 79 = .ok (.newarray .int, 2) := by decide +kernel
theorem dX0_init_81 : decode cX0_init 81 = .ok (.putfield 38, 3) := by decide +kernel
theorem dX0_init_84 : decode cX0_init 84 = .ok (.return_, 1) := by decide +kernel
theorem dX0_addPerson_0 : decode cX0_addPerson 0 = .ok (.iload_n 1, 1) := by decide +kernel
theorem dX0_addPerson_1 : decode cX0_addPerson 1 = .ok (.ifCond .lt 9, 3) := by decide +kernel
theorem dX0_addPerson_4 : decode cX0_addPerson 4 = .ok (.iload_n 1, 1) := by decide +kernel
theorem dX0_addPerson_5 : decode cX0_addPerson 5 = .ok (.bipush 99, 2) := by decide +kernel
theorem dX0_addPerson_7 : decode cX0_addPerson 7 = .ok (.if_icmp .le 13, 3) := by decide +kernel
theorem dX0_addPerson_10 : decode cX0_addPerson 10 = .ok (.new 41, 3) := by decide +kernel
theorem dX0_addPerson_13 : decode cX0_addPerson 13 = .ok (.dup, 1) := by decide +kernel
theorem dX0_addPerson_14 : decode cX0_addPerson 14 = .ok (.ldc 43, 2) := by decide +kernel
theorem dX0_addPerson_16 : decode cX0_addPerson 16 = .ok (.invokespecial 45, 3) := by decide +kernel
theorem dX0_addPerson_19 : decode cX0_addPerson 19 = .ok (.athrow, 1) := by decide +kernel
theorem dX0_addPerson_20 : decode cX0_addPerson 20 = .ok (.aload_n 0, 1) := by decide +kernel
theorem dX0_addPerson_21 : decode cX0_addPerson 21 = .ok (.getfield 48, 3) := by decide +kernel
theorem dX0_addPerson_24 : decode cX0_addPerson 24 = .ok (.bipush 10, 2) := by decide +kernel
theorem dX0_addPerson_26 : decode cX0_addPerson 26 = .ok (.if_icmp .lt 13, 3) := by decide +kernel
theorem dX0_addPerson_29 : decode cX0_addPerson 29 = .ok (.new 52, 3) := by decide +kernel
theorem dX0_addPerson_32 : decode cX0_addPerson 32 = .ok (.dup, 1) := by decide +kernel
theorem dX0_addPerson_33 : decode cX0_addPerson 33 = .ok (.ldc 54, 2) := by decide +kernel
theorem dX0_addPerson_35 : decode cX0_addPerson 35 = .ok (.invokespecial 56, 3) := by decide +kernel
theorem dX0_addPerson_38 : decode cX0_addPerson 38 = .ok (.athrow, 1) := by decide +kernel
theorem dX0_addPerson_39 : decode cX0_addPerson 39 = .ok (.aload_n 0, 1) := by decide +kernel
theorem dX0_addPerson_40 : decode cX0_addPerson 40 = .ok (.getfield 48, 3) := by decide +kernel
theorem dX0_addPerson_43 : decode cX0_addPerson 43 = .ok (.istore_n 2, 1) := by decide +kernel
theorem dX0_addPerson_44 : decode cX0_addPerson 44 = .ok (.aload_n 0, 1) := by decide +kernel
theorem dX0_addPerson_45 : decode cX0_addPerson 45 = .ok (.getfield 9, 3) := by decide +kernel
theorem dX0_addPerson_48 : decode cX0_addPerson 48 = .ok (.iload_n 2, 1) := by decide +kernel
theorem dX0_addPerson_49 : decode cX0_addPerson 49 = .ok (.iconst 1, 1) := by decide +kernel
theorem dX0_addPerson_50 : decode cX0_addPerson 50 = .ok (.bastore, 1) := by decide +kernel
theorem dX0_addPerson_51 : decode cX0_addPerson 51 = .ok (.aload_n 0, 1) := by decide +kernel
theorem dX0_addPerson_52 : decode cX0_addPerson 52 = .ok (.getfield 13, 3) := by decide +kernel
theorem dX0_addPerson_55 : decode cX0_addPerson 55 = .ok (.iload_n 2, 1) := by decide +kernel
theorem dX0_addPerson_56 : decode cX0_addPerson 56 = .ok (.iload_n 1, 1) := by decide +kernel
theorem dX0_addPerson_57 : decode cX0_addPerson 57 = .ok (.iastore, 1) := by decide +kernel
theorem dX0_addPerson_58 : decode cX0_addPerson 58 = .ok (.aload_n 0, 1) := by decide +kernel
theorem dX0_addPerson_59 : decode cX0_addPerson 59 = .ok (.getfield 17, 3) := by decide +kernel
theorem dX0_addPerson_62 : decode cX0_addPerson 62 = .ok (.iload_n 2, 1) := by decide +kernel
theorem dX0_addPerson_63 : decode cX0_addPerson 63 = .ok (.bipush 100, 2) := by decide +kernel
theorem dX0_addPerson_65 : decode cX0_addPerson 65 = .ok (.iastore, 1) := by decide +kernel
theorem dX0_addPerson_66 : decode cX0_addPerson 66 = .ok (.aload_n 0, 1) := by decide +kernel
theorem dX0_addPerson_67 : decode cX0_addPerson 67 = .ok (.getfield 20, 3) := by decide +kernel
theorem dX0_addPerson_70 : decode cX0_addPerson 70 = .ok (.iload_n 2, 1) := by decide +kernel
theorem dX0_addPerson_71 : decode cX0_addPerson 71 = .ok (.iconst 0, 1) := by decide +kernel
theorem dX0_addPerson_72 : decode cX0_addPerson 72 = .ok (.iastore, 1) := by decide +kernel
theorem dX0_addPerson_73 : decode cX0_addPerson 73 = .ok (.aload_n 0, 1) := by decide +kernel
theorem dX0_addPerson_74 : decode cX0_addPerson 74 = .ok (.getfield 23, 3) := by decide +kernel
theorem dX0_addPerson_77 : decode cX0_addPerson 77 = .ok (.iload_n 2, 1) := by decide +kernel
theorem dX0_addPerson_78 : decode cX0_addPerson 78 = .ok (.iconst (-1), 1) := by decide +kernel
theorem dX0_addPerson_79 : decode cX0_addPerson 79 = .ok (.iastore, 1) := by decide +kernel
theorem dX0_addPerson_80 : decode cX0_addPerson 80 = .ok (.aload_n 0, 1) := by decide +kernel
theorem dX0_addPerson_81 : decode cX0_addPerson 81 = .ok (.dup, 1) := by decide +kernel
theorem dX0_addPerson_82 : decode cX0_addPerson 82 = .ok (.getfield 48, 3) := by decide +kernel
theorem dX0_addPerson_85 : decode cX0_addPerson 85 = .ok (.iconst 1, 1) := by decide +kernel
theorem dX0_addPerson_86 : decode cX0_addPerson 86 = .ok (.iadd, 1) := by decide +kernel
theorem dX0_addPerson_87 : decode cX0_addPerson 87 = .ok (.putfield 48, 3) := by decide +kernel
theorem dX0_addPerson_90 : decode cX0_addPerson 90 = .ok (.iload_n 2, 1) := by decide +kernel
theorem dX0_addPerson_91 : decode cX0_addPerson 91 = .ok (.ireturn, 1) := by decide +kernel
theorem dX0_addWitness_0 : decode cX0_addWitness 0 = .ok (.iload_n 1, 1) := by decide +kernel
theorem dX0_addWitness_1 : decode cX0_addWitness 1 = .ok (.ifCond .lt 9, 3) := by decide +kernel
theorem dX0_addWitness_4 : decode cX0_addWitness 4 = .ok (.iload_n 1, 1) := by decide +kernel
theorem dX0_addWitness_5 : decode cX0_addWitness 5 = .ok (.bipush 9, 2) := by decide +kernel
theorem dX0_addWitness_7 : decode cX0_addWitness 7 = .ok (.if_icmp .le 13, 3) := by decide +kernel
theorem dX0_addWitness_10 : decode cX0_addWitness 10 = .ok (.new 41, 3) := by decide +kernel
theorem dX0_addWitness_13 : decode cX0_addWitness 13 = .ok (.dup, 1) := by decide +kernel
theorem dX0_addWitness_14 : decode cX0_addWitness 14 = .ok (.ldc 57, 2) := by decide +kernel
theorem dX0_addWitness_16 : decode cX0_addWitness 16 = .ok (.invokespecial 45, 3) := by decide +kernel
theorem dX0_addWitness_19 : decode cX0_addWitness 19 = .ok (.athrow, 1) := by decide +kernel
theorem dX0_addWitness_20 : decode cX0_addWitness 20 = .ok (.aload_n 0, 1) := by decide +kernel
theorem dX0_addWitness_21 : decode cX0_addWitness 21 = .ok (.getfield 59, 3) := by decide +kernel
theorem dX0_addWitness_24 : decode cX0_addWitness 24 = .ok (.bipush 6, 2) := by decide +kernel
theorem dX0_addWitness_26 : decode cX0_addWitness 26 = .ok (.if_icmp .lt 13, 3) := by decide +kernel
theorem dX0_addWitness_29 : decode cX0_addWitness 29 = .ok (.new 52, 3) := by decide +kernel
theorem dX0_addWitness_32 : decode cX0_addWitness 32 = .ok (.dup, 1) := by decide +kernel
theorem dX0_addWitness_33 : decode cX0_addWitness 33 = .ok (.ldc 62, 2) := by decide +kernel
theorem dX0_addWitness_35 : decode cX0_addWitness 35 = .ok (.invokespecial 56, 3) := by decide +kernel
theorem dX0_addWitness_38 : decode cX0_addWitness 38 = .ok (.athrow, 1) := by decide +kernel
theorem dX0_addWitness_39 : decode cX0_addWitness 39 = .ok (.aload_n 0, 1) := by decide +kernel
theorem dX0_addWitness_40 : decode cX0_addWitness 40 = .ok (.getfield 59, 3) := by decide +kernel
theorem dX0_addWitness_43 : decode cX0_addWitness 43 = .ok (.istore_n 2, 1) := by decide +kernel
theorem dX0_addWitness_44 : decode cX0_addWitness 44 = .ok (.aload_n 0, 1) := by decide +kernel
theorem dX0_addWitness_45 : decode cX0_addWitness 45 = .ok (.getfield 26, 3) := by decide +kernel
theorem dX0_addWitness_48 : decode cX0_addWitness 48 = .ok (.iload_n 2, 1) := by decide +kernel
theorem dX0_addWitness_49 : decode cX0_addWitness 49 = .ok (.iload_n 1, 1) := by decide +kernel
theorem dX0_addWitness_50 : decode cX0_addWitness 50 = .ok (.iastore, 1) := by decide +kernel
theorem dX0_addWitness_51 : decode cX0_addWitness 51 = .ok (.aload_n 0, 1) := by decide +kernel
theorem dX0_addWitness_52 : decode cX0_addWitness 52 = .ok (.getfield 29, 3) := by decide +kernel
theorem dX0_addWitness_55 : decode cX0_addWitness 55 = .ok (.iload_n 2, 1) := by decide +kernel
theorem dX0_addWitness_56 : decode cX0_addWitness 56 = .ok (.iconst 1, 1) := by decide +kernel
theorem dX0_addWitness_57 : decode cX0_addWitness 57 = .ok (.bastore, 1) := by decide +kernel
theorem dX0_addWitness_58 : decode cX0_addWitness 58 = .ok (.aload_n 0, 1) := by decide +kernel
theorem dX0_addWitness_59 : decode cX0_addWitness 59 = .ok (.dup, 1) := by decide +kernel
theorem dX0_addWitness_60 : decode cX0_addWitness 60 = .ok (.getfield 59, 3) := by decide +kernel
theorem dX0_addWitness_63 : decode cX0_addWitness 63 = .ok (.iconst 1, 1) := by decide +kernel
theorem dX0_addWitness_64 : decode cX0_addWitness 64 = .ok (.iadd, 1) := by decide +kernel
theorem dX0_addWitness_65 : decode cX0_addWitness 65 = .ok (.putfield 59, 3) := by decide +kernel
theorem dX0_addWitness_68 : decode cX0_addWitness 68 = .ok (.iload_n 2, 1) := by decide +kernel
theorem dX0_addWitness_69 : decode cX0_addWitness 69 = .ok (.ireturn, 1) := by decide +kernel
theorem dX0_setHeir_0 : decode cX0_setHeir 0 = .ok (.aload_n 0, 1) := by decide +kernel
theorem dX0_setHeir_1 : decode cX0_setHeir 1 = .ok (.iload_n 1, 1) := by decide +kernel
theorem dX0_setHeir_2 : decode cX0_setHeir 2 = .ok (.invokevirtual 64, 3) := by decide +kernel
theorem dX0_setHeir_5 : decode cX0_setHeir 5 = .ok (.iload_n 2, 1) := by decide +kernel
theorem dX0_setHeir_6 : decode cX0_setHeir 6 = .ok (.iconst (-1), 1) := by decide +kernel
theorem dX0_setHeir_7 : decode cX0_setHeir 7 = .ok (.if_icmp .eq 8, 3) := by decide +kernel
theorem dX0_setHeir_10 : decode cX0_setHeir 10 = .ok (.aload_n 0, 1) := by decide +kernel
theorem dX0_setHeir_11 : decode cX0_setHeir 11 = .ok (.iload_n 2, 1) := by decide +kernel
theorem dX0_setHeir_12 : decode cX0_setHeir 12 = .ok (.invokevirtual 64, 3) := by decide +kernel
theorem dX0_setHeir_15 : decode cX0_setHeir 15 = .ok (.iload_n 1, 1) := by decide +kernel
theorem dX0_setHeir_16 : decode cX0_setHeir 16 = .ok (.iload_n 2, 1) := by decide +kernel
theorem dX0_setHeir_17 : decode cX0_setHeir 17 = .ok (.if_icmp .ne 13, 3) := by decide +kernel
theorem dX0_setHeir_20 : decode cX0_setHeir 20 = .ok (.new 41, 3) := by decide +kernel
theorem dX0_setHeir_23 : decode cX0_setHeir 23 = .ok (.dup, 1) := by decide +kernel
theorem dX0_setHeir_24 : decode cX0_setHeir 24 = .ok (.ldc 68, 2) := by decide +kernel
theorem dX0_setHeir_26 : decode cX0_setHeir 26 = .ok (.invokespecial 45, 3) := by decide +kernel
theorem dX0_setHeir_29 : decode cX0_setHeir 29 = .ok (.athrow, 1) := by decide +kernel
theorem dX0_setHeir_30 : decode cX0_setHeir 30 = .ok (.aload_n 0, 1) := by decide +kernel
theorem dX0_setHeir_31 : decode cX0_setHeir 31 = .ok (.iload_n 1, 1) := by decide +kernel
theorem dX0_setHeir_32 : decode cX0_setHeir 32 = .ok (.invokevirtual 70, 3) := by decide +kernel
theorem dX0_setHeir_35 : decode cX0_setHeir 35 = .ok (.aload_n 0, 1) := by decide +kernel
theorem dX0_setHeir_36 : decode cX0_setHeir 36 = .ok (.getfield 23, 3) := by decide +kernel
theorem dX0_setHeir_39 : decode cX0_setHeir 39 = .ok (.iload_n 1, 1) := by decide +kernel
theorem dX0_setHeir_40 : decode cX0_setHeir 40 = .ok (.iaload, 1) := by decide +kernel
theorem dX0_setHeir_41 : decode cX0_setHeir 41 = .ok (.istore_n 3, 1) := by decide +kernel
theorem dX0_setHeir_42 : decode cX0_setHeir 42 = .ok (.aload_n 0, 1) := by decide +kernel
theorem dX0_setHeir_43 : decode cX0_setHeir 43 = .ok (.getfield 23, 3) := by decide +kernel
theorem dX0_setHeir_46 : decode cX0_setHeir 46 = .ok (.iload_n 1, 1) := by decide +kernel
theorem dX0_setHeir_47 : decode cX0_setHeir 47 = .ok (.iload_n 2, 1) := by decide +kernel
theorem dX0_setHeir_48 : decode cX0_setHeir 48 = .ok (.iastore, 1) := by decide +kernel
theorem dX0_setHeir_49 : decode cX0_setHeir 49 = .ok (.iload_n 3, 1) := by decide +kernel
theorem dX0_setHeir_50 : decode cX0_setHeir 50 = .ok (.ireturn, 1) := by decide +kernel
theorem dX0_buyFate_0 : decode cX0_buyFate 0 = .ok (.aload_n 0, 1) := by decide +kernel
theorem dX0_buyFate_1 : decode cX0_buyFate 1 = .ok (.iload_n 1, 1) := by decide +kernel
theorem dX0_buyFate_2 : decode cX0_buyFate 2 = .ok (.invokevirtual 64, 3) := by decide +kernel
theorem dX0_buyFate_5 : decode cX0_buyFate 5 = .ok (.aload_n 0, 1) := by decide +kernel
theorem dX0_buyFate_6 : decode cX0_buyFate 6 = .ok (.iload_n 1, 1) := by decide +kernel
theorem dX0_buyFate_7 : decode cX0_buyFate 7 = .ok (.invokevirtual 70, 3) := by decide +kernel
theorem dX0_buyFate_10 : decode cX0_buyFate 10 = .ok (.aload_n 0, 1) := by decide +kernel
theorem dX0_buyFate_11 : decode cX0_buyFate 11 = .ok (.getfield 20, 3) := by decide +kernel
theorem dX0_buyFate_14 : decode cX0_buyFate 14 = .ok (.iload_n 1, 1) := by decide +kernel
theorem dX0_buyFate_15 : decode cX0_buyFate 15 = .ok (.iaload, 1) := by decide +kernel
theorem dX0_buyFate_16 : decode cX0_buyFate 16 = .ok (.bipush 9, 2) := by decide +kernel
theorem dX0_buyFate_18 : decode cX0_buyFate 18 = .ok (.if_icmp .lt 13, 3) := by decide +kernel
theorem dX0_buyFate_21 : decode cX0_buyFate 21 = .ok (.new 52, 3) := by decide +kernel
theorem dX0_buyFate_24 : decode cX0_buyFate 24 = .ok (.dup, 1) := by decide +kernel
theorem dX0_buyFate_25 : decode cX0_buyFate 25 = .ok (.ldc 73, 2) := by decide +kernel
theorem dX0_buyFate_27 : decode cX0_buyFate 27 = .ok (.invokespecial 56, 3) := by decide +kernel
theorem dX0_buyFate_30 : decode cX0_buyFate 30 = .ok (.athrow, 1) := by decide +kernel
theorem dX0_buyFate_31 : decode cX0_buyFate 31 = .ok (.aload_n 0, 1) := by decide +kernel
theorem dX0_buyFate_32 : decode cX0_buyFate 32 = .ok (.iload_n 1, 1) := by decide +kernel
theorem dX0_buyFate_33 : decode cX0_buyFate 33 = .ok (.invokevirtual 75, 3) := by decide +kernel
theorem dX0_buyFate_36 : decode cX0_buyFate 36 = .ok (.istore_n 2, 1) := by decide +kernel
theorem dX0_buyFate_37 : decode cX0_buyFate 37 = .ok (.aload_n 0, 1) := by decide +kernel
theorem dX0_buyFate_38 : decode cX0_buyFate 38 = .ok (.getfield 17, 3) := by decide +kernel
theorem dX0_buyFate_41 : decode cX0_buyFate 41 = .ok (.iload_n 1, 1) := by decide +kernel
theorem dX0_buyFate_42 : decode cX0_buyFate 42 = .ok (.iaload, 1) := by decide +kernel
theorem dX0_buyFate_43 : decode cX0_buyFate 43 = .ok (.iload_n 2, 1) := by decide +kernel
theorem dX0_buyFate_44 : decode cX0_buyFate 44 = .ok (.if_icmp .ge 13, 3) := by decide +kernel
theorem dX0_buyFate_47 : decode cX0_buyFate 47 = .ok (.new 52, 3) := by decide +kernel
theorem dX0_buyFate_50 : decode cX0_buyFate 50 = .ok (.dup, 1) := by decide +kernel
theorem dX0_buyFate_51 : decode cX0_buyFate 51 = .ok (.ldc 79, 2) := by decide +kernel
theorem dX0_buyFate_53 : decode cX0_buyFate 53 = .ok (.invokespecial 56, 3) := by decide +kernel
theorem dX0_buyFate_56 : decode cX0_buyFate 56 = .ok (.athrow, 1) := by decide +kernel
theorem dX0_buyFate_57 : decode cX0_buyFate 57 = .ok (.aload_n 0, 1) := by decide +kernel
theorem dX0_buyFate_58 : decode cX0_buyFate 58 = .ok (.getfield 17, 3) := by decide +kernel
theorem dX0_buyFate_61 : decode cX0_buyFate 61 = .ok (.iload_n 1, 1) := by decide +kernel
theorem dX0_buyFate_62 : decode cX0_buyFate 62 = .ok (.dup2, 1) := by decide +kernel
theorem dX0_buyFate_63 : decode cX0_buyFate 63 = .ok (.iaload, 1) := by decide +kernel
theorem dX0_buyFate_64 : decode cX0_buyFate 64 = .ok (.iload_n 2, 1) := by decide +kernel
theorem dX0_buyFate_65 : decode cX0_buyFate 65 = .ok (.isub, 1) := by decide +kernel
theorem dX0_buyFate_66 : decode cX0_buyFate 66 = .ok (.iastore, 1) := by decide +kernel
theorem dX0_buyFate_67 : decode cX0_buyFate 67 = .ok (.aload_n 0, 1) := by decide +kernel
theorem dX0_buyFate_68 : decode cX0_buyFate 68 = .ok (.dup, 1) := by decide +kernel
theorem dX0_buyFate_69 : decode cX0_buyFate 69 = .ok (.getfield 81, 3) := by decide +kernel
theorem dX0_buyFate_72 : decode cX0_buyFate 72 = .ok (.iload_n 2, 1) := by decide +kernel
theorem dX0_buyFate_73 : decode cX0_buyFate 73 = .ok (.iadd, 1) := by decide +kernel
theorem dX0_buyFate_74 : decode cX0_buyFate 74 = .ok (.putfield 81, 3) := by decide +kernel
theorem dX0_buyFate_77 : decode cX0_buyFate 77 = .ok (.aload_n 0, 1) := by decide +kernel
theorem dX0_buyFate_78 : decode cX0_buyFate 78 = .ok (.getfield 20, 3) := by decide +kernel
theorem dX0_buyFate_81 : decode cX0_buyFate 81 = .ok (.iload_n 1, 1) := by decide +kernel
theorem dX0_buyFate_82 : decode cX0_buyFate 82 = .ok (.dup2, 1) := by decide +kernel
theorem dX0_buyFate_83 : decode cX0_buyFate 83 = .ok (.iaload, 1) := by decide +kernel
theorem dX0_buyFate_84 : decode cX0_buyFate 84 = .ok (.iconst 1, 1) := by decide +kernel
theorem dX0_buyFate_85 : decode cX0_buyFate 85 = .ok (.iadd, 1) := by decide +kernel
theorem dX0_buyFate_86 : decode cX0_buyFate 86 = .ok (.iastore, 1) := by decide +kernel
theorem dX0_buyFate_87 : decode cX0_buyFate 87 = .ok (.iload_n 2, 1) := by decide +kernel
theorem dX0_buyFate_88 : decode cX0_buyFate 88 = .ok (.ireturn, 1) := by decide +kernel
theorem dX0_turnDuty_0 : decode cX0_turnDuty 0 = .ok (.aload_n 0, 1) := by decide +kernel
theorem dX0_turnDuty_1 : decode cX0_turnDuty 1 = .ok (.iload_n 1, 1) := by decide +kernel
theorem dX0_turnDuty_2 : decode cX0_turnDuty 2 = .ok (.invokevirtual 84, 3) := by decide +kernel
theorem dX0_turnDuty_5 : decode cX0_turnDuty 5 = .ok (.aload_n 0, 1) := by decide +kernel
theorem dX0_turnDuty_6 : decode cX0_turnDuty 6 = .ok (.getfield 29, 3) := by decide +kernel
theorem dX0_turnDuty_9 : decode cX0_turnDuty 9 = .ok (.iload_n 1, 1) := by decide +kernel
theorem dX0_turnDuty_10 : decode cX0_turnDuty 10 = .ok (.aload_n 0, 1) := by decide +kernel
theorem dX0_turnDuty_11 : decode cX0_turnDuty 11 = .ok (.getfield 29, 3) := by decide +kernel
theorem dX0_turnDuty_14 : decode cX0_turnDuty 14 = .ok (.iload_n 1, 1) := by decide +kernel
theorem dX0_turnDuty_15 : decode cX0_turnDuty 15 = .ok (.baload, 1) := by decide +kernel
theorem dX0_turnDuty_16 : decode cX0_turnDuty 16 = .ok (.ifCond .ne 7, 3) := by decide +kernel
theorem dX0_turnDuty_19 : decode cX0_turnDuty 19 = .ok (.iconst 1, 1) := by decide +kernel
theorem dX0_turnDuty_20 : decode cX0_turnDuty 20 = .ok (.goto 4, 3) := by decide +kernel
theorem dX0_turnDuty_23 : decode cX0_turnDuty 23 = .ok (.iconst 0, 1) := by decide +kernel
theorem dX0_turnDuty_24 : decode cX0_turnDuty 24 = .ok (.bastore, 1) := by decide +kernel
theorem dX0_turnDuty_25 : decode cX0_turnDuty 25 = .ok (.aload_n 0, 1) := by decide +kernel
theorem dX0_turnDuty_26 : decode cX0_turnDuty 26 = .ok (.getfield 29, 3) := by decide +kernel
theorem dX0_turnDuty_29 : decode cX0_turnDuty 29 = .ok (.iload_n 1, 1) := by decide +kernel
theorem dX0_turnDuty_30 : decode cX0_turnDuty 30 = .ok (.baload, 1) := by decide +kernel
theorem dX0_turnDuty_31 : decode cX0_turnDuty 31 = .ok (.ireturn, 1) := by decide +kernel
theorem dX0_miss_0 : decode cX0_miss 0 = .ok (.aload_n 0, 1) := by decide +kernel
theorem dX0_miss_1 : decode cX0_miss 1 = .ok (.iload_n 1, 1) := by decide +kernel
theorem dX0_miss_2 : decode cX0_miss 2 = .ok (.invokevirtual 64, 3) := by decide +kernel
theorem dX0_miss_5 : decode cX0_miss 5 = .ok (.aload_n 0, 1) := by decide +kernel
theorem dX0_miss_6 : decode cX0_miss 6 = .ok (.iload_n 2, 1) := by decide +kernel
theorem dX0_miss_7 : decode cX0_miss 7 = .ok (.invokevirtual 87, 3) := by decide +kernel
theorem dX0_miss_10 : decode cX0_miss 10 = .ok (.aload_n 0, 1) := by decide +kernel
theorem dX0_miss_11 : decode cX0_miss 11 = .ok (.iload_n 1, 1) := by decide +kernel
theorem dX0_miss_12 : decode cX0_miss 12 = .ok (.invokevirtual 70, 3) := by decide +kernel
theorem dX0_miss_15 : decode cX0_miss 15 = .ok (.aload_n 0, 1) := by decide +kernel
theorem dX0_miss_16 : decode cX0_miss 16 = .ok (.getfield 90, 3) := by decide +kernel
theorem dX0_miss_19 : decode cX0_miss 19 = .ok (.bipush 60, 2) := by decide +kernel
theorem dX0_miss_21 : decode cX0_miss 21 = .ok (.if_icmp .lt 13, 3) := by decide +kernel
theorem dX0_miss_24 : decode cX0_miss 24 = .ok (.new 52, 3) := by decide +kernel
theorem dX0_miss_27 : decode cX0_miss 27 = .ok (.dup, 1) := by decide +kernel
theorem dX0_miss_28 : decode cX0_miss 28 = .ok (.ldc 93, 2) := by decide +kernel
theorem dX0_miss_30 : decode cX0_miss 30 = .ok (.invokespecial 56, 3) := by decide +kernel
theorem dX0_miss_33 : decode cX0_miss 33 = .ok (.athrow, 1) := by decide +kernel
theorem dX0_miss_34 : decode cX0_miss 34 = .ok (.aload_n 0, 1) := by decide +kernel
theorem dX0_miss_35 : decode cX0_miss 35 = .ok (.iload_n 2, 1) := by decide +kernel
theorem dX0_miss_36 : decode cX0_miss 36 = .ok (.invokevirtual 95, 3) := by decide +kernel
theorem dX0_miss_39 : decode cX0_miss 39 = .ok (.istore_n 3, 1) := by decide +kernel
theorem dX0_miss_40 : decode cX0_miss 40 = .ok (.aload_n 0, 1) := by decide +kernel
theorem dX0_miss_41 : decode cX0_miss 41 = .ok (.iload_n 1, 1) := by decide +kernel
theorem dX0_miss_42 : decode cX0_miss 42 = .ok (.iload_n 3, 1) := by decide +kernel
theorem dX0_miss_43 : decode cX0_miss 43 = .ok (.invokevirtual 98, 3) := by decide +kernel
theorem dX0_miss_46 : decode cX0_miss 46 = .ok (.aload_n 0, 1) := by decide +kernel
theorem dX0_miss_47 : decode cX0_miss 47 = .ok (.getfield 13, 3) := by decide +kernel
theorem dX0_miss_50 : decode cX0_miss 50 = .ok (.iload_n 1, 1) := by decide +kernel
theorem dX0_miss_51 : decode cX0_miss 51 = .ok (.iconst 0, 1) := by decide +kernel
theorem dX0_miss_52 : decode cX0_miss 52 = .ok (.aload_n 0, 1) := by decide +kernel
theorem dX0_miss_53 : decode cX0_miss 53 = .ok (.getfield 13, 3) := by decide +kernel
theorem dX0_miss_56 : decode cX0_miss 56 = .ok (.iload_n 1, 1) := by decide +kernel
theorem dX0_miss_57 : decode cX0_miss 57 = .ok (.iaload, 1) := by decide +kernel
theorem dX0_miss_58 : decode cX0_miss 58 = .ok (.bipush 60, 2) := by decide +kernel
theorem dX0_miss_60 : decode cX0_miss 60 = .ok (.iload_n 2, 1) := by decide +kernel
theorem dX0_miss_61 : decode cX0_miss 61 = .ok (.isub, 1) := by decide +kernel
theorem dX0_miss_62 : decode cX0_miss 62 = .ok (.bipush 10, 2) := by decide +kernel
theorem dX0_miss_64 : decode cX0_miss 64 = .ok (.idiv, 1) := by decide +kernel
theorem dX0_miss_65 : decode cX0_miss 65 = .ok (.isub, 1) := by decide +kernel
theorem dX0_miss_66 : decode cX0_miss 66 = .ok (.invokestatic 102, 3) := by decide +kernel
theorem dX0_miss_69 : decode cX0_miss 69 = .ok (.iastore, 1) := by decide +kernel
theorem dX0_miss_70 : decode cX0_miss 70 = .ok (.aload_n 0, 1) := by decide +kernel
theorem dX0_miss_71 : decode cX0_miss 71 = .ok (.iload_n 2, 1) := by decide +kernel
theorem dX0_miss_72 : decode cX0_miss 72 = .ok (.invokestatic 108, 3) := by decide +kernel
theorem dX0_miss_75 : decode cX0_miss 75 = .ok (.invokevirtual 111, 3) := by decide +kernel
theorem dX0_miss_78 : decode cX0_miss 78 = .ok (.aload_n 0, 1) := by decide +kernel
theorem dX0_miss_79 : decode cX0_miss 79 = .ok (.getfield 35, 3) := by decide +kernel
theorem dX0_miss_82 : decode cX0_miss 82 = .ok (.aload_n 0, 1) := by decide +kernel
theorem dX0_miss_83 : decode cX0_miss 83 = .ok (.getfield 90, 3) := by decide +kernel
theorem dX0_miss_86 : decode cX0_miss 86 = .ok (.iload_n 1, 1) := by decide +kernel
theorem dX0_miss_87 : decode cX0_miss 87 = .ok (.iastore, 1) := by decide +kernel
theorem dX0_miss_88 : decode cX0_miss 88 = .ok (.aload_n 0, 1) := by decide +kernel
theorem dX0_miss_89 : decode cX0_miss 89 = .ok (.getfield 38, 3) := by decide +kernel
theorem dX0_miss_92 : decode cX0_miss 92 = .ok (.aload_n 0, 1) := by decide +kernel
theorem dX0_miss_93 : decode cX0_miss 93 = .ok (.getfield 90, 3) := by decide +kernel
theorem dX0_miss_96 : decode cX0_miss 96 = .ok (.iload_n 3, 1) := by decide +kernel
theorem dX0_miss_97 : decode cX0_miss 97 = .ok (.iastore, 1) := by decide +kernel
theorem dX0_miss_98 : decode cX0_miss 98 = .ok (.aload_n 0, 1) := by decide +kernel
theorem dX0_miss_99 : decode cX0_miss 99 = .ok (.dup, 1) := by decide +kernel
theorem dX0_miss_100 : decode cX0_miss 100 = .ok (.getfield 90, 3) := by decide +kernel
theorem dX0_miss_103 : decode cX0_miss 103 = .ok (.iconst 1, 1) := by decide +kernel
theorem dX0_miss_104 : decode cX0_miss 104 = .ok (.iadd, 1) := by decide +kernel
theorem dX0_miss_105 : decode cX0_miss 105 = .ok (.putfield 90, 3) := by decide +kernel
theorem dX0_miss_108 : decode cX0_miss 108 = .ok (.iload_n 3, 1) := by decide +kernel
theorem dX0_miss_109 : decode cX0_miss 109 = .ok (.ireturn, 1) := by decide +kernel
theorem dX0_hit_0 : decode cX0_hit 0 = .ok (.aload_n 0, 1) := by decide +kernel
theorem dX0_hit_1 : decode cX0_hit 1 = .ok (.iload_n 1, 1) := by decide +kernel
theorem dX0_hit_2 : decode cX0_hit 2 = .ok (.invokevirtual 64, 3) := by decide +kernel
theorem dX0_hit_5 : decode cX0_hit 5 = .ok (.aload_n 0, 1) := by decide +kernel
theorem dX0_hit_6 : decode cX0_hit 6 = .ok (.iload_n 1, 1) := by decide +kernel
theorem dX0_hit_7 : decode cX0_hit 7 = .ok (.invokevirtual 70, 3) := by decide +kernel
theorem dX0_hit_10 : decode cX0_hit 10 = .ok (.aload_n 0, 1) := by decide +kernel
theorem dX0_hit_11 : decode cX0_hit 11 = .ok (.getfield 9, 3) := by decide +kernel
theorem dX0_hit_14 : decode cX0_hit 14 = .ok (.iload_n 1, 1) := by decide +kernel
theorem dX0_hit_15 : decode cX0_hit 15 = .ok (.iconst 0, 1) := by decide +kernel
theorem dX0_hit_16 : decode cX0_hit 16 = .ok (.bastore, 1) := by decide +kernel
theorem dX0_hit_17 : decode cX0_hit 17 = .ok (.aload_n 0, 1) := by decide +kernel
theorem dX0_hit_18 : decode cX0_hit 18 = .ok (.iload_n 1, 1) := by decide +kernel
theorem dX0_hit_19 : decode cX0_hit 19 = .ok (.invokevirtual 114, 3) := by decide +kernel
theorem dX0_hit_22 : decode cX0_hit 22 = .ok (.istore_n 2, 1) := by decide +kernel
theorem dX0_hit_23 : decode cX0_hit 23 = .ok (.aload_n 0, 1) := by decide +kernel
theorem dX0_hit_24 : decode cX0_hit 24 = .ok (.iload_n 2, 1) := by decide +kernel
theorem dX0_hit_25 : decode cX0_hit 25 = .ok (.invokevirtual 117, 3) := by decide +kernel
theorem dX0_hit_28 : decode cX0_hit 28 = .ok (.ifCond .eq 47, 3) := by decide +kernel
theorem dX0_hit_31 : decode cX0_hit 31 = .ok (.aload_n 0, 1) := by decide +kernel
theorem dX0_hit_32 : decode cX0_hit 32 = .ok (.getfield 13, 3) := by decide +kernel
theorem dX0_hit_35 : decode cX0_hit 35 = .ok (.iload_n 2, 1) := by decide +kernel
theorem dX0_hit_36 : decode cX0_hit 36 = .ok (.bipush 99, 2) := by decide +kernel
theorem dX0_hit_38 : decode cX0_hit 38 = .ok (.aload_n 0, 1) := by decide +kernel
theorem dX0_hit_39 : decode cX0_hit 39 = .ok (.getfield 13, 3) := by decide +kernel
theorem dX0_hit_42 : decode cX0_hit 42 = .ok (.iload_n 2, 1) := by decide +kernel
theorem dX0_hit_43 : decode cX0_hit 43 = .ok (.iaload, 1) := by decide +kernel
theorem dX0_hit_44 : decode cX0_hit 44 = .ok (.aload_n 0, 1) := by decide +kernel
theorem dX0_hit_45 : decode cX0_hit 45 = .ok (.getfield 13, 3) := by decide +kernel
theorem dX0_hit_48 : decode cX0_hit 48 = .ok (.iload_n 1, 1) := by decide +kernel
theorem dX0_hit_49 : decode cX0_hit 49 = .ok (.iaload, 1) := by decide +kernel
theorem dX0_hit_50 : decode cX0_hit 50 = .ok (.iconst 2, 1) := by decide +kernel
theorem dX0_hit_51 : decode cX0_hit 51 = .ok (.idiv, 1) := by decide +kernel
theorem dX0_hit_52 : decode cX0_hit 52 = .ok (.iadd, 1) := by decide +kernel
theorem dX0_hit_53 : decode cX0_hit 53 = .ok (.invokestatic 121, 3) := by decide +kernel
theorem dX0_hit_56 : decode cX0_hit 56 = .ok (.iastore, 1) := by decide +kernel
theorem dX0_hit_57 : decode cX0_hit 57 = .ok (.aload_n 0, 1) := by decide +kernel
theorem dX0_hit_58 : decode cX0_hit 58 = .ok (.getfield 17, 3) := by decide +kernel
theorem dX0_hit_61 : decode cX0_hit 61 = .ok (.iload_n 2, 1) := by decide +kernel
theorem dX0_hit_62 : decode cX0_hit 62 = .ok (.dup2, 1) := by decide +kernel
theorem dX0_hit_63 : decode cX0_hit 63 = .ok (.iaload, 1) := by decide +kernel
theorem dX0_hit_64 : decode cX0_hit 64 = .ok (.aload_n 0, 1) := by decide +kernel
theorem dX0_hit_65 : decode cX0_hit 65 = .ok (.getfield 17, 3) := by decide +kernel
theorem dX0_hit_68 : decode cX0_hit 68 = .ok (.iload_n 1, 1) := by decide +kernel
theorem dX0_hit_69 : decode cX0_hit 69 = .ok (.iaload, 1) := by decide +kernel
theorem dX0_hit_70 : decode cX0_hit 70 = .ok (.iadd, 1) := by decide +kernel
theorem dX0_hit_71 : decode cX0_hit 71 = .ok (.iastore, 1) := by decide +kernel
theorem dX0_hit_72 : decode cX0_hit 72 = .ok (.goto 18, 3) := by decide +kernel
theorem dX0_hit_75 : decode cX0_hit 75 = .ok (.aload_n 0, 1) := by decide +kernel
theorem dX0_hit_76 : decode cX0_hit 76 = .ok (.dup, 1) := by decide +kernel
theorem dX0_hit_77 : decode cX0_hit 77 = .ok (.getfield 81, 3) := by decide +kernel
theorem dX0_hit_80 : decode cX0_hit 80 = .ok (.aload_n 0, 1) := by decide +kernel
theorem dX0_hit_81 : decode cX0_hit 81 = .ok (.getfield 17, 3) := by decide +kernel
theorem dX0_hit_84 : decode cX0_hit 84 = .ok (.iload_n 1, 1) := by decide +kernel
theorem dX0_hit_85 : decode cX0_hit 85 = .ok (.iaload, 1) := by decide +kernel
theorem dX0_hit_86 : decode cX0_hit 86 = .ok (.iadd, 1) := by decide +kernel
theorem dX0_hit_87 : decode cX0_hit 87 = .ok (.putfield 81, 3) := by decide +kernel
theorem dX0_hit_90 : decode cX0_hit 90 = .ok (.aload_n 0, 1) := by decide +kernel
theorem dX0_hit_91 : decode cX0_hit 91 = .ok (.getfield 17, 3) := by decide +kernel
theorem dX0_hit_94 : decode cX0_hit 94 = .ok (.iload_n 1, 1) := by decide +kernel
theorem dX0_hit_95 : decode cX0_hit 95 = .ok (.iconst 0, 1) := by decide +kernel
theorem dX0_hit_96 : decode cX0_hit 96 = .ok (.iastore, 1) := by decide +kernel
theorem dX0_hit_97 : decode cX0_hit 97 = .ok (.aload_n 0, 1) := by decide +kernel
theorem dX0_hit_98 : decode cX0_hit 98 = .ok (.getfield 20, 3) := by decide +kernel
theorem dX0_hit_101 : decode cX0_hit 101 = .ok (.iload_n 1, 1) := by decide +kernel
theorem dX0_hit_102 : decode cX0_hit 102 = .ok (.iconst 0, 1) := by decide +kernel
theorem dX0_hit_103 : decode cX0_hit 103 = .ok (.iastore, 1) := by decide +kernel
theorem dX0_hit_104 : decode cX0_hit 104 = .ok (.iload_n 2, 1) := by decide +kernel
theorem dX0_hit_105 : decode cX0_hit 105 = .ok (.ireturn, 1) := by decide +kernel
theorem dX0_pass_0 : decode cX0_pass 0 = .ok (.iload_n 1, 1) := by decide +kernel
theorem dX0_pass_1 : decode cX0_pass 1 = .ok (.iconst 1, 1) := by decide +kernel
theorem dX0_pass_2 : decode cX0_pass 2 = .ok (.if_icmp .lt 9, 3) := by decide +kernel
theorem dX0_pass_5 : decode cX0_pass 5 = .ok (.iload_n 1, 1) := by decide +kernel
theorem dX0_pass_6 : decode cX0_pass 6 = .ok (.bipush 30, 2) := by decide +kernel
theorem dX0_pass_8 : decode cX0_pass 8 = .ok (.if_icmp .le 13, 3) := by decide +kernel
theorem dX0_pass_11 : decode cX0_pass 11 = .ok (.new 41, 3) := by decide +kernel
theorem dX0_pass_14 : decode cX0_pass 14 = .ok (.dup, 1) := by decide +kernel
theorem dX0_pass_15 : decode cX0_pass 15 = .ok (.ldc 124, 2) := by decide +kernel
theorem dX0_pass_17 : decode cX0_pass 17 = .ok (.invokespecial 45, 3) := by decide +kernel
theorem dX0_pass_20 : decode cX0_pass 20 = .ok (.athrow, 1) := by decide +kernel
theorem dX0_pass_21 : decode cX0_pass 21 = .ok (.iconst 0, 1) := by decide +kernel
theorem dX0_pass_22 : decode cX0_pass 22 = .ok (.istore_n 2, 1) := by decide +kernel
theorem dX0_pass_23 : decode cX0_pass 23 = .ok (.iload_n 2, 1) := by decide +kernel
theorem dX0_pass_24 : decode cX0_pass 24 = .ok (.iload_n 1, 1) := by decide +kernel
theorem dX0_pass_25 : decode cX0_pass 25 = .ok (.if_icmp .ge 13, 3) := by decide +kernel
theorem dX0_pass_28 : decode cX0_pass 28 = .ok (.aload_n 0, 1) := by decide +kernel
theorem dX0_pass_29 : decode cX0_pass 29 = .ok (.invokevirtual 126, 3) := by decide +kernel
theorem dX0_pass_32 : decode cX0_pass 32 = .ok (.iinc 2 1, 3) := by decide +kernel
theorem dX0_pass_35 : decode cX0_pass 35 = .ok (.goto (-12), 3) := by decide +kernel
theorem dX0_pass_38 : decode cX0_pass 38 = .ok (.aload_n 0, 1) := by decide +kernel
theorem dX0_pass_39 : decode cX0_pass 39 = .ok (.invokevirtual 129, 3) := by decide +kernel
theorem dX0_pass_42 : decode cX0_pass 42 = .ok (.ireturn, 1) := by decide +kernel
theorem dX0_night_0 : decode cX0_night 0 = .ok (.aload_n 0, 1) := by decide +kernel
theorem dX0_night_1 : decode cX0_night 1 = .ok (.getfield 133, 3) := by decide +kernel
theorem dX0_night_4 : decode cX0_night 4 = .ok (.ireturn, 1) := by decide +kernel
theorem dX0_persons_0 : decode cX0_persons 0 = .ok (.aload_n 0, 1) := by decide +kernel
theorem dX0_persons_1 : decode cX0_persons 1 = .ok (.getfield 48, 3) := by decide +kernel
theorem dX0_persons_4 : decode cX0_persons 4 = .ok (.ireturn, 1) := by decide +kernel
theorem dX0_alive_0 : decode cX0_alive 0 = .ok (.iconst 0, 1) := by decide +kernel
theorem dX0_alive_1 : decode cX0_alive 1 = .ok (.istore_n 1, 1) := by decide +kernel
theorem dX0_alive_2 : decode cX0_alive 2 = .ok (.iconst 0, 1) := by decide +kernel
theorem dX0_alive_3 : decode cX0_alive 3 = .ok (.istore_n 2, 1) := by decide +kernel
theorem dX0_alive_4 : decode cX0_alive 4 = .ok (.iload_n 2, 1) := by decide +kernel
theorem dX0_alive_5 : decode cX0_alive 5 = .ok (.aload_n 0, 1) := by decide +kernel
theorem dX0_alive_6 : decode cX0_alive 6 = .ok (.getfield 48, 3) := by decide +kernel
theorem dX0_alive_9 : decode cX0_alive 9 = .ok (.if_icmp .ge 21, 3) := by decide +kernel
theorem dX0_alive_12 : decode cX0_alive 12 = .ok (.aload_n 0, 1) := by decide +kernel
theorem dX0_alive_13 : decode cX0_alive 13 = .ok (.getfield 9, 3) := by decide +kernel
theorem dX0_alive_16 : decode cX0_alive 16 = .ok (.iload_n 2, 1) := by decide +kernel
theorem dX0_alive_17 : decode cX0_alive 17 = .ok (.baload, 1) := by decide +kernel
theorem dX0_alive_18 : decode cX0_alive 18 = .ok (.ifCond .eq 6, 3) := by decide +kernel
theorem dX0_alive_21 : decode cX0_alive 21 = .ok (.iinc 1 1, 3) := by decide +kernel
theorem dX0_alive_24 : decode cX0_alive 24 = .ok (.iinc 2 1, 3) := by decide +kernel
theorem dX0_alive_27 : decode cX0_alive 27 = .ok (.goto (-23), 3) := by decide +kernel
theorem dX0_alive_30 : decode cX0_alive 30 = .ok (.iload_n 1, 1) := by decide +kernel
theorem dX0_alive_31 : decode cX0_alive 31 = .ok (.ireturn, 1) := by decide +kernel
theorem dX0_witnesses_0 : decode cX0_witnesses 0 = .ok (.aload_n 0, 1) := by decide +kernel
theorem dX0_witnesses_1 : decode cX0_witnesses 1 = .ok (.getfield 59, 3) := by decide +kernel
theorem dX0_witnesses_4 : decode cX0_witnesses 4 = .ok (.ireturn, 1) := by decide +kernel
theorem dX0_shaken_0 : decode cX0_shaken 0 = .ok (.iconst 0, 1) := by decide +kernel
theorem dX0_shaken_1 : decode cX0_shaken 1 = .ok (.istore_n 1, 1) := by decide +kernel
theorem dX0_shaken_2 : decode cX0_shaken 2 = .ok (.iconst 0, 1) := by decide +kernel
theorem dX0_shaken_3 : decode cX0_shaken 3 = .ok (.istore_n 2, 1) := by decide +kernel
theorem dX0_shaken_4 : decode cX0_shaken 4 = .ok (.iload_n 2, 1) := by decide +kernel
theorem dX0_shaken_5 : decode cX0_shaken 5 = .ok (.aload_n 0, 1) := by decide +kernel
theorem dX0_shaken_6 : decode cX0_shaken 6 = .ok (.getfield 59, 3) := by decide +kernel
theorem dX0_shaken_9 : decode cX0_shaken 9 = .ok (.if_icmp .ge 20, 3) := by decide +kernel
theorem dX0_shaken_12 : decode cX0_shaken 12 = .ok (.aload_n 0, 1) := by decide +kernel
theorem dX0_shaken_13 : decode cX0_shaken 13 = .ok (.iload_n 2, 1) := by decide +kernel
theorem dX0_shaken_14 : decode cX0_shaken 14 = .ok (.invokevirtual 136, 3) := by decide +kernel
theorem dX0_shaken_17 : decode cX0_shaken 17 = .ok (.ifCond .eq 6, 3) := by decide +kernel
theorem dX0_shaken_20 : decode cX0_shaken 20 = .ok (.iinc 1 1, 3) := by decide +kernel
theorem dX0_shaken_23 : decode cX0_shaken 23 = .ok (.iinc 2 1, 3) := by decide +kernel
theorem dX0_shaken_26 : decode cX0_shaken 26 = .ok (.goto (-22), 3) := by decide +kernel
theorem dX0_shaken_29 : decode cX0_shaken 29 = .ok (.iload_n 1, 1) := by decide +kernel
theorem dX0_shaken_30 : decode cX0_shaken 30 = .ok (.ireturn, 1) := by decide +kernel
theorem dX0_fund_0 : decode cX0_fund 0 = .ok (.aload_n 0, 1) := by decide +kernel
theorem dX0_fund_1 : decode cX0_fund 1 = .ok (.getfield 81, 3) := by decide +kernel
theorem dX0_fund_4 : decode cX0_fund 4 = .ok (.ireturn, 1) := by decide +kernel
theorem dX0_refunded_0 : decode cX0_refunded 0 = .ok (.aload_n 0, 1) := by decide +kernel
theorem dX0_refunded_1 : decode cX0_refunded 1 = .ok (.getfield 139, 3) := by decide +kernel
theorem dX0_refunded_4 : decode cX0_refunded 4 = .ok (.ireturn, 1) := by decide +kernel
theorem dX0_misses_0 : decode cX0_misses 0 = .ok (.aload_n 0, 1) := by decide +kernel
theorem dX0_misses_1 : decode cX0_misses 1 = .ok (.getfield 90, 3) := by decide +kernel
theorem dX0_misses_4 : decode cX0_misses 4 = .ok (.ireturn, 1) := by decide +kernel
theorem dX0_certified_0 : decode cX0_certified 0 = .ok (.iconst 0, 1) := by decide +kernel
theorem dX0_certified_1 : decode cX0_certified 1 = .ok (.istore_n 1, 1) := by decide +kernel
theorem dX0_certified_2 : decode cX0_certified 2 = .ok (.iconst 0, 1) := by decide +kernel
theorem dX0_certified_3 : decode cX0_certified 3 = .ok (.istore_n 2, 1) := by decide +kernel
theorem dX0_certified_4 : decode cX0_certified 4 = .ok (.iload_n 2, 1) := by decide +kernel
theorem dX0_certified_5 : decode cX0_certified 5 = .ok (.aload_n 0, 1) := by decide +kernel
theorem dX0_certified_6 : decode cX0_certified 6 = .ok (.getfield 90, 3) := by decide +kernel
theorem dX0_certified_9 : decode cX0_certified 9 = .ok (.if_icmp .ge 21, 3) := by decide +kernel
theorem dX0_certified_12 : decode cX0_certified 12 = .ok (.aload_n 0, 1) := by decide +kernel
theorem dX0_certified_13 : decode cX0_certified 13 = .ok (.getfield 38, 3) := by decide +kernel
theorem dX0_certified_16 : decode cX0_certified 16 = .ok (.iload_n 2, 1) := by decide +kernel
theorem dX0_certified_17 : decode cX0_certified 17 = .ok (.iaload, 1) := by decide +kernel
theorem dX0_certified_18 : decode cX0_certified 18 = .ok (.ifCond .le 6, 3) := by decide +kernel
theorem dX0_certified_21 : decode cX0_certified 21 = .ok (.iinc 1 1, 3) := by decide +kernel
theorem dX0_certified_24 : decode cX0_certified 24 = .ok (.iinc 2 1, 3) := by decide +kernel
theorem dX0_certified_27 : decode cX0_certified 27 = .ok (.goto (-23), 3) := by decide +kernel
theorem dX0_certified_30 : decode cX0_certified 30 = .ok (.iload_n 1, 1) := by decide +kernel
theorem dX0_certified_31 : decode cX0_certified 31 = .ok (.ireturn, 1) := by decide +kernel
theorem dX0_isAlive_0 : decode cX0_isAlive 0 = .ok (.aload_n 0, 1) := by decide +kernel
theorem dX0_isAlive_1 : decode cX0_isAlive 1 = .ok (.iload_n 1, 1) := by decide +kernel
theorem dX0_isAlive_2 : decode cX0_isAlive 2 = .ok (.invokevirtual 64, 3) := by decide +kernel
theorem dX0_isAlive_5 : decode cX0_isAlive 5 = .ok (.aload_n 0, 1) := by decide +kernel
theorem dX0_isAlive_6 : decode cX0_isAlive 6 = .ok (.getfield 9, 3) := by decide +kernel
theorem dX0_isAlive_9 : decode cX0_isAlive 9 = .ok (.iload_n 1, 1) := by decide +kernel
theorem dX0_isAlive_10 : decode cX0_isAlive 10 = .ok (.baload, 1) := by decide +kernel
theorem dX0_isAlive_11 : decode cX0_isAlive 11 = .ok (.ireturn, 1) := by decide +kernel
theorem dX0_luckOf_0 : decode cX0_luckOf 0 = .ok (.aload_n 0, 1) := by decide +kernel
theorem dX0_luckOf_1 : decode cX0_luckOf 1 = .ok (.iload_n 1, 1) := by decide +kernel
theorem dX0_luckOf_2 : decode cX0_luckOf 2 = .ok (.invokevirtual 64, 3) := by decide +kernel
theorem dX0_luckOf_5 : decode cX0_luckOf 5 = .ok (.aload_n 0, 1) := by decide +kernel
theorem dX0_luckOf_6 : decode cX0_luckOf 6 = .ok (.getfield 13, 3) := by decide +kernel
theorem dX0_luckOf_9 : decode cX0_luckOf 9 = .ok (.iload_n 1, 1) := by decide +kernel
theorem dX0_luckOf_10 : decode cX0_luckOf 10 = .ok (.iaload, 1) := by decide +kernel
theorem dX0_luckOf_11 : decode cX0_luckOf 11 = .ok (.ireturn, 1) := by decide +kernel
theorem dX0_purseOf_0 : decode cX0_purseOf 0 = .ok (.aload_n 0, 1) := by decide +kernel
theorem dX0_purseOf_1 : decode cX0_purseOf 1 = .ok (.iload_n 1, 1) := by decide +kernel
theorem dX0_purseOf_2 : decode cX0_purseOf 2 = .ok (.invokevirtual 64, 3) := by decide +kernel
theorem dX0_purseOf_5 : decode cX0_purseOf 5 = .ok (.aload_n 0, 1) := by decide +kernel
theorem dX0_purseOf_6 : decode cX0_purseOf 6 = .ok (.getfield 17, 3) := by decide +kernel
theorem dX0_purseOf_9 : decode cX0_purseOf 9 = .ok (.iload_n 1, 1) := by decide +kernel
theorem dX0_purseOf_10 : decode cX0_purseOf 10 = .ok (.iaload, 1) := by decide +kernel
theorem dX0_purseOf_11 : decode cX0_purseOf 11 = .ok (.ireturn, 1) := by decide +kernel
theorem dX0_fatesOf_0 : decode cX0_fatesOf 0 = .ok (.aload_n 0, 1) := by decide +kernel
theorem dX0_fatesOf_1 : decode cX0_fatesOf 1 = .ok (.iload_n 1, 1) := by decide +kernel
theorem dX0_fatesOf_2 : decode cX0_fatesOf 2 = .ok (.invokevirtual 64, 3) := by decide +kernel
theorem dX0_fatesOf_5 : decode cX0_fatesOf 5 = .ok (.aload_n 0, 1) := by decide +kernel
theorem dX0_fatesOf_6 : decode cX0_fatesOf 6 = .ok (.getfield 20, 3) := by decide +kernel
theorem dX0_fatesOf_9 : decode cX0_fatesOf 9 = .ok (.iload_n 1, 1) := by decide +kernel
theorem dX0_fatesOf_10 : decode cX0_fatesOf 10 = .ok (.iaload, 1) := by decide +kernel
theorem dX0_fatesOf_11 : decode cX0_fatesOf 11 = .ok (.ireturn, 1) := by decide +kernel
theorem dX0_heirOf_0 : decode cX0_heirOf 0 = .ok (.aload_n 0, 1) := by decide +kernel
theorem dX0_heirOf_1 : decode cX0_heirOf 1 = .ok (.iload_n 1, 1) := by decide +kernel
theorem dX0_heirOf_2 : decode cX0_heirOf 2 = .ok (.invokevirtual 64, 3) := by decide +kernel
theorem dX0_heirOf_5 : decode cX0_heirOf 5 = .ok (.aload_n 0, 1) := by decide +kernel
theorem dX0_heirOf_6 : decode cX0_heirOf 6 = .ok (.getfield 23, 3) := by decide +kernel
theorem dX0_heirOf_9 : decode cX0_heirOf 9 = .ok (.iload_n 1, 1) := by decide +kernel
theorem dX0_heirOf_10 : decode cX0_heirOf 10 = .ok (.iaload, 1) := by decide +kernel
theorem dX0_heirOf_11 : decode cX0_heirOf 11 = .ok (.ireturn, 1) := by decide +kernel
theorem dX0_lastHeirOf_0 : decode cX0_lastHeirOf 0 = .ok (.aload_n 0, 1) := by decide +kernel
theorem dX0_lastHeirOf_1 : decode cX0_lastHeirOf 1 = .ok (.iload_n 1, 1) := by decide +kernel
theorem dX0_lastHeirOf_2 : decode cX0_lastHeirOf 2 = .ok (.invokevirtual 64, 3) := by decide +kernel
theorem dX0_lastHeirOf_5 : decode cX0_lastHeirOf 5 = .ok (.aload_n 0, 1) := by decide +kernel
theorem dX0_lastHeirOf_6 : decode cX0_lastHeirOf 6 = .ok (.iload_n 1, 1) := by decide +kernel
theorem dX0_lastHeirOf_7 : decode cX0_lastHeirOf 7 = .ok (.invokevirtual 114, 3) := by decide +kernel
theorem dX0_lastHeirOf_10 : decode cX0_lastHeirOf 10 = .ok (.ireturn, 1) := by decide +kernel
theorem dX0_priceFor_0 : decode cX0_priceFor 0 = .ok (.aload_n 0, 1) := by decide +kernel
theorem dX0_priceFor_1 : decode cX0_priceFor 1 = .ok (.iload_n 1, 1) := by decide +kernel
theorem dX0_priceFor_2 : decode cX0_priceFor 2 = .ok (.invokevirtual 64, 3) := by decide +kernel
theorem dX0_priceFor_5 : decode cX0_priceFor 5 = .ok (.aload_n 0, 1) := by decide +kernel
theorem dX0_priceFor_6 : decode cX0_priceFor 6 = .ok (.iload_n 1, 1) := by decide +kernel
theorem dX0_priceFor_7 : decode cX0_priceFor 7 = .ok (.invokevirtual 75, 3) := by decide +kernel
theorem dX0_priceFor_10 : decode cX0_priceFor 10 = .ok (.ireturn, 1) := by decide +kernel
theorem dX0_missesOf_0 : decode cX0_missesOf 0 = .ok (.aload_n 0, 1) := by decide +kernel
theorem dX0_missesOf_1 : decode cX0_missesOf 1 = .ok (.iload_n 1, 1) := by decide +kernel
theorem dX0_missesOf_2 : decode cX0_missesOf 2 = .ok (.invokevirtual 64, 3) := by decide +kernel
theorem dX0_missesOf_5 : decode cX0_missesOf 5 = .ok (.iconst 0, 1) := by decide +kernel
theorem dX0_missesOf_6 : decode cX0_missesOf 6 = .ok (.istore_n 2, 1) := by decide +kernel
theorem dX0_missesOf_7 : decode cX0_missesOf 7 = .ok (.iconst 0, 1) := by decide +kernel
theorem dX0_missesOf_8 : decode cX0_missesOf 8 = .ok (.istore_n 3, 1) := by decide +kernel
theorem dX0_missesOf_9 : decode cX0_missesOf 9 = .ok (.iload_n 3, 1) := by decide +kernel
theorem dX0_missesOf_10 : decode cX0_missesOf 10 = .ok (.aload_n 0, 1) := by decide +kernel
theorem dX0_missesOf_11 : decode cX0_missesOf 11 = .ok (.getfield 90, 3) := by decide +kernel
theorem dX0_missesOf_14 : decode cX0_missesOf 14 = .ok (.if_icmp .ge 22, 3) := by decide +kernel
theorem dX0_missesOf_17 : decode cX0_missesOf 17 = .ok (.aload_n 0, 1) := by decide +kernel
theorem dX0_missesOf_18 : decode cX0_missesOf 18 = .ok (.getfield 35, 3) := by decide +kernel
theorem dX0_missesOf_21 : decode cX0_missesOf 21 = .ok (.iload_n 3, 1) := by decide +kernel
theorem dX0_missesOf_22 : decode cX0_missesOf 22 = .ok (.iaload, 1) := by decide +kernel
theorem dX0_missesOf_23 : decode cX0_missesOf 23 = .ok (.iload_n 1, 1) := by decide +kernel
theorem dX0_missesOf_24 : decode cX0_missesOf 24 = .ok (.if_icmp .ne 6, 3) := by decide +kernel
theorem dX0_missesOf_27 : decode cX0_missesOf 27 = .ok (.iinc 2 1, 3) := by decide +kernel
theorem dX0_missesOf_30 : decode cX0_missesOf 30 = .ok (.iinc 3 1, 3) := by decide +kernel
theorem dX0_missesOf_33 : decode cX0_missesOf 33 = .ok (.goto (-24), 3) := by decide +kernel
theorem dX0_missesOf_36 : decode cX0_missesOf 36 = .ok (.iload_n 2, 1) := by decide +kernel
theorem dX0_missesOf_37 : decode cX0_missesOf 37 = .ok (.ireturn, 1) := by decide +kernel
theorem dX0_closestOf_0 : decode cX0_closestOf 0 = .ok (.aload_n 0, 1) := by decide +kernel
theorem dX0_closestOf_1 : decode cX0_closestOf 1 = .ok (.iload_n 1, 1) := by decide +kernel
theorem dX0_closestOf_2 : decode cX0_closestOf 2 = .ok (.invokevirtual 64, 3) := by decide +kernel
theorem dX0_closestOf_5 : decode cX0_closestOf 5 = .ok (.iconst 0, 1) := by decide +kernel
theorem dX0_closestOf_6 : decode cX0_closestOf 6 = .ok (.istore_n 2, 1) := by decide +kernel
theorem dX0_closestOf_7 : decode cX0_closestOf 7 = .ok (.iconst 0, 1) := by decide +kernel
theorem dX0_closestOf_8 : decode cX0_closestOf 8 = .ok (.istore_n 3, 1) := by decide +kernel
theorem dX0_closestOf_9 : decode cX0_closestOf 9 = .ok (.iload_n 3, 1) := by decide +kernel
theorem dX0_closestOf_10 : decode cX0_closestOf 10 = .ok (.aload_n 0, 1) := by decide +kernel
theorem dX0_closestOf_11 : decode cX0_closestOf 11 = .ok (.getfield 90, 3) := by decide +kernel
theorem dX0_closestOf_14 : decode cX0_closestOf 14 = .ok (.if_icmp .ge 45, 3) := by decide +kernel
theorem dX0_closestOf_17 : decode cX0_closestOf 17 = .ok (.aload_n 0, 1) := by decide +kernel
theorem dX0_closestOf_18 : decode cX0_closestOf 18 = .ok (.getfield 38, 3) := by decide +kernel
theorem dX0_closestOf_21 : decode cX0_closestOf 21 = .ok (.iload_n 3, 1) := by decide +kernel
theorem dX0_closestOf_22 : decode cX0_closestOf 22 = .ok (.iaload, 1) := by decide +kernel
theorem dX0_closestOf_23 : decode cX0_closestOf 23 = .ok (.istore 4, 2) := by decide +kernel
theorem dX0_closestOf_25 : decode cX0_closestOf 25 = .ok (.aload_n 0, 1) := by decide +kernel
theorem dX0_closestOf_26 : decode cX0_closestOf 26 = .ok (.getfield 35, 3) := by decide +kernel
theorem dX0_closestOf_29 : decode cX0_closestOf 29 = .ok (.iload_n 3, 1) := by decide +kernel
theorem dX0_closestOf_30 : decode cX0_closestOf 30 = .ok (.iaload, 1) := by decide +kernel
theorem dX0_closestOf_31 : decode cX0_closestOf 31 = .ok (.iload_n 1, 1) := by decide +kernel
theorem dX0_closestOf_32 : decode cX0_closestOf 32 = .ok (.if_icmp .ne 21, 3) := by decide +kernel
theorem dX0_closestOf_35 : decode cX0_closestOf 35 = .ok (.iload 4, 2) := by decide +kernel
theorem dX0_closestOf_37 : decode cX0_closestOf 37 = .ok (.ifCond .le 16, 3) := by decide +kernel
theorem dX0_closestOf_40 : decode cX0_closestOf 40 = .ok (.iload_n 2, 1) := by decide +kernel
theorem dX0_closestOf_41 : decode cX0_closestOf 41 = .ok (.ifCond .eq 9, 3) := by decide +kernel
theorem dX0_closestOf_44 : decode cX0_closestOf 44 = .ok (.iload 4, 2) := by decide +kernel
theorem dX0_closestOf_46 : decode cX0_closestOf 46 = .ok (.iload_n 2, 1) := by decide +kernel
theorem dX0_closestOf_47 : decode cX0_closestOf 47 = .ok (.if_icmp .ge 6, 3) := by decide +kernel
theorem dX0_closestOf_50 : decode cX0_closestOf 50 = .ok (.iload 4, 2) := by decide +kernel
theorem dX0_closestOf_52 : decode cX0_closestOf 52 = .ok (.istore_n 2, 1) := by decide +kernel
theorem dX0_closestOf_53 : decode cX0_closestOf 53 = .ok (.iinc 3 1, 3) := by decide +kernel
theorem dX0_closestOf_56 : decode cX0_closestOf 56 = .ok (.goto (-47), 3) := by decide +kernel
theorem dX0_closestOf_59 : decode cX0_closestOf 59 = .ok (.iload_n 2, 1) := by decide +kernel
theorem dX0_closestOf_60 : decode cX0_closestOf 60 = .ok (.ireturn, 1) := by decide +kernel
theorem dX0_nerveOf_0 : decode cX0_nerveOf 0 = .ok (.aload_n 0, 1) := by decide +kernel
theorem dX0_nerveOf_1 : decode cX0_nerveOf 1 = .ok (.iload_n 1, 1) := by decide +kernel
theorem dX0_nerveOf_2 : decode cX0_nerveOf 2 = .ok (.invokevirtual 84, 3) := by decide +kernel
theorem dX0_nerveOf_5 : decode cX0_nerveOf 5 = .ok (.aload_n 0, 1) := by decide +kernel
theorem dX0_nerveOf_6 : decode cX0_nerveOf 6 = .ok (.getfield 26, 3) := by decide +kernel
theorem dX0_nerveOf_9 : decode cX0_nerveOf 9 = .ok (.iload_n 1, 1) := by decide +kernel
theorem dX0_nerveOf_10 : decode cX0_nerveOf 10 = .ok (.iaload, 1) := by decide +kernel
theorem dX0_nerveOf_11 : decode cX0_nerveOf 11 = .ok (.ireturn, 1) := by decide +kernel
theorem dX0_isOnDuty_0 : decode cX0_isOnDuty 0 = .ok (.aload_n 0, 1) := by decide +kernel
theorem dX0_isOnDuty_1 : decode cX0_isOnDuty 1 = .ok (.iload_n 1, 1) := by decide +kernel
theorem dX0_isOnDuty_2 : decode cX0_isOnDuty 2 = .ok (.invokevirtual 84, 3) := by decide +kernel
theorem dX0_isOnDuty_5 : decode cX0_isOnDuty 5 = .ok (.aload_n 0, 1) := by decide +kernel
theorem dX0_isOnDuty_6 : decode cX0_isOnDuty 6 = .ok (.getfield 29, 3) := by decide +kernel
theorem dX0_isOnDuty_9 : decode cX0_isOnDuty 9 = .ok (.iload_n 1, 1) := by decide +kernel
theorem dX0_isOnDuty_10 : decode cX0_isOnDuty 10 = .ok (.baload, 1) := by decide +kernel
theorem dX0_isOnDuty_11 : decode cX0_isOnDuty 11 = .ok (.ireturn, 1) := by decide +kernel
theorem dX0_wouldTell_0 : decode cX0_wouldTell 0 = .ok (.aload_n 0, 1) := by decide +kernel
theorem dX0_wouldTell_1 : decode cX0_wouldTell 1 = .ok (.iload_n 1, 1) := by decide +kernel
theorem dX0_wouldTell_2 : decode cX0_wouldTell 2 = .ok (.invokevirtual 84, 3) := by decide +kernel
theorem dX0_wouldTell_5 : decode cX0_wouldTell 5 = .ok (.aload_n 0, 1) := by decide +kernel
theorem dX0_wouldTell_6 : decode cX0_wouldTell 6 = .ok (.iload_n 2, 1) := by decide +kernel
theorem dX0_wouldTell_7 : decode cX0_wouldTell 7 = .ok (.invokevirtual 87, 3) := by decide +kernel
theorem dX0_wouldTell_10 : decode cX0_wouldTell 10 = .ok (.aload_n 0, 1) := by decide +kernel
theorem dX0_wouldTell_11 : decode cX0_wouldTell 11 = .ok (.iload_n 1, 1) := by decide +kernel
theorem dX0_wouldTell_12 : decode cX0_wouldTell 12 = .ok (.iload_n 2, 1) := by decide +kernel
theorem dX0_wouldTell_13 : decode cX0_wouldTell 13 = .ok (.invokevirtual 142, 3) := by decide +kernel
theorem dX0_wouldTell_16 : decode cX0_wouldTell 16 = .ok (.ireturn, 1) := by decide +kernel
theorem dX0_personOf_0 : decode cX0_personOf 0 = .ok (.aload_n 0, 1) := by decide +kernel
theorem dX0_personOf_1 : decode cX0_personOf 1 = .ok (.iload_n 1, 1) := by decide +kernel
theorem dX0_personOf_2 : decode cX0_personOf 2 = .ok (.invokevirtual 145, 3) := by decide +kernel
theorem dX0_personOf_5 : decode cX0_personOf 5 = .ok (.aload_n 0, 1) := by decide +kernel
theorem dX0_personOf_6 : decode cX0_personOf 6 = .ok (.getfield 35, 3) := by decide +kernel
theorem dX0_personOf_9 : decode cX0_personOf 9 = .ok (.iload_n 1, 1) := by decide +kernel
theorem dX0_personOf_10 : decode cX0_personOf 10 = .ok (.iaload, 1) := by decide +kernel
theorem dX0_personOf_11 : decode cX0_personOf 11 = .ok (.ireturn, 1) := by decide +kernel
theorem dX0_inchesOf_0 : decode cX0_inchesOf 0 = .ok (.aload_n 0, 1) := by decide +kernel
theorem dX0_inchesOf_1 : decode cX0_inchesOf 1 = .ok (.iload_n 1, 1) := by decide +kernel
theorem dX0_inchesOf_2 : decode cX0_inchesOf 2 = .ok (.invokevirtual 145, 3) := by decide +kernel
theorem dX0_inchesOf_5 : decode cX0_inchesOf 5 = .ok (.aload_n 0, 1) := by decide +kernel
theorem dX0_inchesOf_6 : decode cX0_inchesOf 6 = .ok (.getfield 38, 3) := by decide +kernel
theorem dX0_inchesOf_9 : decode cX0_inchesOf 9 = .ok (.iload_n 1, 1) := by decide +kernel
theorem dX0_inchesOf_10 : decode cX0_inchesOf 10 = .ok (.iaload, 1) := by decide +kernel
theorem dX0_inchesOf_11 : decode cX0_inchesOf 11 = .ok (.ireturn, 1) := by decide +kernel
theorem dX0_sealOf_0 : decode cX0_sealOf 0 = .ok (.aload_n 0, 1) := by decide +kernel
theorem dX0_sealOf_1 : decode cX0_sealOf 1 = .ok (.iload_n 1, 1) := by decide +kernel
theorem dX0_sealOf_2 : decode cX0_sealOf 2 = .ok (.invokevirtual 145, 3) := by decide +kernel
theorem dX0_sealOf_5 : decode cX0_sealOf 5 = .ok (.aload_n 0, 1) := by decide +kernel
theorem dX0_sealOf_6 : decode cX0_sealOf 6 = .ok (.getfield 35, 3) := by decide +kernel
theorem dX0_sealOf_9 : decode cX0_sealOf 9 = .ok (.iload_n 1, 1) := by decide +kernel
theorem dX0_sealOf_10 : decode cX0_sealOf 10 = .ok (.iaload, 1) := by decide +kernel
theorem dX0_sealOf_11 : decode cX0_sealOf 11 = .ok (.aload_n 0, 1) := by decide +kernel
theorem dX0_sealOf_12 : decode cX0_sealOf 12 = .ok (.getfield 38, 3) := by decide +kernel
theorem dX0_sealOf_15 : decode cX0_sealOf 15 = .ok (.iload_n 1, 1) := by decide +kernel
theorem dX0_sealOf_16 : decode cX0_sealOf 16 = .ok (.iaload, 1) := by decide +kernel
theorem dX0_sealOf_17 : decode cX0_sealOf 17 = .ok (.invokestatic 148, 3) := by decide +kernel
theorem dX0_sealOf_20 : decode cX0_sealOf 20 = .ok (.ireturn, 1) := by decide +kernel
theorem dX0_wouldCertify_0 : decode cX0_wouldCertify 0 = .ok (.aload_n 0, 1) := by decide +kernel
theorem dX0_wouldCertify_1 : decode cX0_wouldCertify 1 = .ok (.iload_n 1, 1) := by decide +kernel
theorem dX0_wouldCertify_2 : decode cX0_wouldCertify 2 = .ok (.invokevirtual 87, 3) := by decide +kernel
theorem dX0_wouldCertify_5 : decode cX0_wouldCertify 5 = .ok (.aload_n 0, 1) := by decide +kernel
theorem dX0_wouldCertify_6 : decode cX0_wouldCertify 6 = .ok (.iload_n 1, 1) := by decide +kernel
theorem dX0_wouldCertify_7 : decode cX0_wouldCertify 7 = .ok (.invokevirtual 95, 3) := by decide +kernel
theorem dX0_wouldCertify_10 : decode cX0_wouldCertify 10 = .ok (.ireturn, 1) := by decide +kernel
theorem dX0_missesUntilShaken_0 : decode cX0_missesUntilShaken 0 = .ok (.aload_n 0, 1) := by decide +kernel
theorem dX0_missesUntilShaken_1 : decode cX0_missesUntilShaken 1 = .ok (.iload_n 1, 1) := by decide +kernel
theorem dX0_missesUntilShaken_2 : decode cX0_missesUntilShaken 2 = .ok (.invokevirtual 87, 3) := by decide +kernel
theorem dX0_missesUntilShaken_5 : decode cX0_missesUntilShaken 5 = .ok (.aload_n 0, 1) := by decide +kernel
theorem dX0_missesUntilShaken_6 : decode cX0_missesUntilShaken 6 = .ok (.invokevirtual 154, 3) := by decide +kernel
theorem dX0_missesUntilShaken_9 : decode cX0_missesUntilShaken 9 = .ok (.istore_n 2, 1) := by decide +kernel
theorem dX0_missesUntilShaken_10 : decode cX0_missesUntilShaken 10 = .ok (.aload_n 0, 1) := by decide +kernel
theorem dX0_missesUntilShaken_11 : decode cX0_missesUntilShaken 11 = .ok (.iload_n 2, 1) := by decide +kernel
theorem dX0_missesUntilShaken_12 : decode cX0_missesUntilShaken 12 = .ok (.invokevirtual 157, 3) := by decide +kernel
theorem dX0_missesUntilShaken_15 : decode cX0_missesUntilShaken 15 = .ok (.ifCond .ne 5, 3) := by decide +kernel
theorem dX0_missesUntilShaken_18 : decode cX0_missesUntilShaken 18 = .ok (.iconst 0, 1) := by decide +kernel
theorem dX0_missesUntilShaken_19 : decode cX0_missesUntilShaken 19 = .ok (.ireturn, 1) := by decide +kernel
theorem dX0_missesUntilShaken_20 : decode cX0_missesUntilShaken 20 = .ok (.iload_n 1, 1) := by decide +kernel
theorem dX0_missesUntilShaken_21 : decode cX0_missesUntilShaken 21 = .ok (.invokestatic 108, 3) := by decide +kernel
theorem dX0_missesUntilShaken_24 : decode cX0_missesUntilShaken 24 = .ok (.istore_n 3, 1) := by decide +kernel
theorem dX0_missesUntilShaken_25 : decode cX0_missesUntilShaken 25 = .ok (.iconst 0, 1) := by decide +kernel
theorem dX0_missesUntilShaken_26 : decode cX0_missesUntilShaken 26 = .ok (.istore 4, 2) := by decide +kernel
theorem dX0_missesUntilShaken_28 : decode cX0_missesUntilShaken 28 = .ok (.iload 4, 2) := by decide +kernel
theorem dX0_missesUntilShaken_30 : decode cX0_missesUntilShaken 30 = .ok (.bipush 9, 2) := by decide +kernel
theorem dX0_missesUntilShaken_32 : decode cX0_missesUntilShaken 32 = .ok (.if_icmp .ge 24, 3) := by decide +kernel
theorem dX0_missesUntilShaken_35 : decode cX0_missesUntilShaken 35 = .ok (.aload_n 0, 1) := by decide +kernel
theorem dX0_missesUntilShaken_36 : decode cX0_missesUntilShaken 36 = .ok (.getfield 26, 3) := by decide +kernel
theorem dX0_missesUntilShaken_39 : decode cX0_missesUntilShaken 39 = .ok (.iload_n 2, 1) := by decide +kernel
theorem dX0_missesUntilShaken_40 : decode cX0_missesUntilShaken 40 = .ok (.iaload, 1) := by decide +kernel
theorem dX0_missesUntilShaken_41 : decode cX0_missesUntilShaken 41 = .ok (.iload 4, 2) := by decide +kernel
theorem dX0_missesUntilShaken_43 : decode cX0_missesUntilShaken 43 = .ok (.iload_n 3, 1) := by decide +kernel
theorem dX0_missesUntilShaken_44 : decode cX0_missesUntilShaken 44 = .ok (.imul, 1) := by decide +kernel
theorem dX0_missesUntilShaken_45 : decode cX0_missesUntilShaken 45 = .ok (.isub, 1) := by decide +kernel
theorem dX0_missesUntilShaken_46 : decode cX0_missesUntilShaken 46 = .ok (.iconst 2, 1) := by decide +kernel
theorem dX0_missesUntilShaken_47 : decode cX0_missesUntilShaken 47 = .ok (.if_icmp .le 9, 3) := by decide +kernel
theorem dX0_missesUntilShaken_50 : decode cX0_missesUntilShaken 50 = .ok (.iinc 4 1, 3) := by decide +kernel
theorem dX0_missesUntilShaken_53 : decode cX0_missesUntilShaken 53 = .ok (.goto (-25), 3) := by decide +kernel
theorem dX0_missesUntilShaken_56 : decode cX0_missesUntilShaken 56 = .ok (.iload 4, 2) := by decide +kernel
theorem dX0_missesUntilShaken_58 : decode cX0_missesUntilShaken 58 = .ok (.ireturn, 1) := by decide +kernel
theorem dX0_nightsUntilCalm_0 : decode cX0_nightsUntilCalm 0 = .ok (.iconst 0, 1) := by decide +kernel
theorem dX0_nightsUntilCalm_1 : decode cX0_nightsUntilCalm 1 = .ok (.istore_n 1, 1) := by decide +kernel
theorem dX0_nightsUntilCalm_2 : decode cX0_nightsUntilCalm 2 = .ok (.iconst 0, 1) := by decide +kernel
theorem dX0_nightsUntilCalm_3 : decode cX0_nightsUntilCalm 3 = .ok (.istore_n 2, 1) := by decide +kernel
theorem dX0_nightsUntilCalm_4 : decode cX0_nightsUntilCalm 4 = .ok (.iload_n 2, 1) := by decide +kernel
theorem dX0_nightsUntilCalm_5 : decode cX0_nightsUntilCalm 5 = .ok (.aload_n 0, 1) := by decide +kernel
theorem dX0_nightsUntilCalm_6 : decode cX0_nightsUntilCalm 6 = .ok (.getfield 59, 3) := by decide +kernel
theorem dX0_nightsUntilCalm_9 : decode cX0_nightsUntilCalm 9 = .ok (.if_icmp .ge 19, 3) := by decide +kernel
theorem dX0_nightsUntilCalm_12 : decode cX0_nightsUntilCalm 12 = .ok (.iload_n 1, 1) := by decide +kernel
theorem dX0_nightsUntilCalm_13 : decode cX0_nightsUntilCalm 13 = .ok (.aload_n 0, 1) := by decide +kernel
theorem dX0_nightsUntilCalm_14 : decode cX0_nightsUntilCalm 14 = .ok (.iload_n 2, 1) := by decide +kernel
theorem dX0_nightsUntilCalm_15 : decode cX0_nightsUntilCalm 15 = .ok (.invokevirtual 160, 3) := by decide +kernel
theorem dX0_nightsUntilCalm_18 : decode cX0_nightsUntilCalm 18 = .ok (.invokestatic 102, 3) := by decide +kernel
theorem dX0_nightsUntilCalm_21 : decode cX0_nightsUntilCalm 21 = .ok (.istore_n 1, 1) := by decide +kernel
theorem dX0_nightsUntilCalm_22 : decode cX0_nightsUntilCalm 22 = .ok (.iinc 2 1, 3) := by decide +kernel
theorem dX0_nightsUntilCalm_25 : decode cX0_nightsUntilCalm 25 = .ok (.goto (-21), 3) := by decide +kernel
theorem dX0_nightsUntilCalm_28 : decode cX0_nightsUntilCalm 28 = .ok (.iload_n 1, 1) := by decide +kernel
theorem dX0_nightsUntilCalm_29 : decode cX0_nightsUntilCalm 29 = .ok (.ireturn, 1) := by decide +kernel
theorem dX0_steadiest_0 : decode cX0_steadiest 0 = .ok (.iconst (-1), 1) := by decide +kernel
theorem dX0_steadiest_1 : decode cX0_steadiest 1 = .ok (.istore_n 1, 1) := by decide +kernel
theorem dX0_steadiest_2 : decode cX0_steadiest 2 = .ok (.iconst (-1), 1) := by decide +kernel
theorem dX0_steadiest_3 : decode cX0_steadiest 3 = .ok (.istore_n 2, 1) := by decide +kernel
theorem dX0_steadiest_4 : decode cX0_steadiest 4 = .ok (.iconst 0, 1) := by decide +kernel
theorem dX0_steadiest_5 : decode cX0_steadiest 5 = .ok (.istore_n 3, 1) := by decide +kernel
theorem dX0_steadiest_6 : decode cX0_steadiest 6 = .ok (.iload_n 3, 1) := by decide +kernel
theorem dX0_steadiest_7 : decode cX0_steadiest 7 = .ok (.aload_n 0, 1) := by decide +kernel
theorem dX0_steadiest_8 : decode cX0_steadiest 8 = .ok (.getfield 59, 3) := by decide +kernel
theorem dX0_steadiest_11 : decode cX0_steadiest 11 = .ok (.if_icmp .ge 37, 3) := by decide +kernel
theorem dX0_steadiest_14 : decode cX0_steadiest 14 = .ok (.aload_n 0, 1) := by decide +kernel
theorem dX0_steadiest_15 : decode cX0_steadiest 15 = .ok (.getfield 29, 3) := by decide +kernel
theorem dX0_steadiest_18 : decode cX0_steadiest 18 = .ok (.iload_n 3, 1) := by decide +kernel
theorem dX0_steadiest_19 : decode cX0_steadiest 19 = .ok (.baload, 1) := by decide +kernel
theorem dX0_steadiest_20 : decode cX0_steadiest 20 = .ok (.ifCond .eq 22, 3) := by decide +kernel
theorem dX0_steadiest_23 : decode cX0_steadiest 23 = .ok (.aload_n 0, 1) := by decide +kernel
theorem dX0_steadiest_24 : decode cX0_steadiest 24 = .ok (.getfield 26, 3) := by decide +kernel
theorem dX0_steadiest_27 : decode cX0_steadiest 27 = .ok (.iload_n 3, 1) := by decide +kernel
theorem dX0_steadiest_28 : decode cX0_steadiest 28 = .ok (.iaload, 1) := by decide +kernel
theorem dX0_steadiest_29 : decode cX0_steadiest 29 = .ok (.iload_n 2, 1) := by decide +kernel
theorem dX0_steadiest_30 : decode cX0_steadiest 30 = .ok (.if_icmp .le 12, 3) := by decide +kernel
theorem dX0_steadiest_33 : decode cX0_steadiest 33 = .ok (.iload_n 3, 1) := by decide +kernel
theorem dX0_steadiest_34 : decode cX0_steadiest 34 = .ok (.istore_n 1, 1) := by decide +kernel
theorem dX0_steadiest_35 : decode cX0_steadiest 35 = .ok (.aload_n 0, 1) := by decide +kernel
theorem dX0_steadiest_36 : decode cX0_steadiest 36 = .ok (.getfield 26, 3) := by decide +kernel
theorem dX0_steadiest_39 : decode cX0_steadiest 39 = .ok (.iload_n 3, 1) := by decide +kernel
theorem dX0_steadiest_40 : decode cX0_steadiest 40 = .ok (.iaload, 1) := by decide +kernel
theorem dX0_steadiest_41 : decode cX0_steadiest 41 = .ok (.istore_n 2, 1) := by decide +kernel
theorem dX0_steadiest_42 : decode cX0_steadiest 42 = .ok (.iinc 3 1, 3) := by decide +kernel
theorem dX0_steadiest_45 : decode cX0_steadiest 45 = .ok (.goto (-39), 3) := by decide +kernel
theorem dX0_steadiest_48 : decode cX0_steadiest 48 = .ok (.iload_n 1, 1) := by decide +kernel
theorem dX0_steadiest_49 : decode cX0_steadiest 49 = .ok (.ireturn, 1) := by decide +kernel
theorem dX0_luckiest_0 : decode cX0_luckiest 0 = .ok (.iconst (-1), 1) := by decide +kernel
theorem dX0_luckiest_1 : decode cX0_luckiest 1 = .ok (.istore_n 1, 1) := by decide +kernel
theorem dX0_luckiest_2 : decode cX0_luckiest 2 = .ok (.iconst (-1), 1) := by decide +kernel
theorem dX0_luckiest_3 : decode cX0_luckiest 3 = .ok (.istore_n 2, 1) := by decide +kernel
theorem dX0_luckiest_4 : decode cX0_luckiest 4 = .ok (.iconst 0, 1) := by decide +kernel
theorem dX0_luckiest_5 : decode cX0_luckiest 5 = .ok (.istore_n 3, 1) := by decide +kernel
theorem dX0_luckiest_6 : decode cX0_luckiest 6 = .ok (.iload_n 3, 1) := by decide +kernel
theorem dX0_luckiest_7 : decode cX0_luckiest 7 = .ok (.aload_n 0, 1) := by decide +kernel
theorem dX0_luckiest_8 : decode cX0_luckiest 8 = .ok (.getfield 48, 3) := by decide +kernel
theorem dX0_luckiest_11 : decode cX0_luckiest 11 = .ok (.if_icmp .ge 37, 3) := by decide +kernel
theorem dX0_luckiest_14 : decode cX0_luckiest 14 = .ok (.aload_n 0, 1) := by decide +kernel
theorem dX0_luckiest_15 : decode cX0_luckiest 15 = .ok (.getfield 9, 3) := by decide +kernel
theorem dX0_luckiest_18 : decode cX0_luckiest 18 = .ok (.iload_n 3, 1) := by decide +kernel
theorem dX0_luckiest_19 : decode cX0_luckiest 19 = .ok (.baload, 1) := by decide +kernel
theorem dX0_luckiest_20 : decode cX0_luckiest 20 = .ok (.ifCond .eq 22, 3) := by decide +kernel
theorem dX0_luckiest_23 : decode cX0_luckiest 23 = .ok (.aload_n 0, 1) := by decide +kernel
theorem dX0_luckiest_24 : decode cX0_luckiest 24 = .ok (.getfield 13, 3) := by decide +kernel
theorem dX0_luckiest_27 : decode cX0_luckiest 27 = .ok (.iload_n 3, 1) := by decide +kernel
theorem dX0_luckiest_28 : decode cX0_luckiest 28 = .ok (.iaload, 1) := by decide +kernel
theorem dX0_luckiest_29 : decode cX0_luckiest 29 = .ok (.iload_n 2, 1) := by decide +kernel
theorem dX0_luckiest_30 : decode cX0_luckiest 30 = .ok (.if_icmp .le 12, 3) := by decide +kernel
theorem dX0_luckiest_33 : decode cX0_luckiest 33 = .ok (.iload_n 3, 1) := by decide +kernel
theorem dX0_luckiest_34 : decode cX0_luckiest 34 = .ok (.istore_n 1, 1) := by decide +kernel
theorem dX0_luckiest_35 : decode cX0_luckiest 35 = .ok (.aload_n 0, 1) := by decide +kernel
theorem dX0_luckiest_36 : decode cX0_luckiest 36 = .ok (.getfield 13, 3) := by decide +kernel
theorem dX0_luckiest_39 : decode cX0_luckiest 39 = .ok (.iload_n 3, 1) := by decide +kernel
theorem dX0_luckiest_40 : decode cX0_luckiest 40 = .ok (.iaload, 1) := by decide +kernel
theorem dX0_luckiest_41 : decode cX0_luckiest 41 = .ok (.istore_n 2, 1) := by decide +kernel
theorem dX0_luckiest_42 : decode cX0_luckiest 42 = .ok (.iinc 3 1, 3) := by decide +kernel
theorem dX0_luckiest_45 : decode cX0_luckiest 45 = .ok (.goto (-39), 3) := by decide +kernel
theorem dX0_luckiest_48 : decode cX0_luckiest 48 = .ok (.iload_n 1, 1) := by decide +kernel
theorem dX0_luckiest_49 : decode cX0_luckiest 49 = .ok (.ireturn, 1) := by decide +kernel
theorem dX0_meanLuck_0 : decode cX0_meanLuck 0 = .ok (.iconst 0, 1) := by decide +kernel
theorem dX0_meanLuck_1 : decode cX0_meanLuck 1 = .ok (.istore_n 1, 1) := by decide +kernel
theorem dX0_meanLuck_2 : decode cX0_meanLuck 2 = .ok (.iconst 0, 1) := by decide +kernel
theorem dX0_meanLuck_3 : decode cX0_meanLuck 3 = .ok (.istore_n 2, 1) := by decide +kernel
theorem dX0_meanLuck_4 : decode cX0_meanLuck 4 = .ok (.iconst 0, 1) := by decide +kernel
theorem dX0_meanLuck_5 : decode cX0_meanLuck 5 = .ok (.istore_n 3, 1) := by decide +kernel
theorem dX0_meanLuck_6 : decode cX0_meanLuck 6 = .ok (.iload_n 3, 1) := by decide +kernel
theorem dX0_meanLuck_7 : decode cX0_meanLuck 7 = .ok (.aload_n 0, 1) := by decide +kernel
theorem dX0_meanLuck_8 : decode cX0_meanLuck 8 = .ok (.getfield 48, 3) := by decide +kernel
theorem dX0_meanLuck_11 : decode cX0_meanLuck 11 = .ok (.if_icmp .ge 30, 3) := by decide +kernel
theorem dX0_meanLuck_14 : decode cX0_meanLuck 14 = .ok (.aload_n 0, 1) := by decide +kernel
theorem dX0_meanLuck_15 : decode cX0_meanLuck 15 = .ok (.getfield 9, 3) := by decide +kernel
theorem dX0_meanLuck_18 : decode cX0_meanLuck 18 = .ok (.iload_n 3, 1) := by decide +kernel
theorem dX0_meanLuck_19 : decode cX0_meanLuck 19 = .ok (.baload, 1) := by decide +kernel
theorem dX0_meanLuck_20 : decode cX0_meanLuck 20 = .ok (.ifCond .eq 15, 3) := by decide +kernel
theorem dX0_meanLuck_23 : decode cX0_meanLuck 23 = .ok (.iinc 1 1, 3) := by decide +kernel
theorem dX0_meanLuck_26 : decode cX0_meanLuck 26 = .ok (.iload_n 2, 1) := by decide +kernel
theorem dX0_meanLuck_27 : decode cX0_meanLuck 27 = .ok (.aload_n 0, 1) := by decide +kernel
theorem dX0_meanLuck_28 : decode cX0_meanLuck 28 = .ok (.getfield 13, 3) := by decide +kernel
theorem dX0_meanLuck_31 : decode cX0_meanLuck 31 = .ok (.iload_n 3, 1) := by decide +kernel
theorem dX0_meanLuck_32 : decode cX0_meanLuck 32 = .ok (.iaload, 1) := by decide +kernel
theorem dX0_meanLuck_33 : decode cX0_meanLuck 33 = .ok (.iadd, 1) := by decide +kernel
theorem dX0_meanLuck_34 : decode cX0_meanLuck 34 = .ok (.istore_n 2, 1) := by decide +kernel
theorem dX0_meanLuck_35 : decode cX0_meanLuck 35 = .ok (.iinc 3 1, 3) := by decide +kernel
theorem dX0_meanLuck_38 : decode cX0_meanLuck 38 = .ok (.goto (-32), 3) := by decide +kernel
theorem dX0_meanLuck_41 : decode cX0_meanLuck 41 = .ok (.iload_n 1, 1) := by decide +kernel
theorem dX0_meanLuck_42 : decode cX0_meanLuck 42 = .ok (.ifCond .ne 5, 3) := by decide +kernel
theorem dX0_meanLuck_45 : decode cX0_meanLuck 45 = .ok (.dconst 0, 1) := by decide +kernel
theorem dX0_meanLuck_46 : decode cX0_meanLuck 46 = .ok (.dreturn, 1) := by decide +kernel
theorem dX0_meanLuck_47 : decode cX0_meanLuck 47 = .ok (.iload_n 2, 1) := by decide +kernel
theorem dX0_meanLuck_48 : decode cX0_meanLuck 48 = .ok (.i2d, 1) := by decide +kernel
theorem dX0_meanLuck_49 : decode cX0_meanLuck 49 = .ok (.iload_n 1, 1) := by decide +kernel
theorem dX0_meanLuck_50 : decode cX0_meanLuck 50 = .ok (.i2d, 1) := by decide +kernel
theorem dX0_meanLuck_51 : decode cX0_meanLuck 51 = .ok (.ddiv, 1) := by decide +kernel
theorem dX0_meanLuck_52 : decode cX0_meanLuck 52 = .ok (.dreturn, 1) := by decide +kernel
theorem dX0_isPerson_0 : decode cX0_isPerson 0 = .ok (.iload_n 1, 1) := by decide +kernel
theorem dX0_isPerson_1 : decode cX0_isPerson 1 = .ok (.ifCond .lt 15, 3) := by decide +kernel
theorem dX0_isPerson_4 : decode cX0_isPerson 4 = .ok (.iload_n 1, 1) := by decide +kernel
theorem dX0_isPerson_5 : decode cX0_isPerson 5 = .ok (.aload_n 0, 1) := by decide +kernel
theorem dX0_isPerson_6 : decode cX0_isPerson 6 = .ok (.getfield 48, 3) := by decide +kernel
theorem dX0_isPerson_9 : decode cX0_isPerson 9 = .ok (.if_icmp .ge 7, 3) := by decide +kernel
theorem dX0_isPerson_12 : decode cX0_isPerson 12 = .ok (.iconst 1, 1) := by decide +kernel
theorem dX0_isPerson_13 : decode cX0_isPerson 13 = .ok (.goto 4, 3) := by decide +kernel
theorem dX0_isPerson_16 : decode cX0_isPerson 16 = .ok (.iconst 0, 1) := by decide +kernel
theorem dX0_isPerson_17 : decode cX0_isPerson 17 = .ok (.ireturn, 1) := by decide +kernel
theorem dX0_isWitness_0 : decode cX0_isWitness 0 = .ok (.iload_n 1, 1) := by decide +kernel
theorem dX0_isWitness_1 : decode cX0_isWitness 1 = .ok (.ifCond .lt 15, 3) := by decide +kernel
theorem dX0_isWitness_4 : decode cX0_isWitness 4 = .ok (.iload_n 1, 1) := by decide +kernel
theorem dX0_isWitness_5 : decode cX0_isWitness 5 = .ok (.aload_n 0, 1) := by decide +kernel
theorem dX0_isWitness_6 : decode cX0_isWitness 6 = .ok (.getfield 59, 3) := by decide +kernel
theorem dX0_isWitness_9 : decode cX0_isWitness 9 = .ok (.if_icmp .ge 7, 3) := by decide +kernel
theorem dX0_isWitness_12 : decode cX0_isWitness 12 = .ok (.iconst 1, 1) := by decide +kernel
theorem dX0_isWitness_13 : decode cX0_isWitness 13 = .ok (.goto 4, 3) := by decide +kernel
theorem dX0_isWitness_16 : decode cX0_isWitness 16 = .ok (.iconst 0, 1) := by decide +kernel
theorem dX0_isWitness_17 : decode cX0_isWitness 17 = .ok (.ireturn, 1) := by decide +kernel
theorem dX0_isShaken_0 : decode cX0_isShaken 0 = .ok (.aload_n 0, 1) := by decide +kernel
theorem dX0_isShaken_1 : decode cX0_isShaken 1 = .ok (.getfield 26, 3) := by decide +kernel
theorem dX0_isShaken_4 : decode cX0_isShaken 4 = .ok (.iload_n 1, 1) := by decide +kernel
theorem dX0_isShaken_5 : decode cX0_isShaken 5 = .ok (.iaload, 1) := by decide +kernel
theorem dX0_isShaken_6 : decode cX0_isShaken 6 = .ok (.iconst 2, 1) := by decide +kernel
theorem dX0_isShaken_7 : decode cX0_isShaken 7 = .ok (.if_icmp .gt 7, 3) := by decide +kernel
theorem dX0_isShaken_10 : decode cX0_isShaken 10 = .ok (.iconst 1, 1) := by decide +kernel
theorem dX0_isShaken_11 : decode cX0_isShaken 11 = .ok (.goto 4, 3) := by decide +kernel
theorem dX0_isShaken_14 : decode cX0_isShaken 14 = .ok (.iconst 0, 1) := by decide +kernel
theorem dX0_isShaken_15 : decode cX0_isShaken 15 = .ok (.ireturn, 1) := by decide +kernel
theorem dX0_requirePerson_0 : decode cX0_requirePerson 0 = .ok (.aload_n 0, 1) := by decide +kernel
theorem dX0_requirePerson_1 : decode cX0_requirePerson 1 = .ok (.iload_n 1, 1) := by decide +kernel
theorem dX0_requirePerson_2 : decode cX0_requirePerson 2 = .ok (.invokevirtual 117, 3) := by decide +kernel
theorem dX0_requirePerson_5 : decode cX0_requirePerson 5 = .ok (.ifCond .ne 13, 3) := by decide +kernel
theorem dX0_requirePerson_8 : decode cX0_requirePerson 8 = .ok (.new 184, 3) := by decide +kernel
theorem dX0_requirePerson_11 : decode cX0_requirePerson 11 = .ok (.dup, 1) := by decide +kernel
theorem dX0_requirePerson_12 : decode cX0_requirePerson 12 = .ok (.ldc 186, 2) := by decide +kernel
theorem dX0_requirePerson_14 : decode cX0_requirePerson 14 = .ok (.invokespecial 188, 3) := by decide +kernel
theorem dX0_requirePerson_17 : decode cX0_requirePerson 17 = .ok (.athrow, 1) := by decide +kernel
theorem dX0_requirePerson_18 : decode cX0_requirePerson 18 = .ok (.return_, 1) := by decide +kernel
theorem dX0_requireAlive_0 : decode cX0_requireAlive 0 = .ok (.aload_n 0, 1) := by decide +kernel
theorem dX0_requireAlive_1 : decode cX0_requireAlive 1 = .ok (.getfield 9, 3) := by decide +kernel
theorem dX0_requireAlive_4 : decode cX0_requireAlive 4 = .ok (.iload_n 1, 1) := by decide +kernel
theorem dX0_requireAlive_5 : decode cX0_requireAlive 5 = .ok (.baload, 1) := by decide +kernel
theorem dX0_requireAlive_6 : decode cX0_requireAlive 6 = .ok (.ifCond .ne 13, 3) := by decide +kernel
theorem dX0_requireAlive_9 : decode cX0_requireAlive 9 = .ok (.new 52, 3) := by decide +kernel
theorem dX0_requireAlive_12 : decode cX0_requireAlive 12 = .ok (.dup, 1) := by decide +kernel
theorem dX0_requireAlive_13 : decode cX0_requireAlive 13 = .ok (.ldc 189, 2) := by decide +kernel
theorem dX0_requireAlive_15 : decode cX0_requireAlive 15 = .ok (.invokespecial 56, 3) := by decide +kernel
theorem dX0_requireAlive_18 : decode cX0_requireAlive 18 = .ok (.athrow, 1) := by decide +kernel
theorem dX0_requireAlive_19 : decode cX0_requireAlive 19 = .ok (.return_, 1) := by decide +kernel
theorem dX0_requireWitness_0 : decode cX0_requireWitness 0 = .ok (.aload_n 0, 1) := by decide +kernel
theorem dX0_requireWitness_1 : decode cX0_requireWitness 1 = .ok (.iload_n 1, 1) := by decide +kernel
theorem dX0_requireWitness_2 : decode cX0_requireWitness 2 = .ok (.invokevirtual 157, 3) := by decide +kernel
theorem dX0_requireWitness_5 : decode cX0_requireWitness 5 = .ok (.ifCond .ne 13, 3) := by decide +kernel
theorem dX0_requireWitness_8 : decode cX0_requireWitness 8 = .ok (.new 184, 3) := by decide +kernel
theorem dX0_requireWitness_11 : decode cX0_requireWitness 11 = .ok (.dup, 1) := by decide +kernel
theorem dX0_requireWitness_12 : decode cX0_requireWitness 12 = .ok (.ldc 191, 2) := by decide +kernel
theorem dX0_requireWitness_14 : decode cX0_requireWitness 14 = .ok (.invokespecial 188, 3) := by decide +kernel
theorem dX0_requireWitness_17 : decode cX0_requireWitness 17 = .ok (.athrow, 1) := by decide +kernel
theorem dX0_requireWitness_18 : decode cX0_requireWitness 18 = .ok (.return_, 1) := by decide +kernel
theorem dX0_requireMiss_0 : decode cX0_requireMiss 0 = .ok (.iload_n 1, 1) := by decide +kernel
theorem dX0_requireMiss_1 : decode cX0_requireMiss 1 = .ok (.ifCond .lt 11, 3) := by decide +kernel
theorem dX0_requireMiss_4 : decode cX0_requireMiss 4 = .ok (.iload_n 1, 1) := by decide +kernel
theorem dX0_requireMiss_5 : decode cX0_requireMiss 5 = .ok (.aload_n 0, 1) := by decide +kernel
theorem dX0_requireMiss_6 : decode cX0_requireMiss 6 = .ok (.getfield 90, 3) := by decide +kernel
theorem dX0_requireMiss_9 : decode cX0_requireMiss 9 = .ok (.if_icmp .lt 13, 3) := by decide +kernel
theorem dX0_requireMiss_12 : decode cX0_requireMiss 12 = .ok (.new 184, 3) := by decide +kernel
theorem dX0_requireMiss_15 : decode cX0_requireMiss 15 = .ok (.dup, 1) := by decide +kernel
theorem dX0_requireMiss_16 : decode cX0_requireMiss 16 = .ok (.ldc 193, 2) := by decide +kernel
theorem dX0_requireMiss_18 : decode cX0_requireMiss 18 = .ok (.invokespecial 188, 3) := by decide +kernel
theorem dX0_requireMiss_21 : decode cX0_requireMiss 21 = .ok (.athrow, 1) := by decide +kernel
theorem dX0_requireMiss_22 : decode cX0_requireMiss 22 = .ok (.return_, 1) := by decide +kernel
theorem dX0_requireInches_0 : decode cX0_requireInches 0 = .ok (.iload_n 1, 1) := by decide +kernel
theorem dX0_requireInches_1 : decode cX0_requireInches 1 = .ok (.iconst 1, 1) := by decide +kernel
theorem dX0_requireInches_2 : decode cX0_requireInches 2 = .ok (.if_icmp .lt 9, 3) := by decide +kernel
theorem dX0_requireInches_5 : decode cX0_requireInches 5 = .ok (.iload_n 1, 1) := by decide +kernel
theorem dX0_requireInches_6 : decode cX0_requireInches 6 = .ok (.bipush 60, 2) := by decide +kernel
theorem dX0_requireInches_8 : decode cX0_requireInches 8 = .ok (.if_icmp .le 13, 3) := by decide +kernel
theorem dX0_requireInches_11 : decode cX0_requireInches 11 = .ok (.new 41, 3) := by decide +kernel
theorem dX0_requireInches_14 : decode cX0_requireInches 14 = .ok (.dup, 1) := by decide +kernel
theorem dX0_requireInches_15 : decode cX0_requireInches 15 = .ok (.ldc 195, 2) := by decide +kernel
theorem dX0_requireInches_17 : decode cX0_requireInches 17 = .ok (.invokespecial 45, 3) := by decide +kernel
theorem dX0_requireInches_20 : decode cX0_requireInches 20 = .ok (.athrow, 1) := by decide +kernel
theorem dX0_requireInches_21 : decode cX0_requireInches 21 = .ok (.return_, 1) := by decide +kernel
theorem dX0_fatePrice_0 : decode cX0_fatePrice 0 = .ok (.iconst 5, 1) := by decide +kernel
theorem dX0_fatePrice_1 : decode cX0_fatePrice 1 = .ok (.bipush 99, 2) := by decide +kernel
theorem dX0_fatePrice_3 : decode cX0_fatePrice 3 = .ok (.aload_n 0, 1) := by decide +kernel
theorem dX0_fatePrice_4 : decode cX0_fatePrice 4 = .ok (.getfield 13, 3) := by decide +kernel
theorem dX0_fatePrice_7 : decode cX0_fatePrice 7 = .ok (.iload_n 1, 1) := by decide +kernel
theorem dX0_fatePrice_8 : decode cX0_fatePrice 8 = .ok (.iaload, 1) := by decide +kernel
theorem dX0_fatePrice_9 : decode cX0_fatePrice 9 = .ok (.isub, 1) := by decide +kernel
theorem dX0_fatePrice_10 : decode cX0_fatePrice 10 = .ok (.bipush 10, 2) := by decide +kernel
theorem dX0_fatePrice_12 : decode cX0_fatePrice 12 = .ok (.idiv, 1) := by decide +kernel
theorem dX0_fatePrice_13 : decode cX0_fatePrice 13 = .ok (.iadd, 1) := by decide +kernel
theorem dX0_fatePrice_14 : decode cX0_fatePrice 14 = .ok (.ireturn, 1) := by decide +kernel
theorem dX0_findLastHeir_0 : decode cX0_findLastHeir 0 = .ok (.aload_n 0, 1) := by decide +kernel
theorem dX0_findLastHeir_1 : decode cX0_findLastHeir 1 = .ok (.getfield 23, 3) := by decide +kernel
theorem dX0_findLastHeir_4 : decode cX0_findLastHeir 4 = .ok (.iload_n 1, 1) := by decide +kernel
theorem dX0_findLastHeir_5 : decode cX0_findLastHeir 5 = .ok (.iaload, 1) := by decide +kernel
theorem dX0_findLastHeir_6 : decode cX0_findLastHeir 6 = .ok (.istore_n 2, 1) := by decide +kernel
theorem dX0_findLastHeir_7 : decode cX0_findLastHeir 7 = .ok (.iconst 0, 1) := by decide +kernel
theorem dX0_findLastHeir_8 : decode cX0_findLastHeir 8 = .ok (.istore_n 3, 1) := by decide +kernel
theorem dX0_findLastHeir_9 : decode cX0_findLastHeir 9 = .ok (.iload_n 3, 1) := by decide +kernel
theorem dX0_findLastHeir_10 : decode cX0_findLastHeir 10 = .ok (.aload_n 0, 1) := by decide +kernel
theorem dX0_findLastHeir_11 : decode cX0_findLastHeir 11 = .ok (.getfield 48, 3) := by decide +kernel
theorem dX0_findLastHeir_14 : decode cX0_findLastHeir 14 = .ok (.if_icmp .ge 42, 3) := by decide +kernel
theorem dX0_findLastHeir_17 : decode cX0_findLastHeir 17 = .ok (.aload_n 0, 1) := by decide +kernel
theorem dX0_findLastHeir_18 : decode cX0_findLastHeir 18 = .ok (.iload_n 2, 1) := by decide +kernel
theorem dX0_findLastHeir_19 : decode cX0_findLastHeir 19 = .ok (.invokevirtual 117, 3) := by decide +kernel
theorem dX0_findLastHeir_22 : decode cX0_findLastHeir 22 = .ok (.ifCond .eq 8, 3) := by decide +kernel
theorem dX0_findLastHeir_25 : decode cX0_findLastHeir 25 = .ok (.iload_n 2, 1) := by decide +kernel
theorem dX0_findLastHeir_26 : decode cX0_findLastHeir 26 = .ok (.iload_n 1, 1) := by decide +kernel
theorem dX0_findLastHeir_27 : decode cX0_findLastHeir 27 = .ok (.if_icmp .ne 5, 3) := by decide +kernel
theorem dX0_findLastHeir_30 : decode cX0_findLastHeir 30 = .ok (.iconst (-1), 1) := by decide +kernel
theorem dX0_findLastHeir_31 : decode cX0_findLastHeir 31 = .ok (.ireturn, 1) := by decide +kernel
theorem dX0_findLastHeir_32 : decode cX0_findLastHeir 32 = .ok (.aload_n 0, 1) := by decide +kernel
theorem dX0_findLastHeir_33 : decode cX0_findLastHeir 33 = .ok (.getfield 9, 3) := by decide +kernel
theorem dX0_findLastHeir_36 : decode cX0_findLastHeir 36 = .ok (.iload_n 2, 1) := by decide +kernel
theorem dX0_findLastHeir_37 : decode cX0_findLastHeir 37 = .ok (.baload, 1) := by decide +kernel
theorem dX0_findLastHeir_38 : decode cX0_findLastHeir 38 = .ok (.ifCond .eq 5, 3) := by decide +kernel
theorem dX0_findLastHeir_41 : decode cX0_findLastHeir 41 = .ok (.iload_n 2, 1) := by decide +kernel
theorem dX0_findLastHeir_42 : decode cX0_findLastHeir 42 = .ok (.ireturn, 1) := by decide +kernel
theorem dX0_findLastHeir_43 : decode cX0_findLastHeir 43 = .ok (.aload_n 0, 1) := by decide +kernel
theorem dX0_findLastHeir_44 : decode cX0_findLastHeir 44 = .ok (.getfield 23, 3) := by decide +kernel
theorem dX0_findLastHeir_47 : decode cX0_findLastHeir 47 = .ok (.iload_n 2, 1) := by decide +kernel
theorem dX0_findLastHeir_48 : decode cX0_findLastHeir 48 = .ok (.iaload, 1) := by decide +kernel
theorem dX0_findLastHeir_49 : decode cX0_findLastHeir 49 = .ok (.istore_n 2, 1) := by decide +kernel
theorem dX0_findLastHeir_50 : decode cX0_findLastHeir 50 = .ok (.iinc 3 1, 3) := by decide +kernel
theorem dX0_findLastHeir_53 : decode cX0_findLastHeir 53 = .ok (.goto (-44), 3) := by decide +kernel
theorem dX0_findLastHeir_56 : decode cX0_findLastHeir 56 = .ok (.iconst (-1), 1) := by decide +kernel
theorem dX0_findLastHeir_57 : decode cX0_findLastHeir 57 = .ok (.ireturn, 1) := by decide +kernel
theorem dX0_tale_0 : decode cX0_tale 0 = .ok (.aload_n 0, 1) := by decide +kernel
theorem dX0_tale_1 : decode cX0_tale 1 = .ok (.iload_n 1, 1) := by decide +kernel
theorem dX0_tale_2 : decode cX0_tale 2 = .ok (.invokevirtual 136, 3) := by decide +kernel
theorem dX0_tale_5 : decode cX0_tale 5 = .ok (.ifCond .eq 5, 3) := by decide +kernel
theorem dX0_tale_8 : decode cX0_tale 8 = .ok (.iconst 0, 1) := by decide +kernel
theorem dX0_tale_9 : decode cX0_tale 9 = .ok (.ireturn, 1) := by decide +kernel
theorem dX0_tale_10 : decode cX0_tale 10 = .ok (.iconst 1, 1) := by decide +kernel
theorem dX0_tale_11 : decode cX0_tale 11 = .ok (.iload_n 2, 1) := by decide +kernel
theorem dX0_tale_12 : decode cX0_tale 12 = .ok (.bipush 9, 2) := by decide +kernel
theorem dX0_tale_14 : decode cX0_tale 14 = .ok (.aload_n 0, 1) := by decide +kernel
theorem dX0_tale_15 : decode cX0_tale 15 = .ok (.getfield 26, 3) := by decide +kernel
theorem dX0_tale_18 : decode cX0_tale 18 = .ok (.iload_n 1, 1) := by decide +kernel
theorem dX0_tale_19 : decode cX0_tale 19 = .ok (.iaload, 1) := by decide +kernel
theorem dX0_tale_20 : decode cX0_tale 20 = .ok (.isub, 1) := by decide +kernel
theorem dX0_tale_21 : decode cX0_tale 21 = .ok (.iconst 2, 1) := by decide +kernel
theorem dX0_tale_22 : decode cX0_tale 22 = .ok (.idiv, 1) := by decide +kernel
theorem dX0_tale_23 : decode cX0_tale 23 = .ok (.isub, 1) := by decide +kernel
theorem dX0_tale_24 : decode cX0_tale 24 = .ok (.invokestatic 102, 3) := by decide +kernel
theorem dX0_tale_27 : decode cX0_tale 27 = .ok (.ireturn, 1) := by decide +kernel
theorem dX0_middleTale_0 : decode cX0_middleTale 0 = .ok (.iconst 0, 1) := by decide +kernel
theorem dX0_middleTale_1 : decode cX0_middleTale 1 = .ok (.istore_n 2, 1) := by decide +kernel
theorem dX0_middleTale_2 : decode cX0_middleTale 2 = .ok (.iconst 0, 1) := by decide +kernel
theorem dX0_middleTale_3 : decode cX0_middleTale 3 = .ok (.istore_n 3, 1) := by decide +kernel
theorem dX0_middleTale_4 : decode cX0_middleTale 4 = .ok (.iload_n 3, 1) := by decide +kernel
theorem dX0_middleTale_5 : decode cX0_middleTale 5 = .ok (.aload_n 0, 1) := by decide +kernel
theorem dX0_middleTale_6 : decode cX0_middleTale 6 = .ok (.getfield 59, 3) := by decide +kernel
theorem dX0_middleTale_9 : decode cX0_middleTale 9 = .ok (.if_icmp .ge 40, 3) := by decide +kernel
theorem dX0_middleTale_12 : decode cX0_middleTale 12 = .ok (.aload_n 0, 1) := by decide +kernel
theorem dX0_middleTale_13 : decode cX0_middleTale 13 = .ok (.getfield 29, 3) := by decide +kernel
theorem dX0_middleTale_16 : decode cX0_middleTale 16 = .ok (.iload_n 3, 1) := by decide +kernel
theorem dX0_middleTale_17 : decode cX0_middleTale 17 = .ok (.baload, 1) := by decide +kernel
theorem dX0_middleTale_18 : decode cX0_middleTale 18 = .ok (.ifCond .eq 25, 3) := by decide +kernel
theorem dX0_middleTale_21 : decode cX0_middleTale 21 = .ok (.aload_n 0, 1) := by decide +kernel
theorem dX0_middleTale_22 : decode cX0_middleTale 22 = .ok (.iload_n 3, 1) := by decide +kernel
theorem dX0_middleTale_23 : decode cX0_middleTale 23 = .ok (.invokevirtual 136, 3) := by decide +kernel
theorem dX0_middleTale_26 : decode cX0_middleTale 26 = .ok (.ifCond .ne 17, 3) := by decide +kernel
theorem dX0_middleTale_29 : decode cX0_middleTale 29 = .ok (.aload_n 0, 1) := by decide +kernel
theorem dX0_middleTale_30 : decode cX0_middleTale 30 = .ok (.iload_n 2, 1) := by decide +kernel
theorem dX0_middleTale_31 : decode cX0_middleTale 31 = .ok (.aload_n 0, 1) := by decide +kernel
theorem dX0_middleTale_32 : decode cX0_middleTale 32 = .ok (.iload_n 3, 1) := by decide +kernel
theorem dX0_middleTale_33 : decode cX0_middleTale 33 = .ok (.iload_n 1, 1) := by decide +kernel
theorem dX0_middleTale_34 : decode cX0_middleTale 34 = .ok (.invokevirtual 142, 3) := by decide +kernel
theorem dX0_middleTale_37 : decode cX0_middleTale 37 = .ok (.invokevirtual 197, 3) := by decide +kernel
theorem dX0_middleTale_40 : decode cX0_middleTale 40 = .ok (.iinc 2 1, 3) := by decide +kernel
theorem dX0_middleTale_43 : decode cX0_middleTale 43 = .ok (.iinc 3 1, 3) := by decide +kernel
theorem dX0_middleTale_46 : decode cX0_middleTale 46 = .ok (.goto (-42), 3) := by decide +kernel
theorem dX0_middleTale_49 : decode cX0_middleTale 49 = .ok (.iload_n 2, 1) := by decide +kernel
theorem dX0_middleTale_50 : decode cX0_middleTale 50 = .ok (.ifCond .ne 5, 3) := by decide +kernel
theorem dX0_middleTale_53 : decode cX0_middleTale 53 = .ok (.iconst 0, 1) := by decide +kernel
theorem dX0_middleTale_54 : decode cX0_middleTale 54 = .ok (.ireturn, 1) := by decide +kernel
theorem dX0_middleTale_55 : decode cX0_middleTale 55 = .ok (.aload_n 0, 1) := by decide +kernel
theorem dX0_middleTale_56 : decode cX0_middleTale 56 = .ok (.getfield 32, 3) := by decide +kernel
theorem dX0_middleTale_59 : decode cX0_middleTale 59 = .ok (.iload_n 2, 1) := by decide +kernel
theorem dX0_middleTale_60 : decode cX0_middleTale 60 = .ok (.iconst 1, 1) := by decide +kernel
theorem dX0_middleTale_61 : decode cX0_middleTale 61 = .ok (.isub, 1) := by decide +kernel
theorem dX0_middleTale_62 : decode cX0_middleTale 62 = .ok (.iconst 2, 1) := by decide +kernel
theorem dX0_middleTale_63 : decode cX0_middleTale 63 = .ok (.idiv, 1) := by decide +kernel
theorem dX0_middleTale_64 : decode cX0_middleTale 64 = .ok (.iaload, 1) := by decide +kernel
theorem dX0_middleTale_65 : decode cX0_middleTale 65 = .ok (.ireturn, 1) := by decide +kernel
theorem dX0_insertTale_0 : decode cX0_insertTale 0 = .ok (.iload_n 1, 1) := by decide +kernel
theorem dX0_insertTale_1 : decode cX0_insertTale 1 = .ok (.istore_n 3, 1) := by decide +kernel
theorem dX0_insertTale_2 : decode cX0_insertTale 2 = .ok (.iload_n 3, 1) := by decide +kernel
theorem dX0_insertTale_3 : decode cX0_insertTale 3 = .ok (.ifCond .le 35, 3) := by decide +kernel
theorem dX0_insertTale_6 : decode cX0_insertTale 6 = .ok (.aload_n 0, 1) := by decide +kernel
theorem dX0_insertTale_7 : decode cX0_insertTale 7 = .ok (.getfield 32, 3) := by decide +kernel
theorem dX0_insertTale_10 : decode cX0_insertTale 10 = .ok (.iload_n 3, 1) := by decide +kernel
theorem dX0_insertTale_11 : decode cX0_insertTale 11 = .ok (.iconst 1, 1) := by decide +kernel
theorem dX0_insertTale_12 : decode cX0_insertTale 12 = .ok (.isub, 1) := by decide +kernel
theorem dX0_insertTale_13 : decode cX0_insertTale 13 = .ok (.iaload, 1) := by decide +kernel
theorem dX0_insertTale_14 : decode cX0_insertTale 14 = .ok (.iload_n 2, 1) := by decide +kernel
theorem dX0_insertTale_15 : decode cX0_insertTale 15 = .ok (.if_icmp .le 23, 3) := by decide +kernel
theorem dX0_insertTale_18 : decode cX0_insertTale 18 = .ok (.aload_n 0, 1) := by decide +kernel
theorem dX0_insertTale_19 : decode cX0_insertTale 19 = .ok (.getfield 32, 3) := by decide +kernel
theorem dX0_insertTale_22 : decode cX0_insertTale 22 = .ok (.iload_n 3, 1) := by decide +kernel
theorem dX0_insertTale_23 : decode cX0_insertTale 23 = .ok (.aload_n 0, 1) := by decide +kernel
theorem dX0_insertTale_24 : decode cX0_insertTale 24 = .ok (.getfield 32, 3) := by decide +kernel
theorem dX0_insertTale_27 : decode cX0_insertTale 27 = .ok (.iload_n 3, 1) := by decide +kernel
theorem dX0_insertTale_28 : decode cX0_insertTale 28 = .ok (.iconst 1, 1) := by decide +kernel
theorem dX0_insertTale_29 : decode cX0_insertTale 29 = .ok (.isub, 1) := by decide +kernel
theorem dX0_insertTale_30 : decode cX0_insertTale 30 = .ok (.iaload, 1) := by decide +kernel
theorem dX0_insertTale_31 : decode cX0_insertTale 31 = .ok (.iastore, 1) := by decide +kernel
theorem dX0_insertTale_32 : decode cX0_insertTale 32 = .ok (.iinc 3 (-1), 3) := by decide +kernel
theorem dX0_insertTale_35 : decode cX0_insertTale 35 = .ok (.goto (-33), 3) := by decide +kernel
theorem dX0_insertTale_38 : decode cX0_insertTale 38 = .ok (.aload_n 0, 1) := by decide +kernel
theorem dX0_insertTale_39 : decode cX0_insertTale 39 = .ok (.getfield 32, 3) := by decide +kernel
theorem dX0_insertTale_42 : decode cX0_insertTale 42 = .ok (.iload_n 3, 1) := by decide +kernel
theorem dX0_insertTale_43 : decode cX0_insertTale 43 = .ok (.iload_n 2, 1) := by decide +kernel
theorem dX0_insertTale_44 : decode cX0_insertTale 44 = .ok (.iastore, 1) := by decide +kernel
theorem dX0_insertTale_45 : decode cX0_insertTale 45 = .ok (.return_, 1) := by decide +kernel
theorem dX0_usesFate_0 : decode cX0_usesFate 0 = .ok (.aload_n 0, 1) := by decide +kernel
theorem dX0_usesFate_1 : decode cX0_usesFate 1 = .ok (.getfield 9, 3) := by decide +kernel
theorem dX0_usesFate_4 : decode cX0_usesFate 4 = .ok (.iload_n 1, 1) := by decide +kernel
theorem dX0_usesFate_5 : decode cX0_usesFate 5 = .ok (.baload, 1) := by decide +kernel
theorem dX0_usesFate_6 : decode cX0_usesFate 6 = .ok (.ifCond .eq 26, 3) := by decide +kernel
theorem dX0_usesFate_9 : decode cX0_usesFate 9 = .ok (.aload_n 0, 1) := by decide +kernel
theorem dX0_usesFate_10 : decode cX0_usesFate 10 = .ok (.getfield 20, 3) := by decide +kernel
theorem dX0_usesFate_13 : decode cX0_usesFate 13 = .ok (.iload_n 1, 1) := by decide +kernel
theorem dX0_usesFate_14 : decode cX0_usesFate 14 = .ok (.iaload, 1) := by decide +kernel
theorem dX0_usesFate_15 : decode cX0_usesFate 15 = .ok (.ifCond .le 17, 3) := by decide +kernel
theorem dX0_usesFate_18 : decode cX0_usesFate 18 = .ok (.iload_n 2, 1) := by decide +kernel
theorem dX0_usesFate_19 : decode cX0_usesFate 19 = .ok (.ifCond .le 13, 3) := by decide +kernel
theorem dX0_usesFate_22 : decode cX0_usesFate 22 = .ok (.iload_n 2, 1) := by decide +kernel
theorem dX0_usesFate_23 : decode cX0_usesFate 23 = .ok (.bipush 24, 2) := by decide +kernel
theorem dX0_usesFate_25 : decode cX0_usesFate 25 = .ok (.if_icmp .gt 7, 3) := by decide +kernel
theorem dX0_usesFate_28 : decode cX0_usesFate 28 = .ok (.iconst 1, 1) := by decide +kernel
theorem dX0_usesFate_29 : decode cX0_usesFate 29 = .ok (.goto 4, 3) := by decide +kernel
theorem dX0_usesFate_32 : decode cX0_usesFate 32 = .ok (.iconst 0, 1) := by decide +kernel
theorem dX0_usesFate_33 : decode cX0_usesFate 33 = .ok (.ireturn, 1) := by decide +kernel
theorem dX0_refundCoins_0 : decode cX0_refundCoins 0 = .ok (.aload_n 0, 1) := by decide +kernel
theorem dX0_refundCoins_1 : decode cX0_refundCoins 1 = .ok (.iload_n 1, 1) := by decide +kernel
theorem dX0_refundCoins_2 : decode cX0_refundCoins 2 = .ok (.iload_n 2, 1) := by decide +kernel
theorem dX0_refundCoins_3 : decode cX0_refundCoins 3 = .ok (.invokevirtual 200, 3) := by decide +kernel
theorem dX0_refundCoins_6 : decode cX0_refundCoins 6 = .ok (.ifCond .ne 5, 3) := by decide +kernel
theorem dX0_refundCoins_9 : decode cX0_refundCoins 9 = .ok (.iconst 0, 1) := by decide +kernel
theorem dX0_refundCoins_10 : decode cX0_refundCoins 10 = .ok (.ireturn, 1) := by decide +kernel
theorem dX0_refundCoins_11 : decode cX0_refundCoins 11 = .ok (.aload_n 0, 1) := by decide +kernel
theorem dX0_refundCoins_12 : decode cX0_refundCoins 12 = .ok (.getfield 81, 3) := by decide +kernel
theorem dX0_refundCoins_15 : decode cX0_refundCoins 15 = .ok (.aload_n 0, 1) := by decide +kernel
theorem dX0_refundCoins_16 : decode cX0_refundCoins 16 = .ok (.iload_n 1, 1) := by decide +kernel
theorem dX0_refundCoins_17 : decode cX0_refundCoins 17 = .ok (.invokevirtual 75, 3) := by decide +kernel
theorem dX0_refundCoins_20 : decode cX0_refundCoins 20 = .ok (.bipush 24, 2) := by decide +kernel
theorem dX0_refundCoins_22 : decode cX0_refundCoins 22 = .ok (.iadd, 1) := by decide +kernel
theorem dX0_refundCoins_23 : decode cX0_refundCoins 23 = .ok (.iload_n 2, 1) := by decide +kernel
theorem dX0_refundCoins_24 : decode cX0_refundCoins 24 = .ok (.isub, 1) := by decide +kernel
theorem dX0_refundCoins_25 : decode cX0_refundCoins 25 = .ok (.invokestatic 121, 3) := by decide +kernel
theorem dX0_refundCoins_28 : decode cX0_refundCoins 28 = .ok (.ireturn, 1) := by decide +kernel
theorem dX0_refundFate_0 : decode cX0_refundFate 0 = .ok (.aload_n 0, 1) := by decide +kernel
theorem dX0_refundFate_1 : decode cX0_refundFate 1 = .ok (.iload_n 1, 1) := by decide +kernel
theorem dX0_refundFate_2 : decode cX0_refundFate 2 = .ok (.iload_n 2, 1) := by decide +kernel
theorem dX0_refundFate_3 : decode cX0_refundFate 3 = .ok (.invokevirtual 200, 3) := by decide +kernel
theorem dX0_refundFate_6 : decode cX0_refundFate 6 = .ok (.ifCond .eq 50, 3) := by decide +kernel
theorem dX0_refundFate_9 : decode cX0_refundFate 9 = .ok (.aload_n 0, 1) := by decide +kernel
theorem dX0_refundFate_10 : decode cX0_refundFate 10 = .ok (.iload_n 1, 1) := by decide +kernel
theorem dX0_refundFate_11 : decode cX0_refundFate 11 = .ok (.iload_n 2, 1) := by decide +kernel
theorem dX0_refundFate_12 : decode cX0_refundFate 12 = .ok (.invokevirtual 151, 3) := by decide +kernel
theorem dX0_refundFate_15 : decode cX0_refundFate 15 = .ok (.istore_n 3, 1) := by decide +kernel
theorem dX0_refundFate_16 : decode cX0_refundFate 16 = .ok (.aload_n 0, 1) := by decide +kernel
theorem dX0_refundFate_17 : decode cX0_refundFate 17 = .ok (.getfield 20, 3) := by decide +kernel
theorem dX0_refundFate_20 : decode cX0_refundFate 20 = .ok (.iload_n 1, 1) := by decide +kernel
theorem dX0_refundFate_21 : decode cX0_refundFate 21 = .ok (.dup2, 1) := by decide +kernel
theorem dX0_refundFate_22 : decode cX0_refundFate 22 = .ok (.iaload, 1) := by decide +kernel
theorem dX0_refundFate_23 : decode cX0_refundFate 23 = .ok (.iconst 1, 1) := by decide +kernel
theorem dX0_refundFate_24 : decode cX0_refundFate 24 = .ok (.isub, 1) := by decide +kernel
theorem dX0_refundFate_25 : decode cX0_refundFate 25 = .ok (.iastore, 1) := by decide +kernel
theorem dX0_refundFate_26 : decode cX0_refundFate 26 = .ok (.aload_n 0, 1) := by decide +kernel
theorem dX0_refundFate_27 : decode cX0_refundFate 27 = .ok (.dup, 1) := by decide +kernel
theorem dX0_refundFate_28 : decode cX0_refundFate 28 = .ok (.getfield 81, 3) := by decide +kernel
theorem dX0_refundFate_31 : decode cX0_refundFate 31 = .ok (.iload_n 3, 1) := by decide +kernel
theorem dX0_refundFate_32 : decode cX0_refundFate 32 = .ok (.isub, 1) := by decide +kernel
theorem dX0_refundFate_33 : decode cX0_refundFate 33 = .ok (.putfield 81, 3) := by decide +kernel
theorem dX0_refundFate_36 : decode cX0_refundFate 36 = .ok (.aload_n 0, 1) := by decide +kernel
theorem dX0_refundFate_37 : decode cX0_refundFate 37 = .ok (.getfield 17, 3) := by decide +kernel
theorem dX0_refundFate_40 : decode cX0_refundFate 40 = .ok (.iload_n 1, 1) := by decide +kernel
theorem dX0_refundFate_41 : decode cX0_refundFate 41 = .ok (.dup2, 1) := by decide +kernel
theorem dX0_refundFate_42 : decode cX0_refundFate 42 = .ok (.iaload, 1) := by decide +kernel
theorem dX0_refundFate_43 : decode cX0_refundFate 43 = .ok (.iload_n 3, 1) := by decide +kernel
theorem dX0_refundFate_44 : decode cX0_refundFate 44 = .ok (.iadd, 1) := by decide +kernel
theorem dX0_refundFate_45 : decode cX0_refundFate 45 = .ok (.iastore, 1) := by decide +kernel
theorem dX0_refundFate_46 : decode cX0_refundFate 46 = .ok (.aload_n 0, 1) := by decide +kernel
theorem dX0_refundFate_47 : decode cX0_refundFate 47 = .ok (.dup, 1) := by decide +kernel
theorem dX0_refundFate_48 : decode cX0_refundFate 48 = .ok (.getfield 139, 3) := by decide +kernel
theorem dX0_refundFate_51 : decode cX0_refundFate 51 = .ok (.iload_n 3, 1) := by decide +kernel
theorem dX0_refundFate_52 : decode cX0_refundFate 52 = .ok (.iadd, 1) := by decide +kernel
theorem dX0_refundFate_53 : decode cX0_refundFate 53 = .ok (.putfield 139, 3) := by decide +kernel
theorem dX0_refundFate_56 : decode cX0_refundFate 56 = .ok (.return_, 1) := by decide +kernel
theorem dX0_nerveLoss_0 : decode cX0_nerveLoss 0 = .ok (.iload_n 0, 1) := by decide +kernel
theorem dX0_nerveLoss_1 : decode cX0_nerveLoss 1 = .ok (.iconst 5, 1) := by decide +kernel
theorem dX0_nerveLoss_2 : decode cX0_nerveLoss 2 = .ok (.if_icmp .gt 5, 3) := by decide +kernel
theorem dX0_nerveLoss_5 : decode cX0_nerveLoss 5 = .ok (.iconst 3, 1) := by decide +kernel
theorem dX0_nerveLoss_6 : decode cX0_nerveLoss 6 = .ok (.ireturn, 1) := by decide +kernel
theorem dX0_nerveLoss_7 : decode cX0_nerveLoss 7 = .ok (.iload_n 0, 1) := by decide +kernel
theorem dX0_nerveLoss_8 : decode cX0_nerveLoss 8 = .ok (.bipush 12, 2) := by decide +kernel
theorem dX0_nerveLoss_10 : decode cX0_nerveLoss 10 = .ok (.if_icmp .gt 7, 3) := by decide +kernel
theorem dX0_nerveLoss_13 : decode cX0_nerveLoss 13 = .ok (.iconst 2, 1) := by decide +kernel
theorem dX0_nerveLoss_14 : decode cX0_nerveLoss 14 = .ok (.goto 4, 3) := by decide +kernel
theorem dX0_nerveLoss_17 : decode cX0_nerveLoss 17 = .ok (.iconst 1, 1) := by decide +kernel
theorem dX0_nerveLoss_18 : decode cX0_nerveLoss 18 = .ok (.ireturn, 1) := by decide +kernel
theorem dX0_nerveGain_0 : decode cX0_nerveGain 0 = .ok (.iload_n 0, 1) := by decide +kernel
theorem dX0_nerveGain_1 : decode cX0_nerveGain 1 = .ok (.ifCond .eq 7, 3) := by decide +kernel
theorem dX0_nerveGain_4 : decode cX0_nerveGain 4 = .ok (.iconst 1, 1) := by decide +kernel
theorem dX0_nerveGain_5 : decode cX0_nerveGain 5 = .ok (.goto 4, 3) := by decide +kernel
theorem dX0_nerveGain_8 : decode cX0_nerveGain 8 = .ok (.iconst 2, 1) := by decide +kernel
theorem dX0_nerveGain_9 : decode cX0_nerveGain 9 = .ok (.ireturn, 1) := by decide +kernel
theorem dX0_frightenWitnesses_0 : decode cX0_frightenWitnesses 0 = .ok (.iconst 0, 1) := by decide +kernel
theorem dX0_frightenWitnesses_1 : decode cX0_frightenWitnesses 1 = .ok (.istore_n 2, 1) := by decide +kernel
theorem dX0_frightenWitnesses_2 : decode cX0_frightenWitnesses 2 = .ok (.iload_n 2, 1) := by decide +kernel
theorem dX0_frightenWitnesses_3 : decode cX0_frightenWitnesses 3 = .ok (.aload_n 0, 1) := by decide +kernel
theorem dX0_frightenWitnesses_4 : decode cX0_frightenWitnesses 4 = .ok (.getfield 59, 3) := by decide +kernel
theorem dX0_frightenWitnesses_7 : decode cX0_frightenWitnesses 7 = .ok (.if_icmp .ge 36, 3) := by decide +kernel
theorem dX0_frightenWitnesses_10 : decode cX0_frightenWitnesses 10 = .ok (.aload_n 0, 1) := by decide +kernel
theorem dX0_frightenWitnesses_11 : decode cX0_frightenWitnesses 11 = .ok (.getfield 29, 3) := by decide +kernel
theorem dX0_frightenWitnesses_14 : decode cX0_frightenWitnesses 14 = .ok (.iload_n 2, 1) := by decide +kernel
theorem dX0_frightenWitnesses_15 : decode cX0_frightenWitnesses 15 = .ok (.baload, 1) := by decide +kernel
theorem dX0_frightenWitnesses_16 : decode cX0_frightenWitnesses 16 = .ok (.ifCond .eq 21, 3) := by decide +kernel
theorem dX0_frightenWitnesses_19 : decode cX0_frightenWitnesses 19 = .ok (.aload_n 0, 1) := by decide +kernel
theorem dX0_frightenWitnesses_20 : decode cX0_frightenWitnesses 20 = .ok (.getfield 26, 3) := by decide +kernel
theorem dX0_frightenWitnesses_23 : decode cX0_frightenWitnesses 23 = .ok (.iload_n 2, 1) := by decide +kernel
theorem dX0_frightenWitnesses_24 : decode cX0_frightenWitnesses 24 = .ok (.iconst 0, 1) := by decide +kernel
theorem dX0_frightenWitnesses_25 : decode cX0_frightenWitnesses 25 = .ok (.aload_n 0, 1) := by decide +kernel
theorem dX0_frightenWitnesses_26 : decode cX0_frightenWitnesses 26 = .ok (.getfield 26, 3) := by decide +kernel
theorem dX0_frightenWitnesses_29 : decode cX0_frightenWitnesses 29 = .ok (.iload_n 2, 1) := by decide +kernel
theorem dX0_frightenWitnesses_30 : decode cX0_frightenWitnesses 30 = .ok (.iaload, 1) := by decide +kernel
theorem dX0_frightenWitnesses_31 : decode cX0_frightenWitnesses 31 = .ok (.iload_n 1, 1) := by decide +kernel
theorem dX0_frightenWitnesses_32 : decode cX0_frightenWitnesses 32 = .ok (.isub, 1) := by decide +kernel
theorem dX0_frightenWitnesses_33 : decode cX0_frightenWitnesses 33 = .ok (.invokestatic 102, 3) := by decide +kernel
theorem dX0_frightenWitnesses_36 : decode cX0_frightenWitnesses 36 = .ok (.iastore, 1) := by decide +kernel
theorem dX0_frightenWitnesses_37 : decode cX0_frightenWitnesses 37 = .ok (.iinc 2 1, 3) := by decide +kernel
theorem dX0_frightenWitnesses_40 : decode cX0_frightenWitnesses 40 = .ok (.goto (-38), 3) := by decide +kernel
theorem dX0_frightenWitnesses_43 : decode cX0_frightenWitnesses 43 = .ok (.return_, 1) := by decide +kernel
theorem dX0_passOneNight_0 : decode cX0_passOneNight 0 = .ok (.iconst 0, 1) := by decide +kernel
theorem dX0_passOneNight_1 : decode cX0_passOneNight 1 = .ok (.istore_n 1, 1) := by decide +kernel
theorem dX0_passOneNight_2 : decode cX0_passOneNight 2 = .ok (.iload_n 1, 1) := by decide +kernel
theorem dX0_passOneNight_3 : decode cX0_passOneNight 3 = .ok (.aload_n 0, 1) := by decide +kernel
theorem dX0_passOneNight_4 : decode cX0_passOneNight 4 = .ok (.getfield 59, 3) := by decide +kernel
theorem dX0_passOneNight_7 : decode cX0_passOneNight 7 = .ok (.if_icmp .ge 36, 3) := by decide +kernel
theorem dX0_passOneNight_10 : decode cX0_passOneNight 10 = .ok (.aload_n 0, 1) := by decide +kernel
theorem dX0_passOneNight_11 : decode cX0_passOneNight 11 = .ok (.getfield 26, 3) := by decide +kernel
theorem dX0_passOneNight_14 : decode cX0_passOneNight 14 = .ok (.iload_n 1, 1) := by decide +kernel
theorem dX0_passOneNight_15 : decode cX0_passOneNight 15 = .ok (.bipush 9, 2) := by decide +kernel
theorem dX0_passOneNight_17 : decode cX0_passOneNight 17 = .ok (.aload_n 0, 1) := by decide +kernel
theorem dX0_passOneNight_18 : decode cX0_passOneNight 18 = .ok (.getfield 26, 3) := by decide +kernel
theorem dX0_passOneNight_21 : decode cX0_passOneNight 21 = .ok (.iload_n 1, 1) := by decide +kernel
theorem dX0_passOneNight_22 : decode cX0_passOneNight 22 = .ok (.iaload, 1) := by decide +kernel
theorem dX0_passOneNight_23 : decode cX0_passOneNight 23 = .ok (.aload_n 0, 1) := by decide +kernel
theorem dX0_passOneNight_24 : decode cX0_passOneNight 24 = .ok (.getfield 29, 3) := by decide +kernel
theorem dX0_passOneNight_27 : decode cX0_passOneNight 27 = .ok (.iload_n 1, 1) := by decide +kernel
theorem dX0_passOneNight_28 : decode cX0_passOneNight 28 = .ok (.baload, 1) := by decide +kernel
theorem dX0_passOneNight_29 : decode cX0_passOneNight 29 = .ok (.invokestatic 204, 3) := by decide +kernel
theorem dX0_passOneNight_32 : decode cX0_passOneNight 32 = .ok (.iadd, 1) := by decide +kernel
theorem dX0_passOneNight_33 : decode cX0_passOneNight 33 = .ok (.invokestatic 121, 3) := by decide +kernel
theorem dX0_passOneNight_36 : decode cX0_passOneNight 36 = .ok (.iastore, 1) := by decide +kernel
theorem dX0_passOneNight_37 : decode cX0_passOneNight 37 = .ok (.iinc 1 1, 3) := by decide +kernel
theorem dX0_passOneNight_40 : decode cX0_passOneNight 40 = .ok (.goto (-38), 3) := by decide +kernel
theorem dX0_passOneNight_43 : decode cX0_passOneNight 43 = .ok (.iconst 0, 1) := by decide +kernel
theorem dX0_passOneNight_44 : decode cX0_passOneNight 44 = .ok (.istore_n 1, 1) := by decide +kernel
theorem dX0_passOneNight_45 : decode cX0_passOneNight 45 = .ok (.iload_n 1, 1) := by decide +kernel
theorem dX0_passOneNight_46 : decode cX0_passOneNight 46 = .ok (.aload_n 0, 1) := by decide +kernel
theorem dX0_passOneNight_47 : decode cX0_passOneNight 47 = .ok (.getfield 48, 3) := by decide +kernel
theorem dX0_passOneNight_50 : decode cX0_passOneNight 50 = .ok (.if_icmp .ge 37, 3) := by decide +kernel
theorem dX0_passOneNight_53 : decode cX0_passOneNight 53 = .ok (.aload_n 0, 1) := by decide +kernel
theorem dX0_passOneNight_54 : decode cX0_passOneNight 54 = .ok (.getfield 9, 3) := by decide +kernel
theorem dX0_passOneNight_57 : decode cX0_passOneNight 57 = .ok (.iload_n 1, 1) := by decide +kernel
theorem dX0_passOneNight_58 : decode cX0_passOneNight 58 = .ok (.baload, 1) := by decide +kernel
theorem dX0_passOneNight_59 : decode cX0_passOneNight 59 = .ok (.ifCond .eq 22, 3) := by decide +kernel
theorem dX0_passOneNight_62 : decode cX0_passOneNight 62 = .ok (.aload_n 0, 1) := by decide +kernel
theorem dX0_passOneNight_63 : decode cX0_passOneNight 63 = .ok (.getfield 13, 3) := by decide +kernel
theorem dX0_passOneNight_66 : decode cX0_passOneNight 66 = .ok (.iload_n 1, 1) := by decide +kernel
theorem dX0_passOneNight_67 : decode cX0_passOneNight 67 = .ok (.bipush 99, 2) := by decide +kernel
theorem dX0_passOneNight_69 : decode cX0_passOneNight 69 = .ok (.aload_n 0, 1) := by decide +kernel
theorem dX0_passOneNight_70 : decode cX0_passOneNight 70 = .ok (.getfield 13, 3) := by decide +kernel
theorem dX0_passOneNight_73 : decode cX0_passOneNight 73 = .ok (.iload_n 1, 1) := by decide +kernel
theorem dX0_passOneNight_74 : decode cX0_passOneNight 74 = .ok (.iaload, 1) := by decide +kernel
theorem dX0_passOneNight_75 : decode cX0_passOneNight 75 = .ok (.iconst 1, 1) := by decide +kernel
theorem dX0_passOneNight_76 : decode cX0_passOneNight 76 = .ok (.iadd, 1) := by decide +kernel
theorem dX0_passOneNight_77 : decode cX0_passOneNight 77 = .ok (.invokestatic 121, 3) := by decide +kernel
theorem dX0_passOneNight_80 : decode cX0_passOneNight 80 = .ok (.iastore, 1) := by decide +kernel
theorem dX0_passOneNight_81 : decode cX0_passOneNight 81 = .ok (.iinc 1 1, 3) := by decide +kernel
theorem dX0_passOneNight_84 : decode cX0_passOneNight 84 = .ok (.goto (-39), 3) := by decide +kernel
theorem dX0_passOneNight_87 : decode cX0_passOneNight 87 = .ok (.aload_n 0, 1) := by decide +kernel
theorem dX0_passOneNight_88 : decode cX0_passOneNight 88 = .ok (.dup, 1) := by decide +kernel
theorem dX0_passOneNight_89 : decode cX0_passOneNight 89 = .ok (.getfield 133, 3) := by decide +kernel
theorem dX0_passOneNight_92 : decode cX0_passOneNight 92 = .ok (.iconst 1, 1) := by decide +kernel
theorem dX0_passOneNight_93 : decode cX0_passOneNight 93 = .ok (.iadd, 1) := by decide +kernel
theorem dX0_passOneNight_94 : decode cX0_passOneNight 94 = .ok (.putfield 133, 3) := by decide +kernel
theorem dX0_passOneNight_97 : decode cX0_passOneNight 97 = .ok (.return_, 1) := by decide +kernel
theorem dX0_nightsToCalm_0 : decode cX0_nightsToCalm 0 = .ok (.aload_n 0, 1) := by decide +kernel
theorem dX0_nightsToCalm_1 : decode cX0_nightsToCalm 1 = .ok (.getfield 29, 3) := by decide +kernel
theorem dX0_nightsToCalm_4 : decode cX0_nightsToCalm 4 = .ok (.iload_n 1, 1) := by decide +kernel
theorem dX0_nightsToCalm_5 : decode cX0_nightsToCalm 5 = .ok (.baload, 1) := by decide +kernel
theorem dX0_nightsToCalm_6 : decode cX0_nightsToCalm 6 = .ok (.invokestatic 204, 3) := by decide +kernel
theorem dX0_nightsToCalm_9 : decode cX0_nightsToCalm 9 = .ok (.istore_n 2, 1) := by decide +kernel
theorem dX0_nightsToCalm_10 : decode cX0_nightsToCalm 10 = .ok (.iconst 0, 1) := by decide +kernel
theorem dX0_nightsToCalm_11 : decode cX0_nightsToCalm 11 = .ok (.istore_n 3, 1) := by decide +kernel
theorem dX0_nightsToCalm_12 : decode cX0_nightsToCalm 12 = .ok (.iload_n 3, 1) := by decide +kernel
theorem dX0_nightsToCalm_13 : decode cX0_nightsToCalm 13 = .ok (.bipush 9, 2) := by decide +kernel
theorem dX0_nightsToCalm_15 : decode cX0_nightsToCalm 15 = .ok (.if_icmp .ge 23, 3) := by decide +kernel
theorem dX0_nightsToCalm_18 : decode cX0_nightsToCalm 18 = .ok (.aload_n 0, 1) := by decide +kernel
theorem dX0_nightsToCalm_19 : decode cX0_nightsToCalm 19 = .ok (.getfield 26, 3) := by decide +kernel
theorem dX0_nightsToCalm_22 : decode cX0_nightsToCalm 22 = .ok (.iload_n 1, 1) := by decide +kernel
theorem dX0_nightsToCalm_23 : decode cX0_nightsToCalm 23 = .ok (.iaload, 1) := by decide +kernel
theorem dX0_nightsToCalm_24 : decode cX0_nightsToCalm 24 = .ok (.iload_n 3, 1) := by decide +kernel
theorem dX0_nightsToCalm_25 : decode cX0_nightsToCalm 25 = .ok (.iload_n 2, 1) := by decide +kernel
theorem dX0_nightsToCalm_26 : decode cX0_nightsToCalm 26 = .ok (.imul, 1) := by decide +kernel
theorem dX0_nightsToCalm_27 : decode cX0_nightsToCalm 27 = .ok (.iadd, 1) := by decide +kernel
theorem dX0_nightsToCalm_28 : decode cX0_nightsToCalm 28 = .ok (.iconst 2, 1) := by decide +kernel
theorem dX0_nightsToCalm_29 : decode cX0_nightsToCalm 29 = .ok (.if_icmp .gt 9, 3) := by decide +kernel
theorem dX0_nightsToCalm_32 : decode cX0_nightsToCalm 32 = .ok (.iinc 3 1, 3) := by decide +kernel
theorem dX0_nightsToCalm_35 : decode cX0_nightsToCalm 35 = .ok (.goto (-23), 3) := by decide +kernel
theorem dX0_nightsToCalm_38 : decode cX0_nightsToCalm 38 = .ok (.iload_n 3, 1) := by decide +kernel
theorem dX0_nightsToCalm_39 : decode cX0_nightsToCalm 39 = .ok (.ireturn, 1) := by decide +kernel
theorem dX0_certificateSeal_0 : decode cX0_certificateSeal 0 = .ok (.bipush 7, 2) := by decide +kernel
theorem dX0_certificateSeal_2 : decode cX0_certificateSeal 2 = .ok (.ldc 207, 2) := by decide +kernel
theorem dX0_certificateSeal_4 : decode cX0_certificateSeal 4 = .ok (.invokestatic 209, 3) := by decide +kernel
theorem dX0_certificateSeal_7 : decode cX0_certificateSeal 7 = .ok (.istore_n 2, 1) := by decide +kernel
theorem dX0_certificateSeal_8 : decode cX0_certificateSeal 8 = .ok (.iload_n 2, 1) := by decide +kernel
theorem dX0_certificateSeal_9 : decode cX0_certificateSeal 9 = .ok (.iload_n 0, 1) := by decide +kernel
theorem dX0_certificateSeal_10 : decode cX0_certificateSeal 10 = .ok (.invokestatic 213, 3) := by decide +kernel
theorem dX0_certificateSeal_13 : decode cX0_certificateSeal 13 = .ok (.istore_n 2, 1) := by decide +kernel
theorem dX0_certificateSeal_14 : decode cX0_certificateSeal 14 = .ok (.iload_n 2, 1) := by decide +kernel
theorem dX0_certificateSeal_15 : decode cX0_certificateSeal 15 = .ok (.ldc 216, 2) := by decide +kernel
theorem dX0_certificateSeal_17 : decode cX0_certificateSeal 17 = .ok (.invokestatic 209, 3) := by decide +kernel
theorem dX0_certificateSeal_20 : decode cX0_certificateSeal 20 = .ok (.istore_n 2, 1) := by decide +kernel
theorem dX0_certificateSeal_21 : decode cX0_certificateSeal 21 = .ok (.iload_n 1, 1) := by decide +kernel
theorem dX0_certificateSeal_22 : decode cX0_certificateSeal 22 = .ok (.ifCond .ne 10, 3) := by decide +kernel
theorem dX0_certificateSeal_25 : decode cX0_certificateSeal 25 = .ok (.iload_n 2, 1) := by decide +kernel
theorem dX0_certificateSeal_26 : decode cX0_certificateSeal 26 = .ok (.ldc 218, 2) := by decide +kernel
theorem dX0_certificateSeal_28 : decode cX0_certificateSeal 28 = .ok (.invokestatic 209, 3) := by decide +kernel
theorem dX0_certificateSeal_31 : decode cX0_certificateSeal 31 = .ok (.ireturn, 1) := by decide +kernel
theorem dX0_certificateSeal_32 : decode cX0_certificateSeal 32 = .ok (.iload_n 2, 1) := by decide +kernel
theorem dX0_certificateSeal_33 : decode cX0_certificateSeal 33 = .ok (.iload_n 1, 1) := by decide +kernel
theorem dX0_certificateSeal_34 : decode cX0_certificateSeal 34 = .ok (.invokestatic 213, 3) := by decide +kernel
theorem dX0_certificateSeal_37 : decode cX0_certificateSeal 37 = .ok (.istore_n 2, 1) := by decide +kernel
theorem dX0_certificateSeal_38 : decode cX0_certificateSeal 38 = .ok (.iload_n 2, 1) := by decide +kernel
theorem dX0_certificateSeal_39 : decode cX0_certificateSeal 39 = .ok (.ldc 220, 2) := by decide +kernel
theorem dX0_certificateSeal_41 : decode cX0_certificateSeal 41 = .ok (.invokestatic 209, 3) := by decide +kernel
theorem dX0_certificateSeal_44 : decode cX0_certificateSeal 44 = .ok (.ireturn, 1) := by decide +kernel
theorem dX0_sealText_0 : decode cX0_sealText 0 = .ok (.iconst 0, 1) := by decide +kernel
theorem dX0_sealText_1 : decode cX0_sealText 1 = .ok (.istore_n 2, 1) := by decide +kernel
theorem dX0_sealText_2 : decode cX0_sealText 2 = .ok (.iload_n 2, 1) := by decide +kernel
theorem dX0_sealText_3 : decode cX0_sealText 3 = .ok (.aload_n 1, 1) := by decide +kernel
theorem dX0_sealText_4 : decode cX0_sealText 4 = .ok (.invokevirtual 222, 3) := by decide +kernel
theorem dX0_sealText_7 : decode cX0_sealText 7 = .ok (.if_icmp .ge 20, 3) := by decide +kernel
theorem dX0_sealText_10 : decode cX0_sealText 10 = .ok (.iload_n 0, 1) := by decide +kernel
theorem dX0_sealText_11 : decode cX0_sealText 11 = .ok (.bipush 31, 2) := by decide +kernel
theorem dX0_sealText_13 : decode cX0_sealText 13 = .ok (.imul, 1) := by decide +kernel
theorem dX0_sealText_14 : decode cX0_sealText 14 = .ok (.aload_n 1, 1) := by decide +kernel
theorem dX0_sealText_15 : decode cX0_sealText 15 = .ok (.iload_n 2, 1) := by decide +kernel
theorem dX0_sealText_16 : decode cX0_sealText 16 = .ok (.invokevirtual 227, 3) := by decide +kernel
theorem dX0_sealText_19 : decode cX0_sealText 19 = .ok (.iadd, 1) := by decide +kernel
theorem dX0_sealText_20 : decode cX0_sealText 20 = .ok (.istore_n 0, 1) := by decide +kernel
theorem dX0_sealText_21 : decode cX0_sealText 21 = .ok (.iinc 2 1, 3) := by decide +kernel
theorem dX0_sealText_24 : decode cX0_sealText 24 = .ok (.goto (-22), 3) := by decide +kernel
theorem dX0_sealText_27 : decode cX0_sealText 27 = .ok (.iload_n 0, 1) := by decide +kernel
theorem dX0_sealText_28 : decode cX0_sealText 28 = .ok (.ireturn, 1) := by decide +kernel
theorem dX0_sealNumber_0 : decode cX0_sealNumber 0 = .ok (.iload_n 1, 1) := by decide +kernel
theorem dX0_sealNumber_1 : decode cX0_sealNumber 1 = .ok (.bipush 10, 2) := by decide +kernel
theorem dX0_sealNumber_3 : decode cX0_sealNumber 3 = .ok (.if_icmp .lt 16, 3) := by decide +kernel
theorem dX0_sealNumber_6 : decode cX0_sealNumber 6 = .ok (.iload_n 0, 1) := by decide +kernel
theorem dX0_sealNumber_7 : decode cX0_sealNumber 7 = .ok (.bipush 31, 2) := by decide +kernel
theorem dX0_sealNumber_9 : decode cX0_sealNumber 9 = .ok (.imul, 1) := by decide +kernel
theorem dX0_sealNumber_10 : decode cX0_sealNumber 10 = .ok (.bipush 48, 2) := by decide +kernel
theorem dX0_sealNumber_12 : decode cX0_sealNumber 12 = .ok (.iadd, 1) := by decide +kernel
theorem dX0_sealNumber_13 : decode cX0_sealNumber 13 = .ok (.iload_n 1, 1) := by decide +kernel
theorem dX0_sealNumber_14 : decode cX0_sealNumber 14 = .ok (.bipush 10, 2) := by decide +kernel
theorem dX0_sealNumber_16 : decode cX0_sealNumber 16 = .ok (.idiv, 1) := by decide +kernel
theorem dX0_sealNumber_17 : decode cX0_sealNumber 17 = .ok (.iadd, 1) := by decide +kernel
theorem dX0_sealNumber_18 : decode cX0_sealNumber 18 = .ok (.istore_n 0, 1) := by decide +kernel
theorem dX0_sealNumber_19 : decode cX0_sealNumber 19 = .ok (.iload_n 0, 1) := by decide +kernel
theorem dX0_sealNumber_20 : decode cX0_sealNumber 20 = .ok (.bipush 31, 2) := by decide +kernel
theorem dX0_sealNumber_22 : decode cX0_sealNumber 22 = .ok (.imul, 1) := by decide +kernel
theorem dX0_sealNumber_23 : decode cX0_sealNumber 23 = .ok (.bipush 48, 2) := by decide +kernel
theorem dX0_sealNumber_25 : decode cX0_sealNumber 25 = .ok (.iadd, 1) := by decide +kernel
theorem dX0_sealNumber_26 : decode cX0_sealNumber 26 = .ok (.iload_n 1, 1) := by decide +kernel
theorem dX0_sealNumber_27 : decode cX0_sealNumber 27 = .ok (.bipush 10, 2) := by decide +kernel
theorem dX0_sealNumber_29 : decode cX0_sealNumber 29 = .ok (.irem, 1) := by decide +kernel
theorem dX0_sealNumber_30 : decode cX0_sealNumber 30 = .ok (.iadd, 1) := by decide +kernel
theorem dX0_sealNumber_31 : decode cX0_sealNumber 31 = .ok (.ireturn, 1) := by decide +kernel

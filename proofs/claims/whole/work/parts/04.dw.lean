/-! decode rows: the law's small methods -/
theorem dL_addPerson_0 : decode cL_addPerson 0 = .ok (.aload_n 2, 1) := by decide +kernel
theorem dL_addPerson_1 : decode cL_addPerson 1 = .ok (.iconst 0, 1) := by decide +kernel
theorem dL_addPerson_2 : decode cL_addPerson 2 = .ok (.aload_n 0, 1) := by decide +kernel
theorem dL_addPerson_3 : decode cL_addPerson 3 = .ok (.iload_n 1, 1) := by decide +kernel
theorem dL_addPerson_4 : decode cL_addPerson 4 = .ok (.invokevirtual 7, 3) := by decide +kernel
theorem dL_addPerson_7 : decode cL_addPerson 7 = .ok (.i2l, 1) := by decide +kernel
theorem dL_addPerson_8 : decode cL_addPerson 8 = .ok (.lastore, 1) := by decide +kernel
theorem dL_addPerson_9 : decode cL_addPerson 9 = .ok (.goto 9, 3) := by decide +kernel
theorem dL_addPerson_12 : decode cL_addPerson 12 = .ok (.astore_n 3, 1) := by decide +kernel
theorem dL_addPerson_13 : decode cL_addPerson 13 = .ok (.iconst 1, 1) := by decide +kernel
theorem dL_addPerson_14 : decode cL_addPerson 14 = .ok (.ireturn, 1) := by decide +kernel
theorem dL_addPerson_15 : decode cL_addPerson 15 = .ok (.astore_n 3, 1) := by decide +kernel
theorem dL_addPerson_16 : decode cL_addPerson 16 = .ok (.iconst 2, 1) := by decide +kernel
theorem dL_addPerson_17 : decode cL_addPerson 17 = .ok (.ireturn, 1) := by decide +kernel
theorem dL_addPerson_18 : decode cL_addPerson 18 = .ok (.iconst 0, 1) := by decide +kernel
theorem dL_addPerson_19 : decode cL_addPerson 19 = .ok (.ireturn, 1) := by decide +kernel
theorem dL_addWitness_0 : decode cL_addWitness 0 = .ok (.aload_n 2, 1) := by decide +kernel
theorem dL_addWitness_1 : decode cL_addWitness 1 = .ok (.iconst 0, 1) := by decide +kernel
theorem dL_addWitness_2 : decode cL_addWitness 2 = .ok (.aload_n 0, 1) := by decide +kernel
theorem dL_addWitness_3 : decode cL_addWitness 3 = .ok (.iload_n 1, 1) := by decide +kernel
theorem dL_addWitness_4 : decode cL_addWitness 4 = .ok (.invokevirtual 17, 3) := by decide +kernel
theorem dL_addWitness_7 : decode cL_addWitness 7 = .ok (.i2l, 1) := by decide +kernel
theorem dL_addWitness_8 : decode cL_addWitness 8 = .ok (.lastore, 1) := by decide +kernel
theorem dL_addWitness_9 : decode cL_addWitness 9 = .ok (.goto 9, 3) := by decide +kernel
theorem dL_addWitness_12 : decode cL_addWitness 12 = .ok (.astore_n 3, 1) := by decide +kernel
theorem dL_addWitness_13 : decode cL_addWitness 13 = .ok (.iconst 1, 1) := by decide +kernel
theorem dL_addWitness_14 : decode cL_addWitness 14 = .ok (.ireturn, 1) := by decide +kernel
theorem dL_addWitness_15 : decode cL_addWitness 15 = .ok (.astore_n 3, 1) := by decide +kernel
theorem dL_addWitness_16 : decode cL_addWitness 16 = .ok (.iconst 2, 1) := by decide +kernel
theorem dL_addWitness_17 : decode cL_addWitness 17 = .ok (.ireturn, 1) := by decide +kernel
theorem dL_addWitness_18 : decode cL_addWitness 18 = .ok (.iconst 0, 1) := by decide +kernel
theorem dL_addWitness_19 : decode cL_addWitness 19 = .ok (.ireturn, 1) := by decide +kernel
theorem dL_setHeir_0 : decode cL_setHeir 0 = .ok (.aload_n 3, 1) := by decide +kernel
theorem dL_setHeir_1 : decode cL_setHeir 1 = .ok (.iconst 0, 1) := by decide +kernel
theorem dL_setHeir_2 : decode cL_setHeir 2 = .ok (.aload_n 0, 1) := by decide +kernel
theorem dL_setHeir_3 : decode cL_setHeir 3 = .ok (.iload_n 1, 1) := by decide +kernel
theorem dL_setHeir_4 : decode cL_setHeir 4 = .ok (.iload_n 2, 1) := by decide +kernel
theorem dL_setHeir_5 : decode cL_setHeir 5 = .ok (.invokevirtual 20, 3) := by decide +kernel
theorem dL_setHeir_8 : decode cL_setHeir 8 = .ok (.i2l, 1) := by decide +kernel
theorem dL_setHeir_9 : decode cL_setHeir 9 = .ok (.lastore, 1) := by decide +kernel
theorem dL_setHeir_10 : decode cL_setHeir 10 = .ok (.goto 15, 3) := by decide +kernel
theorem dL_setHeir_13 : decode cL_setHeir 13 = .ok (.astore 4, 2) := by decide +kernel
theorem dL_setHeir_15 : decode cL_setHeir 15 = .ok (.iconst 1, 1) := by decide +kernel
theorem dL_setHeir_16 : decode cL_setHeir 16 = .ok (.ireturn, 1) := by decide +kernel
theorem dL_setHeir_17 : decode cL_setHeir 17 = .ok (.astore 4, 2) := by decide +kernel
theorem dL_setHeir_19 : decode cL_setHeir 19 = .ok (.iconst 2, 1) := by decide +kernel
theorem dL_setHeir_20 : decode cL_setHeir 20 = .ok (.ireturn, 1) := by decide +kernel
theorem dL_setHeir_21 : decode cL_setHeir 21 = .ok (.astore 4, 2) := by decide +kernel
theorem dL_setHeir_23 : decode cL_setHeir 23 = .ok (.iconst 3, 1) := by decide +kernel
theorem dL_setHeir_24 : decode cL_setHeir 24 = .ok (.ireturn, 1) := by decide +kernel
theorem dL_setHeir_25 : decode cL_setHeir 25 = .ok (.iconst 0, 1) := by decide +kernel
theorem dL_setHeir_26 : decode cL_setHeir 26 = .ok (.ireturn, 1) := by decide +kernel
theorem dL_buyFate_0 : decode cL_buyFate 0 = .ok (.aload_n 2, 1) := by decide +kernel
theorem dL_buyFate_1 : decode cL_buyFate 1 = .ok (.iconst 0, 1) := by decide +kernel
theorem dL_buyFate_2 : decode cL_buyFate 2 = .ok (.aload_n 0, 1) := by decide +kernel
theorem dL_buyFate_3 : decode cL_buyFate 3 = .ok (.iload_n 1, 1) := by decide +kernel
theorem dL_buyFate_4 : decode cL_buyFate 4 = .ok (.invokevirtual 26, 3) := by decide +kernel
theorem dL_buyFate_7 : decode cL_buyFate 7 = .ok (.i2l, 1) := by decide +kernel
theorem dL_buyFate_8 : decode cL_buyFate 8 = .ok (.lastore, 1) := by decide +kernel
theorem dL_buyFate_9 : decode cL_buyFate 9 = .ok (.goto 9, 3) := by decide +kernel
theorem dL_buyFate_12 : decode cL_buyFate 12 = .ok (.astore_n 3, 1) := by decide +kernel
theorem dL_buyFate_13 : decode cL_buyFate 13 = .ok (.iconst 1, 1) := by decide +kernel
theorem dL_buyFate_14 : decode cL_buyFate 14 = .ok (.ireturn, 1) := by decide +kernel
theorem dL_buyFate_15 : decode cL_buyFate 15 = .ok (.astore_n 3, 1) := by decide +kernel
theorem dL_buyFate_16 : decode cL_buyFate 16 = .ok (.iconst 2, 1) := by decide +kernel
theorem dL_buyFate_17 : decode cL_buyFate 17 = .ok (.ireturn, 1) := by decide +kernel
theorem dL_buyFate_18 : decode cL_buyFate 18 = .ok (.iconst 0, 1) := by decide +kernel
theorem dL_buyFate_19 : decode cL_buyFate 19 = .ok (.ireturn, 1) := by decide +kernel
theorem dL_turnDuty_0 : decode cL_turnDuty 0 = .ok (.aload_n 2, 1) := by decide +kernel
theorem dL_turnDuty_1 : decode cL_turnDuty 1 = .ok (.iconst 0, 1) := by decide +kernel
theorem dL_turnDuty_2 : decode cL_turnDuty 2 = .ok (.aload_n 0, 1) := by decide +kernel
theorem dL_turnDuty_3 : decode cL_turnDuty 3 = .ok (.iload_n 1, 1) := by decide +kernel
theorem dL_turnDuty_4 : decode cL_turnDuty 4 = .ok (.invokevirtual 29, 3) := by decide +kernel
theorem dL_turnDuty_7 : decode cL_turnDuty 7 = .ok (.ifCond .eq 7, 3) := by decide +kernel
theorem dL_turnDuty_10 : decode cL_turnDuty 10 = .ok (.lconst 1, 1) := by decide +kernel
theorem dL_turnDuty_11 : decode cL_turnDuty 11 = .ok (.goto 4, 3) := by decide +kernel
theorem dL_turnDuty_14 : decode cL_turnDuty 14 = .ok (.lconst 0, 1) := by decide +kernel
theorem dL_turnDuty_15 : decode cL_turnDuty 15 = .ok (.lastore, 1) := by decide +kernel
theorem dL_turnDuty_16 : decode cL_turnDuty 16 = .ok (.goto 6, 3) := by decide +kernel
theorem dL_turnDuty_19 : decode cL_turnDuty 19 = .ok (.astore_n 3, 1) := by decide +kernel
theorem dL_turnDuty_20 : decode cL_turnDuty 20 = .ok (.iconst 1, 1) := by decide +kernel
theorem dL_turnDuty_21 : decode cL_turnDuty 21 = .ok (.ireturn, 1) := by decide +kernel
theorem dL_turnDuty_22 : decode cL_turnDuty 22 = .ok (.iconst 0, 1) := by decide +kernel
theorem dL_turnDuty_23 : decode cL_turnDuty 23 = .ok (.ireturn, 1) := by decide +kernel
theorem dL_miss_0 : decode cL_miss 0 = .ok (.aload_n 3, 1) := by decide +kernel
theorem dL_miss_1 : decode cL_miss 1 = .ok (.iconst 0, 1) := by decide +kernel
theorem dL_miss_2 : decode cL_miss 2 = .ok (.aload_n 0, 1) := by decide +kernel
theorem dL_miss_3 : decode cL_miss 3 = .ok (.iload_n 1, 1) := by decide +kernel
theorem dL_miss_4 : decode cL_miss 4 = .ok (.iload_n 2, 1) := by decide +kernel
theorem dL_miss_5 : decode cL_miss 5 = .ok (.invokevirtual 33, 3) := by decide +kernel
theorem dL_miss_8 : decode cL_miss 8 = .ok (.i2l, 1) := by decide +kernel
theorem dL_miss_9 : decode cL_miss 9 = .ok (.lastore, 1) := by decide +kernel
theorem dL_miss_10 : decode cL_miss 10 = .ok (.goto 15, 3) := by decide +kernel
theorem dL_miss_13 : decode cL_miss 13 = .ok (.astore 4, 2) := by decide +kernel
theorem dL_miss_15 : decode cL_miss 15 = .ok (.iconst 1, 1) := by decide +kernel
theorem dL_miss_16 : decode cL_miss 16 = .ok (.ireturn, 1) := by decide +kernel
theorem dL_miss_17 : decode cL_miss 17 = .ok (.astore 4, 2) := by decide +kernel
theorem dL_miss_19 : decode cL_miss 19 = .ok (.iconst 2, 1) := by decide +kernel
theorem dL_miss_20 : decode cL_miss 20 = .ok (.ireturn, 1) := by decide +kernel
theorem dL_miss_21 : decode cL_miss 21 = .ok (.astore 4, 2) := by decide +kernel
theorem dL_miss_23 : decode cL_miss 23 = .ok (.iconst 3, 1) := by decide +kernel
theorem dL_miss_24 : decode cL_miss 24 = .ok (.ireturn, 1) := by decide +kernel
theorem dL_miss_25 : decode cL_miss 25 = .ok (.iconst 0, 1) := by decide +kernel
theorem dL_miss_26 : decode cL_miss 26 = .ok (.ireturn, 1) := by decide +kernel
theorem dL_hit_0 : decode cL_hit 0 = .ok (.aload_n 2, 1) := by decide +kernel
theorem dL_hit_1 : decode cL_hit 1 = .ok (.iconst 0, 1) := by decide +kernel
theorem dL_hit_2 : decode cL_hit 2 = .ok (.aload_n 0, 1) := by decide +kernel
theorem dL_hit_3 : decode cL_hit 3 = .ok (.iload_n 1, 1) := by decide +kernel
theorem dL_hit_4 : decode cL_hit 4 = .ok (.invokevirtual 36, 3) := by decide +kernel
theorem dL_hit_7 : decode cL_hit 7 = .ok (.i2l, 1) := by decide +kernel
theorem dL_hit_8 : decode cL_hit 8 = .ok (.lastore, 1) := by decide +kernel
theorem dL_hit_9 : decode cL_hit 9 = .ok (.goto 9, 3) := by decide +kernel
theorem dL_hit_12 : decode cL_hit 12 = .ok (.astore_n 3, 1) := by decide +kernel
theorem dL_hit_13 : decode cL_hit 13 = .ok (.iconst 1, 1) := by decide +kernel
theorem dL_hit_14 : decode cL_hit 14 = .ok (.ireturn, 1) := by decide +kernel
theorem dL_hit_15 : decode cL_hit 15 = .ok (.astore_n 3, 1) := by decide +kernel
theorem dL_hit_16 : decode cL_hit 16 = .ok (.iconst 2, 1) := by decide +kernel
theorem dL_hit_17 : decode cL_hit 17 = .ok (.ireturn, 1) := by decide +kernel
theorem dL_hit_18 : decode cL_hit 18 = .ok (.iconst 0, 1) := by decide +kernel
theorem dL_hit_19 : decode cL_hit 19 = .ok (.ireturn, 1) := by decide +kernel
theorem dL_pass_0 : decode cL_pass 0 = .ok (.aload_n 2, 1) := by decide +kernel
theorem dL_pass_1 : decode cL_pass 1 = .ok (.iconst 0, 1) := by decide +kernel
theorem dL_pass_2 : decode cL_pass 2 = .ok (.aload_n 0, 1) := by decide +kernel
theorem dL_pass_3 : decode cL_pass 3 = .ok (.iload_n 1, 1) := by decide +kernel
theorem dL_pass_4 : decode cL_pass 4 = .ok (.invokevirtual 39, 3) := by decide +kernel
theorem dL_pass_7 : decode cL_pass 7 = .ok (.i2l, 1) := by decide +kernel
theorem dL_pass_8 : decode cL_pass 8 = .ok (.lastore, 1) := by decide +kernel
theorem dL_pass_9 : decode cL_pass 9 = .ok (.goto 6, 3) := by decide +kernel
theorem dL_pass_12 : decode cL_pass 12 = .ok (.astore_n 3, 1) := by decide +kernel
theorem dL_pass_13 : decode cL_pass 13 = .ok (.iconst 1, 1) := by decide +kernel
theorem dL_pass_14 : decode cL_pass 14 = .ok (.ireturn, 1) := by decide +kernel
theorem dL_pass_15 : decode cL_pass 15 = .ok (.iconst 0, 1) := by decide +kernel
theorem dL_pass_16 : decode cL_pass 16 = .ok (.ireturn, 1) := by decide +kernel
theorem dL_isAlive_0 : decode cL_isAlive 0 = .ok (.aload_n 2, 1) := by decide +kernel
theorem dL_isAlive_1 : decode cL_isAlive 1 = .ok (.iconst 0, 1) := by decide +kernel
theorem dL_isAlive_2 : decode cL_isAlive 2 = .ok (.aload_n 0, 1) := by decide +kernel
theorem dL_isAlive_3 : decode cL_isAlive 3 = .ok (.iload_n 1, 1) := by decide +kernel
theorem dL_isAlive_4 : decode cL_isAlive 4 = .ok (.invokevirtual 42, 3) := by decide +kernel
theorem dL_isAlive_7 : decode cL_isAlive 7 = .ok (.ifCond .eq 7, 3) := by decide +kernel
theorem dL_isAlive_10 : decode cL_isAlive 10 = .ok (.lconst 1, 1) := by decide +kernel
theorem dL_isAlive_11 : decode cL_isAlive 11 = .ok (.goto 4, 3) := by decide +kernel
theorem dL_isAlive_14 : decode cL_isAlive 14 = .ok (.lconst 0, 1) := by decide +kernel
theorem dL_isAlive_15 : decode cL_isAlive 15 = .ok (.lastore, 1) := by decide +kernel
theorem dL_isAlive_16 : decode cL_isAlive 16 = .ok (.goto 6, 3) := by decide +kernel
theorem dL_isAlive_19 : decode cL_isAlive 19 = .ok (.astore_n 3, 1) := by decide +kernel
theorem dL_isAlive_20 : decode cL_isAlive 20 = .ok (.iconst 1, 1) := by decide +kernel
theorem dL_isAlive_21 : decode cL_isAlive 21 = .ok (.ireturn, 1) := by decide +kernel
theorem dL_isAlive_22 : decode cL_isAlive 22 = .ok (.iconst 0, 1) := by decide +kernel
theorem dL_isAlive_23 : decode cL_isAlive 23 = .ok (.ireturn, 1) := by decide +kernel
theorem dL_luckOf_0 : decode cL_luckOf 0 = .ok (.aload_n 2, 1) := by decide +kernel
theorem dL_luckOf_1 : decode cL_luckOf 1 = .ok (.iconst 0, 1) := by decide +kernel
theorem dL_luckOf_2 : decode cL_luckOf 2 = .ok (.aload_n 0, 1) := by decide +kernel
theorem dL_luckOf_3 : decode cL_luckOf 3 = .ok (.iload_n 1, 1) := by decide +kernel
theorem dL_luckOf_4 : decode cL_luckOf 4 = .ok (.invokevirtual 45, 3) := by decide +kernel
theorem dL_luckOf_7 : decode cL_luckOf 7 = .ok (.i2l, 1) := by decide +kernel
theorem dL_luckOf_8 : decode cL_luckOf 8 = .ok (.lastore, 1) := by decide +kernel
theorem dL_luckOf_9 : decode cL_luckOf 9 = .ok (.goto 6, 3) := by decide +kernel
theorem dL_luckOf_12 : decode cL_luckOf 12 = .ok (.astore_n 3, 1) := by decide +kernel
theorem dL_luckOf_13 : decode cL_luckOf 13 = .ok (.iconst 1, 1) := by decide +kernel
theorem dL_luckOf_14 : decode cL_luckOf 14 = .ok (.ireturn, 1) := by decide +kernel
theorem dL_luckOf_15 : decode cL_luckOf 15 = .ok (.iconst 0, 1) := by decide +kernel
theorem dL_luckOf_16 : decode cL_luckOf 16 = .ok (.ireturn, 1) := by decide +kernel
theorem dL_purseOf_0 : decode cL_purseOf 0 = .ok (.aload_n 2, 1) := by decide +kernel
theorem dL_purseOf_1 : decode cL_purseOf 1 = .ok (.iconst 0, 1) := by decide +kernel
theorem dL_purseOf_2 : decode cL_purseOf 2 = .ok (.aload_n 0, 1) := by decide +kernel
theorem dL_purseOf_3 : decode cL_purseOf 3 = .ok (.iload_n 1, 1) := by decide +kernel
theorem dL_purseOf_4 : decode cL_purseOf 4 = .ok (.invokevirtual 48, 3) := by decide +kernel
theorem dL_purseOf_7 : decode cL_purseOf 7 = .ok (.i2l, 1) := by decide +kernel
theorem dL_purseOf_8 : decode cL_purseOf 8 = .ok (.lastore, 1) := by decide +kernel
theorem dL_purseOf_9 : decode cL_purseOf 9 = .ok (.goto 6, 3) := by decide +kernel
theorem dL_purseOf_12 : decode cL_purseOf 12 = .ok (.astore_n 3, 1) := by decide +kernel
theorem dL_purseOf_13 : decode cL_purseOf 13 = .ok (.iconst 1, 1) := by decide +kernel
theorem dL_purseOf_14 : decode cL_purseOf 14 = .ok (.ireturn, 1) := by decide +kernel
theorem dL_purseOf_15 : decode cL_purseOf 15 = .ok (.iconst 0, 1) := by decide +kernel
theorem dL_purseOf_16 : decode cL_purseOf 16 = .ok (.ireturn, 1) := by decide +kernel
theorem dL_fatesOf_0 : decode cL_fatesOf 0 = .ok (.aload_n 2, 1) := by decide +kernel
theorem dL_fatesOf_1 : decode cL_fatesOf 1 = .ok (.iconst 0, 1) := by decide +kernel
theorem dL_fatesOf_2 : decode cL_fatesOf 2 = .ok (.aload_n 0, 1) := by decide +kernel
theorem dL_fatesOf_3 : decode cL_fatesOf 3 = .ok (.iload_n 1, 1) := by decide +kernel
theorem dL_fatesOf_4 : decode cL_fatesOf 4 = .ok (.invokevirtual 51, 3) := by decide +kernel
theorem dL_fatesOf_7 : decode cL_fatesOf 7 = .ok (.i2l, 1) := by decide +kernel
theorem dL_fatesOf_8 : decode cL_fatesOf 8 = .ok (.lastore, 1) := by decide +kernel
theorem dL_fatesOf_9 : decode cL_fatesOf 9 = .ok (.goto 6, 3) := by decide +kernel
theorem dL_fatesOf_12 : decode cL_fatesOf 12 = .ok (.astore_n 3, 1) := by decide +kernel
theorem dL_fatesOf_13 : decode cL_fatesOf 13 = .ok (.iconst 1, 1) := by decide +kernel
theorem dL_fatesOf_14 : decode cL_fatesOf 14 = .ok (.ireturn, 1) := by decide +kernel
theorem dL_fatesOf_15 : decode cL_fatesOf 15 = .ok (.iconst 0, 1) := by decide +kernel
theorem dL_fatesOf_16 : decode cL_fatesOf 16 = .ok (.ireturn, 1) := by decide +kernel
theorem dL_heirOf_0 : decode cL_heirOf 0 = .ok (.aload_n 2, 1) := by decide +kernel
theorem dL_heirOf_1 : decode cL_heirOf 1 = .ok (.iconst 0, 1) := by decide +kernel
theorem dL_heirOf_2 : decode cL_heirOf 2 = .ok (.aload_n 0, 1) := by decide +kernel
theorem dL_heirOf_3 : decode cL_heirOf 3 = .ok (.iload_n 1, 1) := by decide +kernel
theorem dL_heirOf_4 : decode cL_heirOf 4 = .ok (.invokevirtual 54, 3) := by decide +kernel
theorem dL_heirOf_7 : decode cL_heirOf 7 = .ok (.i2l, 1) := by decide +kernel
theorem dL_heirOf_8 : decode cL_heirOf 8 = .ok (.lastore, 1) := by decide +kernel
theorem dL_heirOf_9 : decode cL_heirOf 9 = .ok (.goto 6, 3) := by decide +kernel
theorem dL_heirOf_12 : decode cL_heirOf 12 = .ok (.astore_n 3, 1) := by decide +kernel
theorem dL_heirOf_13 : decode cL_heirOf 13 = .ok (.iconst 1, 1) := by decide +kernel
theorem dL_heirOf_14 : decode cL_heirOf 14 = .ok (.ireturn, 1) := by decide +kernel
theorem dL_heirOf_15 : decode cL_heirOf 15 = .ok (.iconst 0, 1) := by decide +kernel
theorem dL_heirOf_16 : decode cL_heirOf 16 = .ok (.ireturn, 1) := by decide +kernel
theorem dL_lastHeirOf_0 : decode cL_lastHeirOf 0 = .ok (.aload_n 2, 1) := by decide +kernel
theorem dL_lastHeirOf_1 : decode cL_lastHeirOf 1 = .ok (.iconst 0, 1) := by decide +kernel
theorem dL_lastHeirOf_2 : decode cL_lastHeirOf 2 = .ok (.aload_n 0, 1) := by decide +kernel
theorem dL_lastHeirOf_3 : decode cL_lastHeirOf 3 = .ok (.iload_n 1, 1) := by decide +kernel
theorem dL_lastHeirOf_4 : decode cL_lastHeirOf 4 = .ok (.invokevirtual 57, 3) := by decide +kernel
theorem dL_lastHeirOf_7 : decode cL_lastHeirOf 7 = .ok (.i2l, 1) := by decide +kernel
theorem dL_lastHeirOf_8 : decode cL_lastHeirOf 8 = .ok (.lastore, 1) := by decide +kernel
theorem dL_lastHeirOf_9 : decode cL_lastHeirOf 9 = .ok (.goto 6, 3) := by decide +kernel
theorem dL_lastHeirOf_12 : decode cL_lastHeirOf 12 = .ok (.astore_n 3, 1) := by decide +kernel
theorem dL_lastHeirOf_13 : decode cL_lastHeirOf 13 = .ok (.iconst 1, 1) := by decide +kernel
theorem dL_lastHeirOf_14 : decode cL_lastHeirOf 14 = .ok (.ireturn, 1) := by decide +kernel
theorem dL_lastHeirOf_15 : decode cL_lastHeirOf 15 = .ok (.iconst 0, 1) := by decide +kernel
theorem dL_lastHeirOf_16 : decode cL_lastHeirOf 16 = .ok (.ireturn, 1) := by decide +kernel
theorem dL_priceFor_0 : decode cL_priceFor 0 = .ok (.aload_n 2, 1) := by decide +kernel
theorem dL_priceFor_1 : decode cL_priceFor 1 = .ok (.iconst 0, 1) := by decide +kernel
theorem dL_priceFor_2 : decode cL_priceFor 2 = .ok (.aload_n 0, 1) := by decide +kernel
theorem dL_priceFor_3 : decode cL_priceFor 3 = .ok (.iload_n 1, 1) := by decide +kernel
theorem dL_priceFor_4 : decode cL_priceFor 4 = .ok (.invokevirtual 60, 3) := by decide +kernel
theorem dL_priceFor_7 : decode cL_priceFor 7 = .ok (.i2l, 1) := by decide +kernel
theorem dL_priceFor_8 : decode cL_priceFor 8 = .ok (.lastore, 1) := by decide +kernel
theorem dL_priceFor_9 : decode cL_priceFor 9 = .ok (.goto 6, 3) := by decide +kernel
theorem dL_priceFor_12 : decode cL_priceFor 12 = .ok (.astore_n 3, 1) := by decide +kernel
theorem dL_priceFor_13 : decode cL_priceFor 13 = .ok (.iconst 1, 1) := by decide +kernel
theorem dL_priceFor_14 : decode cL_priceFor 14 = .ok (.ireturn, 1) := by decide +kernel
theorem dL_priceFor_15 : decode cL_priceFor 15 = .ok (.iconst 0, 1) := by decide +kernel
theorem dL_priceFor_16 : decode cL_priceFor 16 = .ok (.ireturn, 1) := by decide +kernel
theorem dL_missesOf_0 : decode cL_missesOf 0 = .ok (.aload_n 2, 1) := by decide +kernel
theorem dL_missesOf_1 : decode cL_missesOf 1 = .ok (.iconst 0, 1) := by decide +kernel
theorem dL_missesOf_2 : decode cL_missesOf 2 = .ok (.aload_n 0, 1) := by decide +kernel
theorem dL_missesOf_3 : decode cL_missesOf 3 = .ok (.iload_n 1, 1) := by decide +kernel
theorem dL_missesOf_4 : decode cL_missesOf 4 = .ok (.invokevirtual 63, 3) := by decide +kernel
theorem dL_missesOf_7 : decode cL_missesOf 7 = .ok (.i2l, 1) := by decide +kernel
theorem dL_missesOf_8 : decode cL_missesOf 8 = .ok (.lastore, 1) := by decide +kernel
theorem dL_missesOf_9 : decode cL_missesOf 9 = .ok (.goto 6, 3) := by decide +kernel
theorem dL_missesOf_12 : decode cL_missesOf 12 = .ok (.astore_n 3, 1) := by decide +kernel
theorem dL_missesOf_13 : decode cL_missesOf 13 = .ok (.iconst 1, 1) := by decide +kernel
theorem dL_missesOf_14 : decode cL_missesOf 14 = .ok (.ireturn, 1) := by decide +kernel
theorem dL_missesOf_15 : decode cL_missesOf 15 = .ok (.iconst 0, 1) := by decide +kernel
theorem dL_missesOf_16 : decode cL_missesOf 16 = .ok (.ireturn, 1) := by decide +kernel
theorem dL_closestOf_0 : decode cL_closestOf 0 = .ok (.aload_n 2, 1) := by decide +kernel
theorem dL_closestOf_1 : decode cL_closestOf 1 = .ok (.iconst 0, 1) := by decide +kernel
theorem dL_closestOf_2 : decode cL_closestOf 2 = .ok (.aload_n 0, 1) := by decide +kernel
theorem dL_closestOf_3 : decode cL_closestOf 3 = .ok (.iload_n 1, 1) := by decide +kernel
theorem dL_closestOf_4 : decode cL_closestOf 4 = .ok (.invokevirtual 66, 3) := by decide +kernel
theorem dL_closestOf_7 : decode cL_closestOf 7 = .ok (.i2l, 1) := by decide +kernel
theorem dL_closestOf_8 : decode cL_closestOf 8 = .ok (.lastore, 1) := by decide +kernel
theorem dL_closestOf_9 : decode cL_closestOf 9 = .ok (.goto 6, 3) := by decide +kernel
theorem dL_closestOf_12 : decode cL_closestOf 12 = .ok (.astore_n 3, 1) := by decide +kernel
theorem dL_closestOf_13 : decode cL_closestOf 13 = .ok (.iconst 1, 1) := by decide +kernel
theorem dL_closestOf_14 : decode cL_closestOf 14 = .ok (.ireturn, 1) := by decide +kernel
theorem dL_closestOf_15 : decode cL_closestOf 15 = .ok (.iconst 0, 1) := by decide +kernel
theorem dL_closestOf_16 : decode cL_closestOf 16 = .ok (.ireturn, 1) := by decide +kernel
theorem dL_nerveOf_0 : decode cL_nerveOf 0 = .ok (.aload_n 2, 1) := by decide +kernel
theorem dL_nerveOf_1 : decode cL_nerveOf 1 = .ok (.iconst 0, 1) := by decide +kernel
theorem dL_nerveOf_2 : decode cL_nerveOf 2 = .ok (.aload_n 0, 1) := by decide +kernel
theorem dL_nerveOf_3 : decode cL_nerveOf 3 = .ok (.iload_n 1, 1) := by decide +kernel
theorem dL_nerveOf_4 : decode cL_nerveOf 4 = .ok (.invokevirtual 69, 3) := by decide +kernel
theorem dL_nerveOf_7 : decode cL_nerveOf 7 = .ok (.i2l, 1) := by decide +kernel
theorem dL_nerveOf_8 : decode cL_nerveOf 8 = .ok (.lastore, 1) := by decide +kernel
theorem dL_nerveOf_9 : decode cL_nerveOf 9 = .ok (.goto 6, 3) := by decide +kernel
theorem dL_nerveOf_12 : decode cL_nerveOf 12 = .ok (.astore_n 3, 1) := by decide +kernel
theorem dL_nerveOf_13 : decode cL_nerveOf 13 = .ok (.iconst 1, 1) := by decide +kernel
theorem dL_nerveOf_14 : decode cL_nerveOf 14 = .ok (.ireturn, 1) := by decide +kernel
theorem dL_nerveOf_15 : decode cL_nerveOf 15 = .ok (.iconst 0, 1) := by decide +kernel
theorem dL_nerveOf_16 : decode cL_nerveOf 16 = .ok (.ireturn, 1) := by decide +kernel
theorem dL_isOnDuty_0 : decode cL_isOnDuty 0 = .ok (.aload_n 2, 1) := by decide +kernel
theorem dL_isOnDuty_1 : decode cL_isOnDuty 1 = .ok (.iconst 0, 1) := by decide +kernel
theorem dL_isOnDuty_2 : decode cL_isOnDuty 2 = .ok (.aload_n 0, 1) := by decide +kernel
theorem dL_isOnDuty_3 : decode cL_isOnDuty 3 = .ok (.iload_n 1, 1) := by decide +kernel
theorem dL_isOnDuty_4 : decode cL_isOnDuty 4 = .ok (.invokevirtual 72, 3) := by decide +kernel
theorem dL_isOnDuty_7 : decode cL_isOnDuty 7 = .ok (.ifCond .eq 7, 3) := by decide +kernel
theorem dL_isOnDuty_10 : decode cL_isOnDuty 10 = .ok (.lconst 1, 1) := by decide +kernel
theorem dL_isOnDuty_11 : decode cL_isOnDuty 11 = .ok (.goto 4, 3) := by decide +kernel
theorem dL_isOnDuty_14 : decode cL_isOnDuty 14 = .ok (.lconst 0, 1) := by decide +kernel
theorem dL_isOnDuty_15 : decode cL_isOnDuty 15 = .ok (.lastore, 1) := by decide +kernel
theorem dL_isOnDuty_16 : decode cL_isOnDuty 16 = .ok (.goto 6, 3) := by decide +kernel
theorem dL_isOnDuty_19 : decode cL_isOnDuty 19 = .ok (.astore_n 3, 1) := by decide +kernel
theorem dL_isOnDuty_20 : decode cL_isOnDuty 20 = .ok (.iconst 1, 1) := by decide +kernel
theorem dL_isOnDuty_21 : decode cL_isOnDuty 21 = .ok (.ireturn, 1) := by decide +kernel
theorem dL_isOnDuty_22 : decode cL_isOnDuty 22 = .ok (.iconst 0, 1) := by decide +kernel
theorem dL_isOnDuty_23 : decode cL_isOnDuty 23 = .ok (.ireturn, 1) := by decide +kernel
theorem dL_wouldTell_0 : decode cL_wouldTell 0 = .ok (.aload_n 3, 1) := by decide +kernel
theorem dL_wouldTell_1 : decode cL_wouldTell 1 = .ok (.iconst 0, 1) := by decide +kernel
theorem dL_wouldTell_2 : decode cL_wouldTell 2 = .ok (.aload_n 0, 1) := by decide +kernel
theorem dL_wouldTell_3 : decode cL_wouldTell 3 = .ok (.iload_n 1, 1) := by decide +kernel
theorem dL_wouldTell_4 : decode cL_wouldTell 4 = .ok (.iload_n 2, 1) := by decide +kernel
theorem dL_wouldTell_5 : decode cL_wouldTell 5 = .ok (.invokevirtual 75, 3) := by decide +kernel
theorem dL_wouldTell_8 : decode cL_wouldTell 8 = .ok (.i2l, 1) := by decide +kernel
theorem dL_wouldTell_9 : decode cL_wouldTell 9 = .ok (.lastore, 1) := by decide +kernel
theorem dL_wouldTell_10 : decode cL_wouldTell 10 = .ok (.goto 11, 3) := by decide +kernel
theorem dL_wouldTell_13 : decode cL_wouldTell 13 = .ok (.astore 4, 2) := by decide +kernel
theorem dL_wouldTell_15 : decode cL_wouldTell 15 = .ok (.iconst 1, 1) := by decide +kernel
theorem dL_wouldTell_16 : decode cL_wouldTell 16 = .ok (.ireturn, 1) := by decide +kernel
theorem dL_wouldTell_17 : decode cL_wouldTell 17 = .ok (.astore 4, 2) := by decide +kernel
theorem dL_wouldTell_19 : decode cL_wouldTell 19 = .ok (.iconst 2, 1) := by decide +kernel
theorem dL_wouldTell_20 : decode cL_wouldTell 20 = .ok (.ireturn, 1) := by decide +kernel
theorem dL_wouldTell_21 : decode cL_wouldTell 21 = .ok (.iconst 0, 1) := by decide +kernel
theorem dL_wouldTell_22 : decode cL_wouldTell 22 = .ok (.ireturn, 1) := by decide +kernel
theorem dL_personOf_0 : decode cL_personOf 0 = .ok (.aload_n 2, 1) := by decide +kernel
theorem dL_personOf_1 : decode cL_personOf 1 = .ok (.iconst 0, 1) := by decide +kernel
theorem dL_personOf_2 : decode cL_personOf 2 = .ok (.aload_n 0, 1) := by decide +kernel
theorem dL_personOf_3 : decode cL_personOf 3 = .ok (.iload_n 1, 1) := by decide +kernel
theorem dL_personOf_4 : decode cL_personOf 4 = .ok (.invokevirtual 78, 3) := by decide +kernel
theorem dL_personOf_7 : decode cL_personOf 7 = .ok (.i2l, 1) := by decide +kernel
theorem dL_personOf_8 : decode cL_personOf 8 = .ok (.lastore, 1) := by decide +kernel
theorem dL_personOf_9 : decode cL_personOf 9 = .ok (.goto 6, 3) := by decide +kernel
theorem dL_personOf_12 : decode cL_personOf 12 = .ok (.astore_n 3, 1) := by decide +kernel
theorem dL_personOf_13 : decode cL_personOf 13 = .ok (.iconst 1, 1) := by decide +kernel
theorem dL_personOf_14 : decode cL_personOf 14 = .ok (.ireturn, 1) := by decide +kernel
theorem dL_personOf_15 : decode cL_personOf 15 = .ok (.iconst 0, 1) := by decide +kernel
theorem dL_personOf_16 : decode cL_personOf 16 = .ok (.ireturn, 1) := by decide +kernel
theorem dL_inchesOf_0 : decode cL_inchesOf 0 = .ok (.aload_n 2, 1) := by decide +kernel
theorem dL_inchesOf_1 : decode cL_inchesOf 1 = .ok (.iconst 0, 1) := by decide +kernel
theorem dL_inchesOf_2 : decode cL_inchesOf 2 = .ok (.aload_n 0, 1) := by decide +kernel
theorem dL_inchesOf_3 : decode cL_inchesOf 3 = .ok (.iload_n 1, 1) := by decide +kernel
theorem dL_inchesOf_4 : decode cL_inchesOf 4 = .ok (.invokevirtual 81, 3) := by decide +kernel
theorem dL_inchesOf_7 : decode cL_inchesOf 7 = .ok (.i2l, 1) := by decide +kernel
theorem dL_inchesOf_8 : decode cL_inchesOf 8 = .ok (.lastore, 1) := by decide +kernel
theorem dL_inchesOf_9 : decode cL_inchesOf 9 = .ok (.goto 6, 3) := by decide +kernel
theorem dL_inchesOf_12 : decode cL_inchesOf 12 = .ok (.astore_n 3, 1) := by decide +kernel
theorem dL_inchesOf_13 : decode cL_inchesOf 13 = .ok (.iconst 1, 1) := by decide +kernel
theorem dL_inchesOf_14 : decode cL_inchesOf 14 = .ok (.ireturn, 1) := by decide +kernel
theorem dL_inchesOf_15 : decode cL_inchesOf 15 = .ok (.iconst 0, 1) := by decide +kernel
theorem dL_inchesOf_16 : decode cL_inchesOf 16 = .ok (.ireturn, 1) := by decide +kernel
theorem dL_sealOf_0 : decode cL_sealOf 0 = .ok (.aload_n 2, 1) := by decide +kernel
theorem dL_sealOf_1 : decode cL_sealOf 1 = .ok (.iconst 0, 1) := by decide +kernel
theorem dL_sealOf_2 : decode cL_sealOf 2 = .ok (.aload_n 0, 1) := by decide +kernel
theorem dL_sealOf_3 : decode cL_sealOf 3 = .ok (.iload_n 1, 1) := by decide +kernel
theorem dL_sealOf_4 : decode cL_sealOf 4 = .ok (.invokevirtual 84, 3) := by decide +kernel
theorem dL_sealOf_7 : decode cL_sealOf 7 = .ok (.i2l, 1) := by decide +kernel
theorem dL_sealOf_8 : decode cL_sealOf 8 = .ok (.lastore, 1) := by decide +kernel
theorem dL_sealOf_9 : decode cL_sealOf 9 = .ok (.goto 6, 3) := by decide +kernel
theorem dL_sealOf_12 : decode cL_sealOf 12 = .ok (.astore_n 3, 1) := by decide +kernel
theorem dL_sealOf_13 : decode cL_sealOf 13 = .ok (.iconst 1, 1) := by decide +kernel
theorem dL_sealOf_14 : decode cL_sealOf 14 = .ok (.ireturn, 1) := by decide +kernel
theorem dL_sealOf_15 : decode cL_sealOf 15 = .ok (.iconst 0, 1) := by decide +kernel
theorem dL_sealOf_16 : decode cL_sealOf 16 = .ok (.ireturn, 1) := by decide +kernel
theorem dL_wouldCertify_0 : decode cL_wouldCertify 0 = .ok (.aload_n 2, 1) := by decide +kernel
theorem dL_wouldCertify_1 : decode cL_wouldCertify 1 = .ok (.iconst 0, 1) := by decide +kernel
theorem dL_wouldCertify_2 : decode cL_wouldCertify 2 = .ok (.aload_n 0, 1) := by decide +kernel
theorem dL_wouldCertify_3 : decode cL_wouldCertify 3 = .ok (.iload_n 1, 1) := by decide +kernel
theorem dL_wouldCertify_4 : decode cL_wouldCertify 4 = .ok (.invokevirtual 87, 3) := by decide +kernel
theorem dL_wouldCertify_7 : decode cL_wouldCertify 7 = .ok (.i2l, 1) := by decide +kernel
theorem dL_wouldCertify_8 : decode cL_wouldCertify 8 = .ok (.lastore, 1) := by decide +kernel
theorem dL_wouldCertify_9 : decode cL_wouldCertify 9 = .ok (.goto 6, 3) := by decide +kernel
theorem dL_wouldCertify_12 : decode cL_wouldCertify 12 = .ok (.astore_n 3, 1) := by decide +kernel
theorem dL_wouldCertify_13 : decode cL_wouldCertify 13 = .ok (.iconst 1, 1) := by decide +kernel
theorem dL_wouldCertify_14 : decode cL_wouldCertify 14 = .ok (.ireturn, 1) := by decide +kernel
theorem dL_wouldCertify_15 : decode cL_wouldCertify 15 = .ok (.iconst 0, 1) := by decide +kernel
theorem dL_wouldCertify_16 : decode cL_wouldCertify 16 = .ok (.ireturn, 1) := by decide +kernel
theorem dL_wouldRefund_0 : decode cL_wouldRefund 0 = .ok (.aload_n 3, 1) := by decide +kernel
theorem dL_wouldRefund_1 : decode cL_wouldRefund 1 = .ok (.iconst 0, 1) := by decide +kernel
theorem dL_wouldRefund_2 : decode cL_wouldRefund 2 = .ok (.aload_n 0, 1) := by decide +kernel
theorem dL_wouldRefund_3 : decode cL_wouldRefund 3 = .ok (.iload_n 1, 1) := by decide +kernel
theorem dL_wouldRefund_4 : decode cL_wouldRefund 4 = .ok (.iload_n 2, 1) := by decide +kernel
theorem dL_wouldRefund_5 : decode cL_wouldRefund 5 = .ok (.invokevirtual 90, 3) := by decide +kernel
theorem dL_wouldRefund_8 : decode cL_wouldRefund 8 = .ok (.i2l, 1) := by decide +kernel
theorem dL_wouldRefund_9 : decode cL_wouldRefund 9 = .ok (.lastore, 1) := by decide +kernel
theorem dL_wouldRefund_10 : decode cL_wouldRefund 10 = .ok (.goto 11, 3) := by decide +kernel
theorem dL_wouldRefund_13 : decode cL_wouldRefund 13 = .ok (.astore 4, 2) := by decide +kernel
theorem dL_wouldRefund_15 : decode cL_wouldRefund 15 = .ok (.iconst 1, 1) := by decide +kernel
theorem dL_wouldRefund_16 : decode cL_wouldRefund 16 = .ok (.ireturn, 1) := by decide +kernel
theorem dL_wouldRefund_17 : decode cL_wouldRefund 17 = .ok (.astore 4, 2) := by decide +kernel
theorem dL_wouldRefund_19 : decode cL_wouldRefund 19 = .ok (.iconst 2, 1) := by decide +kernel
theorem dL_wouldRefund_20 : decode cL_wouldRefund 20 = .ok (.ireturn, 1) := by decide +kernel
theorem dL_wouldRefund_21 : decode cL_wouldRefund 21 = .ok (.iconst 0, 1) := by decide +kernel
theorem dL_wouldRefund_22 : decode cL_wouldRefund 22 = .ok (.ireturn, 1) := by decide +kernel
theorem dL_missesUntilShaken_0 : decode cL_missesUntilShaken 0 = .ok (.aload_n 2, 1) := by decide +kernel
theorem dL_missesUntilShaken_1 : decode cL_missesUntilShaken 1 = .ok (.iconst 0, 1) := by decide +kernel
theorem dL_missesUntilShaken_2 : decode cL_missesUntilShaken 2 = .ok (.aload_n 0, 1) := by decide +kernel
theorem dL_missesUntilShaken_3 : decode cL_missesUntilShaken 3 = .ok (.iload_n 1, 1) := by decide +kernel
theorem dL_missesUntilShaken_4 : decode cL_missesUntilShaken 4 = .ok (.invokevirtual 93, 3) := by decide +kernel
theorem dL_missesUntilShaken_7 : decode cL_missesUntilShaken 7 = .ok (.i2l, 1) := by decide +kernel
theorem dL_missesUntilShaken_8 : decode cL_missesUntilShaken 8 = .ok (.lastore, 1) := by decide +kernel
theorem dL_missesUntilShaken_9 : decode cL_missesUntilShaken 9 = .ok (.goto 6, 3) := by decide +kernel
theorem dL_missesUntilShaken_12 : decode cL_missesUntilShaken 12 = .ok (.astore_n 3, 1) := by decide +kernel
theorem dL_missesUntilShaken_13 : decode cL_missesUntilShaken 13 = .ok (.iconst 1, 1) := by decide +kernel
theorem dL_missesUntilShaken_14 : decode cL_missesUntilShaken 14 = .ok (.ireturn, 1) := by decide +kernel
theorem dL_missesUntilShaken_15 : decode cL_missesUntilShaken 15 = .ok (.iconst 0, 1) := by decide +kernel
theorem dL_missesUntilShaken_16 : decode cL_missesUntilShaken 16 = .ok (.ireturn, 1) := by decide +kernel

section
-- ===== PART A: goes FIRST, ahead of the names: the tables' words, and 'selects' of the private methods out of them =====
/-- a private method of a class that the tables say can be made, by its rows of tables_1 -/
def lw_okq (q : MethodName × Nat) : Prop := (q.1.cls ≠ "java/lang/invoke/MethodHandle" ∧ q.1.cls ≠ "java/lang/invoke/VarHandle") ∧ Cond.instantiable q.1.cls q.2 ∈ tables_1 ∧ Cond.privateMethod q.1 ∈ tables_1 ∧ Cond.instanceMethod q.1 ∈ tables_1
theorem lw_p0 : lw_okq (⟨"MissRegistry", "isShaken", "(I)Z"⟩, 16) := ⟨⟨by decide +kernel, by decide +kernel⟩, List.mem_of_getElem? (i := 15) (by decide +kernel), List.mem_of_getElem? (i := 94) (by decide +kernel), List.mem_of_getElem? (i := 95) (by decide +kernel)⟩
theorem lw_p1 : lw_okq (⟨"MissRegistry", "nightsToCalm", "(I)I"⟩, 16) := ⟨⟨by decide +kernel, by decide +kernel⟩, List.mem_of_getElem? (i := 15) (by decide +kernel), List.mem_of_getElem? (i := 118) (by decide +kernel), List.mem_of_getElem? (i := 119) (by decide +kernel)⟩
theorem lw_p2 : lw_okq (⟨"MissRegistry", "digestRegistry", "(J)J"⟩, 16) := ⟨⟨by decide +kernel, by decide +kernel⟩, List.mem_of_getElem? (i := 15) (by decide +kernel), List.mem_of_getElem? (i := 145) (by decide +kernel), List.mem_of_getElem? (i := 146) (by decide +kernel)⟩
theorem lw_p3 : lw_okq (⟨"MissRegistry", "requireInches", "(I)V"⟩, 16) := ⟨⟨by decide +kernel, by decide +kernel⟩, List.mem_of_getElem? (i := 15) (by decide +kernel), List.mem_of_getElem? (i := 166) (by decide +kernel), List.mem_of_getElem? (i := 167) (by decide +kernel)⟩
theorem lw_p4 : lw_okq (⟨"java/lang/Throwable", "fillInStackTrace", "(I)Ljava/lang/Throwable;"⟩, 6) := ⟨⟨by decide +kernel, by decide +kernel⟩, List.mem_of_getElem? (i := 208) (by decide +kernel), List.mem_of_getElem? (i := 206) (by decide +kernel), List.mem_of_getElem? (i := 207) (by decide +kernel)⟩
theorem lw_p5 : lw_okq (⟨"MissRegistry", "middleTale", "(I)I"⟩, 16) := ⟨⟨by decide +kernel, by decide +kernel⟩, List.mem_of_getElem? (i := 15) (by decide +kernel), List.mem_of_getElem? (i := 238) (by decide +kernel), List.mem_of_getElem? (i := 239) (by decide +kernel)⟩
theorem lw_p6 : lw_okq (⟨"MissRegistry", "tale", "(II)I"⟩, 16) := ⟨⟨by decide +kernel, by decide +kernel⟩, List.mem_of_getElem? (i := 15) (by decide +kernel), List.mem_of_getElem? (i := 242) (by decide +kernel), List.mem_of_getElem? (i := 243) (by decide +kernel)⟩
theorem lw_p7 : lw_okq (⟨"MissRegistry", "insertTale", "(II)V"⟩, 16) := ⟨⟨by decide +kernel, by decide +kernel⟩, List.mem_of_getElem? (i := 15) (by decide +kernel), List.mem_of_getElem? (i := 246) (by decide +kernel), List.mem_of_getElem? (i := 247) (by decide +kernel)⟩
theorem lw_p8 : lw_okq (⟨"MissRegistry", "isWitness", "(I)Z"⟩, 16) := ⟨⟨by decide +kernel, by decide +kernel⟩, List.mem_of_getElem? (i := 15) (by decide +kernel), List.mem_of_getElem? (i := 255) (by decide +kernel), List.mem_of_getElem? (i := 256) (by decide +kernel)⟩
theorem lw_p9 : lw_okq (⟨"MissRegistry", "digestPerson", "(JI)J"⟩, 16) := ⟨⟨by decide +kernel, by decide +kernel⟩, List.mem_of_getElem? (i := 15) (by decide +kernel), List.mem_of_getElem? (i := 264) (by decide +kernel), List.mem_of_getElem? (i := 265) (by decide +kernel)⟩
theorem lw_p10 : lw_okq (⟨"MissRegistry", "requirePerson", "(I)V"⟩, 16) := ⟨⟨by decide +kernel, by decide +kernel⟩, List.mem_of_getElem? (i := 15) (by decide +kernel), List.mem_of_getElem? (i := 272) (by decide +kernel), List.mem_of_getElem? (i := 273) (by decide +kernel)⟩
theorem lw_p11 : lw_okq (⟨"MissRegistry", "isPerson", "(I)Z"⟩, 16) := ⟨⟨by decide +kernel, by decide +kernel⟩, List.mem_of_getElem? (i := 15) (by decide +kernel), List.mem_of_getElem? (i := 276) (by decide +kernel), List.mem_of_getElem? (i := 277) (by decide +kernel)⟩
theorem lw_p12 : lw_okq (⟨"MissRegistry", "findLastHeir", "(I)I"⟩, 16) := ⟨⟨by decide +kernel, by decide +kernel⟩, List.mem_of_getElem? (i := 15) (by decide +kernel), List.mem_of_getElem? (i := 319) (by decide +kernel), List.mem_of_getElem? (i := 320) (by decide +kernel)⟩
theorem lw_p13 : lw_okq (⟨"MissRegistry", "digestLatestMiss", "(J)J"⟩, 16) := ⟨⟨by decide +kernel, by decide +kernel⟩, List.mem_of_getElem? (i := 15) (by decide +kernel), List.mem_of_getElem? (i := 331) (by decide +kernel), List.mem_of_getElem? (i := 332) (by decide +kernel)⟩
theorem lw_p14 : lw_okq (⟨"MissRegistry", "requireMiss", "(I)V"⟩, 16) := ⟨⟨by decide +kernel, by decide +kernel⟩, List.mem_of_getElem? (i := 15) (by decide +kernel), List.mem_of_getElem? (i := 339) (by decide +kernel), List.mem_of_getElem? (i := 340) (by decide +kernel)⟩
theorem lw_p15 : lw_okq (⟨"MissRegistry", "requireAlive", "(I)V"⟩, 16) := ⟨⟨by decide +kernel, by decide +kernel⟩, List.mem_of_getElem? (i := 15) (by decide +kernel), List.mem_of_getElem? (i := 453) (by decide +kernel), List.mem_of_getElem? (i := 454) (by decide +kernel)⟩
def lw_privs_1 : List (MethodName × Nat) := [(⟨"MissRegistry", "isShaken", "(I)Z"⟩, 16), (⟨"MissRegistry", "nightsToCalm", "(I)I"⟩, 16), (⟨"MissRegistry", "digestRegistry", "(J)J"⟩, 16), (⟨"MissRegistry", "requireInches", "(I)V"⟩, 16), (⟨"java/lang/Throwable", "fillInStackTrace", "(I)Ljava/lang/Throwable;"⟩, 6), (⟨"MissRegistry", "middleTale", "(I)I"⟩, 16), (⟨"MissRegistry", "tale", "(II)I"⟩, 16), (⟨"MissRegistry", "insertTale", "(II)V"⟩, 16), (⟨"MissRegistry", "isWitness", "(I)Z"⟩, 16), (⟨"MissRegistry", "digestPerson", "(JI)J"⟩, 16), (⟨"MissRegistry", "requirePerson", "(I)V"⟩, 16), (⟨"MissRegistry", "isPerson", "(I)Z"⟩, 16), (⟨"MissRegistry", "findLastHeir", "(I)I"⟩, 16), (⟨"MissRegistry", "digestLatestMiss", "(J)J"⟩, 16), (⟨"MissRegistry", "requireMiss", "(I)V"⟩, 16), (⟨"MissRegistry", "requireAlive", "(I)V"⟩, 16)]
theorem lw_r1 : ∀ q ∈ lw_privs_1, lw_okq q := List.forall_mem_cons.mpr ⟨lw_p0, List.forall_mem_cons.mpr ⟨lw_p1, List.forall_mem_cons.mpr ⟨lw_p2, List.forall_mem_cons.mpr ⟨lw_p3, List.forall_mem_cons.mpr ⟨lw_p4, List.forall_mem_cons.mpr ⟨lw_p5, List.forall_mem_cons.mpr ⟨lw_p6, List.forall_mem_cons.mpr ⟨lw_p7, List.forall_mem_cons.mpr ⟨lw_p8, List.forall_mem_cons.mpr ⟨lw_p9, List.forall_mem_cons.mpr ⟨lw_p10, List.forall_mem_cons.mpr ⟨lw_p11, List.forall_mem_cons.mpr ⟨lw_p12, List.forall_mem_cons.mpr ⟨lw_p13, List.forall_mem_cons.mpr ⟨lw_p14, List.forall_mem_cons.mpr ⟨lw_p15, fun _ h => absurd h List.not_mem_nil⟩⟩⟩⟩⟩⟩⟩⟩⟩⟩⟩⟩⟩⟩⟩⟩
theorem lw_p16 : lw_okq (⟨"MissRegistry", "fatePrice", "(I)I"⟩, 16) := ⟨⟨by decide +kernel, by decide +kernel⟩, List.mem_of_getElem? (i := 15) (by decide +kernel), List.mem_of_getElem? (i := 466) (by decide +kernel), List.mem_of_getElem? (i := 467) (by decide +kernel)⟩
theorem lw_p17 : lw_okq (⟨"MissRegistry", "requireWitness", "(I)V"⟩, 16) := ⟨⟨by decide +kernel, by decide +kernel⟩, List.mem_of_getElem? (i := 15) (by decide +kernel), List.mem_of_getElem? (i := 478) (by decide +kernel), List.mem_of_getElem? (i := 479) (by decide +kernel)⟩
theorem lw_p18 : lw_okq (⟨"MissRegistry", "refundFate", "(II)V"⟩, 16) := ⟨⟨by decide +kernel, by decide +kernel⟩, List.mem_of_getElem? (i := 15) (by decide +kernel), List.mem_of_getElem? (i := 491) (by decide +kernel), List.mem_of_getElem? (i := 492) (by decide +kernel)⟩
theorem lw_p19 : lw_okq (⟨"MissRegistry", "usesFate", "(II)Z"⟩, 16) := ⟨⟨by decide +kernel, by decide +kernel⟩, List.mem_of_getElem? (i := 15) (by decide +kernel), List.mem_of_getElem? (i := 495) (by decide +kernel), List.mem_of_getElem? (i := 496) (by decide +kernel)⟩
theorem lw_p20 : lw_okq (⟨"MissRegistry", "refundCoins", "(II)I"⟩, 16) := ⟨⟨by decide +kernel, by decide +kernel⟩, List.mem_of_getElem? (i := 15) (by decide +kernel), List.mem_of_getElem? (i := 499) (by decide +kernel), List.mem_of_getElem? (i := 500) (by decide +kernel)⟩
theorem lw_p21 : lw_okq (⟨"MissRegistry", "frightenWitnesses", "(I)V"⟩, 16) := ⟨⟨by decide +kernel, by decide +kernel⟩, List.mem_of_getElem? (i := 15) (by decide +kernel), List.mem_of_getElem? (i := 506) (by decide +kernel), List.mem_of_getElem? (i := 507) (by decide +kernel)⟩
theorem lw_p22 : lw_okq (⟨"MissRegistry", "passOneNight", "()V"⟩, 16) := ⟨⟨by decide +kernel, by decide +kernel⟩, List.mem_of_getElem? (i := 15) (by decide +kernel), List.mem_of_getElem? (i := 525) (by decide +kernel), List.mem_of_getElem? (i := 526) (by decide +kernel)⟩
theorem lw_p23 : lw_okq (⟨"MissRegistryModel", "fail", "(I)I"⟩, 16) := ⟨⟨by decide +kernel, by decide +kernel⟩, List.mem_of_getElem? (i := 619) (by decide +kernel), List.mem_of_getElem? (i := 685) (by decide +kernel), List.mem_of_getElem? (i := 686) (by decide +kernel)⟩
theorem lw_p24 : lw_okq (⟨"MissRegistryModel", "isPerson", "(I)Z"⟩, 16) := ⟨⟨by decide +kernel, by decide +kernel⟩, List.mem_of_getElem? (i := 619) (by decide +kernel), List.mem_of_getElem? (i := 697) (by decide +kernel), List.mem_of_getElem? (i := 698) (by decide +kernel)⟩
theorem lw_p25 : lw_okq (⟨"MissRegistryModel", "price", "(I)I"⟩, 16) := ⟨⟨by decide +kernel, by decide +kernel⟩, List.mem_of_getElem? (i := 619) (by decide +kernel), List.mem_of_getElem? (i := 705) (by decide +kernel), List.mem_of_getElem? (i := 706) (by decide +kernel)⟩
theorem lw_p26 : lw_okq (⟨"MissRegistryModel", "isWitness", "(I)Z"⟩, 16) := ⟨⟨by decide +kernel, by decide +kernel⟩, List.mem_of_getElem? (i := 619) (by decide +kernel), List.mem_of_getElem? (i := 713) (by decide +kernel), List.mem_of_getElem? (i := 714) (by decide +kernel)⟩
theorem lw_p27 : lw_okq (⟨"MissRegistryModel", "middle", "(I)I"⟩, 16) := ⟨⟨by decide +kernel, by decide +kernel⟩, List.mem_of_getElem? (i := 619) (by decide +kernel), List.mem_of_getElem? (i := 721) (by decide +kernel), List.mem_of_getElem? (i := 722) (by decide +kernel)⟩
theorem lw_p28 : lw_okq (⟨"MissRegistryModel", "tells", "(II)I"⟩, 16) := ⟨⟨by decide +kernel, by decide +kernel⟩, List.mem_of_getElem? (i := 619) (by decide +kernel), List.mem_of_getElem? (i := 725) (by decide +kernel), List.mem_of_getElem? (i := 726) (by decide +kernel)⟩
theorem lw_p29 : lw_okq (⟨"MissRegistryModel", "refund", "(II)I"⟩, 16) := ⟨⟨by decide +kernel, by decide +kernel⟩, List.mem_of_getElem? (i := 619) (by decide +kernel), List.mem_of_getElem? (i := 730) (by decide +kernel), List.mem_of_getElem? (i := 731) (by decide +kernel)⟩
theorem lw_p30 : lw_okq (⟨"MissRegistryModel", "last", "(I)I"⟩, 16) := ⟨⟨by decide +kernel, by decide +kernel⟩, List.mem_of_getElem? (i := 619) (by decide +kernel), List.mem_of_getElem? (i := 742) (by decide +kernel), List.mem_of_getElem? (i := 743) (by decide +kernel)⟩
theorem lw_p31 : lw_okq (⟨"MissRegistryModel", "shakenNow", "()I"⟩, 16) := ⟨⟨by decide +kernel, by decide +kernel⟩, List.mem_of_getElem? (i := 619) (by decide +kernel), List.mem_of_getElem? (i := 750) (by decide +kernel), List.mem_of_getElem? (i := 751) (by decide +kernel)⟩
def lw_privs_2 : List (MethodName × Nat) := [(⟨"MissRegistry", "fatePrice", "(I)I"⟩, 16), (⟨"MissRegistry", "requireWitness", "(I)V"⟩, 16), (⟨"MissRegistry", "refundFate", "(II)V"⟩, 16), (⟨"MissRegistry", "usesFate", "(II)Z"⟩, 16), (⟨"MissRegistry", "refundCoins", "(II)I"⟩, 16), (⟨"MissRegistry", "frightenWitnesses", "(I)V"⟩, 16), (⟨"MissRegistry", "passOneNight", "()V"⟩, 16), (⟨"MissRegistryModel", "fail", "(I)I"⟩, 16), (⟨"MissRegistryModel", "isPerson", "(I)Z"⟩, 16), (⟨"MissRegistryModel", "price", "(I)I"⟩, 16), (⟨"MissRegistryModel", "isWitness", "(I)Z"⟩, 16), (⟨"MissRegistryModel", "middle", "(I)I"⟩, 16), (⟨"MissRegistryModel", "tells", "(II)I"⟩, 16), (⟨"MissRegistryModel", "refund", "(II)I"⟩, 16), (⟨"MissRegistryModel", "last", "(I)I"⟩, 16), (⟨"MissRegistryModel", "shakenNow", "()I"⟩, 16)]
theorem lw_r2 : ∀ q ∈ lw_privs_2, lw_okq q := List.forall_mem_cons.mpr ⟨lw_p16, List.forall_mem_cons.mpr ⟨lw_p17, List.forall_mem_cons.mpr ⟨lw_p18, List.forall_mem_cons.mpr ⟨lw_p19, List.forall_mem_cons.mpr ⟨lw_p20, List.forall_mem_cons.mpr ⟨lw_p21, List.forall_mem_cons.mpr ⟨lw_p22, List.forall_mem_cons.mpr ⟨lw_p23, List.forall_mem_cons.mpr ⟨lw_p24, List.forall_mem_cons.mpr ⟨lw_p25, List.forall_mem_cons.mpr ⟨lw_p26, List.forall_mem_cons.mpr ⟨lw_p27, List.forall_mem_cons.mpr ⟨lw_p28, List.forall_mem_cons.mpr ⟨lw_p29, List.forall_mem_cons.mpr ⟨lw_p30, List.forall_mem_cons.mpr ⟨lw_p31, fun _ h => absurd h List.not_mem_nil⟩⟩⟩⟩⟩⟩⟩⟩⟩⟩⟩⟩⟩⟩⟩⟩
theorem lw_p32 : lw_okq (⟨"MissRegistryModel", "told", "(I)I"⟩, 16) := ⟨⟨by decide +kernel, by decide +kernel⟩, List.mem_of_getElem? (i := 619) (by decide +kernel), List.mem_of_getElem? (i := 758) (by decide +kernel), List.mem_of_getElem? (i := 759) (by decide +kernel)⟩
theorem lw_p33 : lw_okq (⟨"MissRegistryModel", "living", "()I"⟩, 16) := ⟨⟨by decide +kernel, by decide +kernel⟩, List.mem_of_getElem? (i := 619) (by decide +kernel), List.mem_of_getElem? (i := 770) (by decide +kernel), List.mem_of_getElem? (i := 771) (by decide +kernel)⟩
theorem lw_p34 : lw_okq (⟨"MissRegistryModel", "sealed", "()I"⟩, 16) := ⟨⟨by decide +kernel, by decide +kernel⟩, List.mem_of_getElem? (i := 619) (by decide +kernel), List.mem_of_getElem? (i := 798) (by decide +kernel), List.mem_of_getElem? (i := 799) (by decide +kernel)⟩
theorem lw_p35 : lw_okq (⟨"MissRegistryModel", "of", "(I[I)I"⟩, 16) := ⟨⟨by decide +kernel, by decide +kernel⟩, List.mem_of_getElem? (i := 619) (by decide +kernel), List.mem_of_getElem? (i := 810) (by decide +kernel), List.mem_of_getElem? (i := 811) (by decide +kernel)⟩
theorem lw_p36 : lw_okq (⟨"MissRegistryModel", "many", "(I)I"⟩, 16) := ⟨⟨by decide +kernel, by decide +kernel⟩, List.mem_of_getElem? (i := 619) (by decide +kernel), List.mem_of_getElem? (i := 838) (by decide +kernel), List.mem_of_getElem? (i := 839) (by decide +kernel)⟩
theorem lw_p37 : lw_okq (⟨"MissRegistryModel", "closest", "(I)I"⟩, 16) := ⟨⟨by decide +kernel, by decide +kernel⟩, List.mem_of_getElem? (i := 619) (by decide +kernel), List.mem_of_getElem? (i := 846) (by decide +kernel), List.mem_of_getElem? (i := 847) (by decide +kernel)⟩
theorem lw_p38 : lw_okq (⟨"MissRegistryModel", "isMiss", "(I)Z"⟩, 16) := ⟨⟨by decide +kernel, by decide +kernel⟩, List.mem_of_getElem? (i := 619) (by decide +kernel), List.mem_of_getElem? (i := 866) (by decide +kernel), List.mem_of_getElem? (i := 867) (by decide +kernel)⟩
theorem lw_p39 : lw_okq (⟨"MissRegistryModel", "sealAt", "(I)I"⟩, 16) := ⟨⟨by decide +kernel, by decide +kernel⟩, List.mem_of_getElem? (i := 619) (by decide +kernel), List.mem_of_getElem? (i := 878) (by decide +kernel), List.mem_of_getElem? (i := 879) (by decide +kernel)⟩
theorem lw_p40 : lw_okq (⟨"MissRegistryModel", "untilShaken", "(I)I"⟩, 16) := ⟨⟨by decide +kernel, by decide +kernel⟩, List.mem_of_getElem? (i := 619) (by decide +kernel), List.mem_of_getElem? (i := 905) (by decide +kernel), List.mem_of_getElem? (i := 906) (by decide +kernel)⟩
theorem lw_p41 : lw_okq (⟨"MissRegistryModel", "untilCalm", "()I"⟩, 16) := ⟨⟨by decide +kernel, by decide +kernel⟩, List.mem_of_getElem? (i := 619) (by decide +kernel), List.mem_of_getElem? (i := 913) (by decide +kernel), List.mem_of_getElem? (i := 914) (by decide +kernel)⟩
theorem lw_p42 : lw_okq (⟨"MissRegistryModel", "steady", "()I"⟩, 16) := ⟨⟨by decide +kernel, by decide +kernel⟩, List.mem_of_getElem? (i := 619) (by decide +kernel), List.mem_of_getElem? (i := 921) (by decide +kernel), List.mem_of_getElem? (i := 922) (by decide +kernel)⟩
theorem lw_p43 : lw_okq (⟨"MissRegistryModel", "lucky", "()I"⟩, 16) := ⟨⟨by decide +kernel, by decide +kernel⟩, List.mem_of_getElem? (i := 619) (by decide +kernel), List.mem_of_getElem? (i := 929) (by decide +kernel), List.mem_of_getElem? (i := 930) (by decide +kernel)⟩
def lw_privs_3 : List (MethodName × Nat) := [(⟨"MissRegistryModel", "told", "(I)I"⟩, 16), (⟨"MissRegistryModel", "living", "()I"⟩, 16), (⟨"MissRegistryModel", "sealed", "()I"⟩, 16), (⟨"MissRegistryModel", "of", "(I[I)I"⟩, 16), (⟨"MissRegistryModel", "many", "(I)I"⟩, 16), (⟨"MissRegistryModel", "closest", "(I)I"⟩, 16), (⟨"MissRegistryModel", "isMiss", "(I)Z"⟩, 16), (⟨"MissRegistryModel", "sealAt", "(I)I"⟩, 16), (⟨"MissRegistryModel", "untilShaken", "(I)I"⟩, 16), (⟨"MissRegistryModel", "untilCalm", "()I"⟩, 16), (⟨"MissRegistryModel", "steady", "()I"⟩, 16), (⟨"MissRegistryModel", "lucky", "()I"⟩, 16)]
theorem lw_r3 : ∀ q ∈ lw_privs_3, lw_okq q := List.forall_mem_cons.mpr ⟨lw_p32, List.forall_mem_cons.mpr ⟨lw_p33, List.forall_mem_cons.mpr ⟨lw_p34, List.forall_mem_cons.mpr ⟨lw_p35, List.forall_mem_cons.mpr ⟨lw_p36, List.forall_mem_cons.mpr ⟨lw_p37, List.forall_mem_cons.mpr ⟨lw_p38, List.forall_mem_cons.mpr ⟨lw_p39, List.forall_mem_cons.mpr ⟨lw_p40, List.forall_mem_cons.mpr ⟨lw_p41, List.forall_mem_cons.mpr ⟨lw_p42, List.forall_mem_cons.mpr ⟨lw_p43, fun _ h => absurd h List.not_mem_nil⟩⟩⟩⟩⟩⟩⟩⟩⟩⟩⟩⟩
def lw_privs : List (MethodName × Nat) := lw_privs_1 ++ (lw_privs_2 ++ (lw_privs_3))
def lw_tbl : List Cond := k2_sels lw_privs ++ tables_1
theorem lw_privs_ok : ∀ q ∈ lw_privs, lw_okq q := by
  show ∀ q ∈ lw_privs_1 ++ (lw_privs_2 ++ (lw_privs_3)), lw_okq q
  exact List.forall_mem_append.mpr ⟨lw_r1, List.forall_mem_append.mpr ⟨lw_r2, lw_r3⟩⟩
/-- the streams that the claim lets the run draw from -/
abbrev lw_cs : List Choice := [Jvm.Choice.named "NaN.bits"]
theorem lw_bits : nanBits ∈ lw_cs := by first | decide | exact List.mem_cons_self | simp [lw_cs, nanBits]
/-! ===== BEGIN words of one list among another's, by their places ===== -/
theorem goodIn_r {big : List Cond} (ws : List Cond) (ps : List Nat) (hp : ws = ps.filterMap (fun i => big[i]?)) (h : ws.all goodWord = true) : GoodIn big ws := by
  intro w hw
  have h1 := List.all_eq_true.mp h w hw
  rw [hp] at hw
  obtain ⟨i, -, hi⟩ := List.mem_filterMap.mp hw
  have hm : w ∈ big := by first | exact List.mem_of_getElem? hi | exact List.getElem?_mem hi
  exact ⟨hm, good_of_word h1⟩
theorem goodIn_app {big a b : List Cond} (ha : GoodIn big a) (hb : GoodIn big b) : GoodIn big (a ++ b) := fun w h => (List.mem_append.mp h).elim (ha w) (hb w)
theorem goodIn_ca {big a b : List Cond} {c : Cond} (ha : GoodIn big (c :: a)) (hb : GoodIn big b) : GoodIn big (c :: (a ++ b)) := fun w h => (List.mem_cons.mp h).elim (fun e => ha w (List.mem_cons.mpr (Or.inl e))) (fun h => (List.mem_append.mp h).elim (fun h => ha w (List.mem_cons.mpr (Or.inr h))) (hb w))
theorem goodIn_sub {big ws : List Cond} (hm : ∀ w ∈ ws, w ∈ big) (h : ws.all goodWord = true) : GoodIn big ws := fun w hw => ⟨hm w hw, good_of_word (List.all_eq_true.mp h w hw)⟩
/-! ===== END ===== -/

/-! ===== BEGIN exceptions that leave a method, and their catching by the caller (launches without stack traces) ===== -/
section VXA
/-! The laws vx_back, vx_callV, vx_callS, vx_callSW, vx_throw0, vx_throwS follow proofs of the library, with one case more: JvmDerived/Free/Laws.lean (Back.of_free), Shelf42/LK1.lean (callV, callS), Shelf/KitTraced.lean (throwNew0V, throwNewS). -/
/-- where a method has thrown q: the class by its name, the cell, what was written, the world -/
def vx_T (XC : String → State → State → Prop) (st : State) (q : Addr) (t : State) (mc ms : Nat) (free : Addr → Prop) : Prop :=
  ∃ (E : String) (ce : Cell) (L : List Loc), XC E st t ∧ t.heap[q]? = some ce ∧ ce.vm = .none ∧ st.vm.findClass E = some ce.cls ∧ st.WarmedH t.vm ∧ st.sameButNew ({ t with vm := st.vm } : State) L mc ms ∧ ∀ z ∈ L, free z.base
def vx_Q (Qc : Array Value → State → Outcome → State → Prop) (XC : String → State → State → Prop) (mc ms : Nat) (free : Addr → Prop) : Array Value → State → Outcome → State → Prop := fun a st o t =>
  (Qc a st o t ∧ ∃ L, FrameEnd st o t L mc ms ∧ ∀ q ∈ L, free q.base) ∨ ∃ q, o = .threw q ∧ vx_T XC st q t mc ms free
/-- a callee that returns or throws -/
def vx_Met (l : Launch) (y : MethodName) (ws : List Cond) (rm : Room) (Pc : Array Value → State → Prop) (Qc : Array Value → State → Outcome → State → Prop) (XC : String → State → State → Prop) (mc ms : Nat) (free : Addr → Prop) : Prop :=
  MetFree l y (headSpec ws rm) Pc (fun _ _ _ _ _ => True) (vx_Q Qc XC mc ms free)
def vx_Post (XC : String → State → State → Prop) (mc ms : Nat) (free : Addr → Prop) : Pt → Array Value → Addr → Pt → Prop := fun A a q B =>
  ∃ (g : JFrame) (mk : MethodId) (t : State) (L : List Loc) (E : String) (ce : Cell), B.U.heap = t.heap ∧ B.U.vm = t.vm ∧ XC E (A.U.calling g mk a) t ∧ t.heap[q]? = some ce ∧ ce.vm = .none ∧ A.U.vm.findClass E = some ce.cls ∧ B.locs = A.locs ++ L ∧ (∀ z ∈ L, free z.base) ∧ B.cells = A.cells + mc ∧ B.slots = A.slots + ms
def vx_Back (l : Launch) (R : Room) (p : Program) (e : Env) (below : List Frame) (s : State) (sargs : Array Value) (y : MethodName) (len W9 : Nat)
    (Pre : Pt → Array Value → Prop) (Post : Pt → Array Value → Option Value → Pt → Prop) (PostX : Pt → Array Value → Addr → Pt → Prop) : Prop :=
  ∀ (m : MethodId) (meth : Method) (c : Code) (A : Pt) (g : JFrame) (ig : Instr) (mk : MethodId) (a : Array Value),
    Stand p l e R s m sargs below meth c A.U A.locs A.cells A.slots → g.method = m → g.locals.size = c.maxLocals → decode c.code g.pc = .ok (ig, len) →
    2 * g.monitorRoom + (g.stack.map fun v => v.category).sum ≤ W9 → A.U.methodNamed? y = some mk → Pre A a →
    (∃ (v : Option Value) (B : Pt), Stand p l e R s m sargs below meth c B.U B.locs B.cells B.slots ∧ Post A a v B ∧
      Steps p.tables e below (doInvoke e (A.U.setTop g) [] mk a).1 (B.U.setTop { g with pc := g.pc + len, stack := v.toList ++ g.stack })) ∨
    (∃ (q : Addr) (B : Pt), Stand p l e R s m sargs below meth c B.U B.locs B.cells B.slots ∧ PostX A a q B ∧
      Steps p.tables e below (doInvoke e (A.U.setTop g) [] mk a).1 ((B.U.setTop g).pushFrame (.throwing q)))
section Payer
variable {l : Launch} {R : Room} {p : Program} {e : Env} {below : List Frame} {s : State} {sargs : Array Value} {y : MethodName} {len W9 : Nat}
theorem vx_back {ws : List Cond} {rm : Room} {Pc : Array Value → State → Prop} {Qc : Array Value → State → Outcome → State → Prop} {XC : String → State → State → Prop} {mc ms : Nat} {free : Addr → Prop} {bytes : ByteArray} {maxL : Nat} {ret : Option FieldType}
    (hM : vx_Met l y ws rm Pc Qc XC mc ms free) (hblind : FrameBlind Pc) (hrc : rm.cells = mc) (hrs : rm.slots = ms)
    (hframes : rm.frames + 1 ≤ R.frames) (hlocals : W9 + (maxL + 11) + rm.locals ≤ R.locals)
    (hws : ∀ w ∈ ws, ∀ a' U, s.WarmedH U.vm → w.before a' U = true) (hcode : Cond.code y bytes maxL ret ∈ ws) (hinit : ∀ a' U, s.WarmedH U.vm → (Cond.initialized y.cls).before a' U = true) :
    vx_Back l R p e below s sargs y len W9 (PreOf R mc ms Pc) (PostOf Qc mc ms free) (vx_Post XC mc ms free) := by
  intro m meth c A g ig mk a X hg hsize hdg hW hn hp
  have h1 : (headSpec ws rm).pre.before a A.U = true := atoms_intro fun w hw => hws w hw _ _ X.warmed
  have h2 : (Cond.code y bytes maxL ret).before a A.U = true := hws _ hcode _ _ X.warmed
  have h3 : (Cond.initialized y.cls).before a A.U = true := hinit _ _ X.warmed
  have h4 : A.cells + (headSpec ws rm).room.cells ≤ R.cells := by rw [show (headSpec ws rm).room.cells = mc from hrc]; exact hp.1
  have h5 : A.slots + (headSpec ws rm).room.slots ≤ R.slots := by rw [show (headSpec ws rm).room.slots = ms from hrs]; exact hp.2.1
  have hPc : Pc a (A.U.calling g mk a) := hblind _ _ _ _ hp.2.2
  obtain ⟨U, Ls, c0, s0⟩ := A
  dsimp only [Pt.U, Pt.locs, Pt.cells, Pt.slots] at h1 h2 h3 h4 h5 X hn hPc ⊢
  obtain ⟨methY, cY, hmY, hcY, -, hlY, -, -, -, -⟩ := Cond.code_spec hn h2
  obtain ⟨kY, hkY, -⟩ := className_of_methodNamed hn
  have hinitY : kY.init = .initialized := Cond.initialized_spec (findClass_of_methodNamed hn) hkY h3
  have h : At U g.method c below := by rw [hg]; exact X.here
  have hlocals9 : W9 + (maxL + 11) + (headSpec ws rm).room.locals ≤ R.locals := hlocals
  have happ : (headSpec ws rm).appliesLoose y e.platform (U.calling g mk a) = true :=
    Spec.appliesLoose_calling (g := g) h hdg hn hkY hinitY
      (X.room_calling (g := g) (R' := (headSpec ws rm).room) hsize hmY hcY hframes (by rw [hlY]; omega) h4 h5) h1
  obtain ⟨mid, hmid⟩ := h.above
  have hfr : (U.setTop g).frames = (.java g :: mid) ++ below := by rw [State.frames_setTop' g h.top, hmid]; rfl
  obtain ⟨o, s₂, hsteps, -, hend, hq⟩ := Steps.callFree hM p X.admits X.cas X.clock (acts := []) hfr happ hPc trivial
  have hq' : vx_Q Qc XC mc ms free a (U.calling g mk a) o s₂ := hq
  rw [State.frames_setTop' g h.top] at hend
  obtain ⟨g₀, hg0⟩ := Option.isSome_iff_exists.mp h.top
  obtain ⟨r, hr⟩ := State.topJava?_eq_some.mp hg0
  have hr' : (({ U with heap := s₂.heap, slotsUsed := s₂.slotsUsed } : State).setVm s₂.vm).frames = .java g₀ :: r := hr
  rcases hq' with ⟨hqc, L, hfe, hL⟩ | ⟨q, rfl, E, ce, L, hx, hce, hcv, hcl, hW₂, hsm, hL⟩
  · obtain ⟨⟨v, rfl⟩, hW₂, e2, q2, q3, q4, q5, q6⟩ := id hfe
    have e3 : s₂ = ({ (U.calling g mk a).setFrames s₂.frames with heap := s₂.heap, slotsUsed := s₂.slotsUsed } : State).setVm s₂.vm := by
      have : s₂ = ({ s₂ with vm := (U.calling g mk a).vm } : State).setVm s₂.vm := rfl
      rw [e2] at this
      exact this
    obtain ⟨c₂, i₂, len₂, hc₂, hd₂, hf₂⟩ := hend
    have hW' : U.WarmedH s₂.vm := hW₂
    have hcc : c₂ = c := by
      have h1 : s₂.code? g.method = U.code? g.method := by
        rw [State.code?_eq, State.code?_eq, hW'.alike.method?]
      exact Option.some.inj (hc₂.symm.trans (h1.trans h.code))
    subst hcc
    have hlen : len₂ = len := by rw [hdg] at hd₂; cases hd₂; rfl
    subst hlen
    have hs₂ : s₂ = (({ U with heap := s₂.heap, slotsUsed := s₂.slotsUsed } : State).setVm s₂.vm).setTop { g with pc := g.pc + len₂, stack := v.toList ++ g.stack } := by
      refine e3.trans ?_
      rw [hf₂, State.calling_eq h.top, State.setFrames_setFrames, State.setTop_of_frames _ hr', hr]
      rfl
    have hsame : U.sameButNew ({ U with heap := s₂.heap, slotsUsed := s₂.slotsUsed } : State) L mc ms := by
      refine ⟨?_, q2, q3, q4, q5, q6⟩
      obtain ⟨t, ht, -⟩ := State.frames_cons hr
      show ({ U with heap := s₂.heap, slotsUsed := s₂.slotsUsed } : State) = { U.setFrames U.frames with heap := s₂.heap, slotsUsed := s₂.slotsUsed }
      rw [State.setFrames_self ht]
    subst hg
    refine Or.inl ⟨v, ⟨(({ U with heap := s₂.heap, slotsUsed := s₂.slotsUsed } : State).setVm s₂.vm), Ls ++ L, c0 + mc, s0 + ms⟩,
      ⟨X.admits, X.cas, X.clock, X.frames, X.room, X.hears, X.method, X.code, (X.here.setHeapUsed s₂.heap s₂.slotsUsed).setVm hW'.alike, X.tail, State.WarmedH.trans X.warmed hW', X.limits, X.bytes, X.same.trans (hsame.setVm s.vm)⟩,
      ⟨g, mk, s₂, L, rfl, rfl, hqc, rfl, hL, rfl, rfl⟩, ?_⟩
    show Steps p.tables e below _ ((({ U with heap := s₂.heap, slotsUsed := s₂.slotsUsed } : State).setVm s₂.vm).setTop { g with pc := g.pc + len₂, stack := v.toList ++ g.stack })
    rw [← hs₂]
    exact hsteps
  · obtain ⟨e2, q2, q3, q4, q5, q6⟩ := id hsm
    have e3 : s₂ = ({ (U.calling g mk a).setFrames s₂.frames with heap := s₂.heap, slotsUsed := s₂.slotsUsed } : State).setVm s₂.vm := by
      have : s₂ = ({ s₂ with vm := (U.calling g mk a).vm } : State).setVm s₂.vm := rfl
      rw [e2] at this
      exact this
    have hf₂ : s₂.frames = .throwing q :: .java g :: U.frames.tail := hend
    have hW' : U.WarmedH s₂.vm := hW₂
    have hs₂ : s₂ = ((({ U with heap := s₂.heap, slotsUsed := s₂.slotsUsed } : State).setVm s₂.vm).setTop g).pushFrame (.throwing q) := by
      refine e3.trans ?_
      rw [hf₂, State.calling_eq h.top, State.setFrames_setFrames, State.pushFrame, State.frames_setTop _ hr', State.setTop_of_frames _ hr', State.setFrames_setFrames, hr]
      rfl
    have hsame : U.sameButNew ({ U with heap := s₂.heap, slotsUsed := s₂.slotsUsed } : State) L mc ms := by
      refine ⟨?_, q2, q3, q4, q5, q6⟩
      obtain ⟨t, ht, -⟩ := State.frames_cons hr
      show ({ U with heap := s₂.heap, slotsUsed := s₂.slotsUsed } : State) = { U.setFrames U.frames with heap := s₂.heap, slotsUsed := s₂.slotsUsed }
      rw [State.setFrames_self ht]
    subst hg
    refine Or.inr ⟨q, ⟨(({ U with heap := s₂.heap, slotsUsed := s₂.slotsUsed } : State).setVm s₂.vm), Ls ++ L, c0 + mc, s0 + ms⟩,
      ⟨X.admits, X.cas, X.clock, X.frames, X.room, X.hears, X.method, X.code, (X.here.setHeapUsed s₂.heap s₂.slotsUsed).setVm hW'.alike, X.tail, State.WarmedH.trans X.warmed hW', X.limits, X.bytes, X.same.trans (hsame.setVm s.vm)⟩,
      ⟨g, mk, s₂, L, E, ce, rfl, rfl, hx, hce, hcv, hcl, rfl, hL, rfl, rfl⟩, ?_⟩
    show Steps p.tables e below _ (((({ U with heap := s₂.heap, slotsUsed := s₂.slotsUsed } : State).setVm s₂.vm).setTop g).pushFrame (.throwing q))
    rw [← hs₂]
    exact hsteps
end Payer
section Calls
variable {p : Program} {l : Launch} {e : Env} {R : Room} {s : State} {m : MethodId} {args : Array Value} {below : List Frame} {meth : Method} {c : Code} {T : State} {locs : List Loc} {cells slots : Nat}
theorem vx_callV (X : Stand p l e R s m args below meth c T locs cells slots) (hexec : p.tables.exec = Jvm.exec) {own C : String} {index : Nat} {y : MethodName} {bytes : ByteArray} {maxL : Nat} {ret : Option FieldType}
    (hown : s.vm.findClass own = some m.cls) (hlink : (Cond.methodLink own index y).before args s = true) (hinst : (Cond.instanceMethod y).before args s = true) (hsel : (Cond.selects C y y).before args s = true)
    (hcode : (Cond.code y bytes maxL ret).before args s = true) (hy : y.cls ≠ "java/lang/invoke/MethodHandle" ∧ y.cls ≠ "java/lang/invoke/VarHandle")
    {W9 : Nat} {Pre : Pt → Array Value → Prop} {Post : Pt → Array Value → Option Value → Pt → Prop} {PostX : Pt → Array Value → Addr → Pt → Prop} (hK : vx_Back l R p e below s args y 3 W9 Pre Post PostX)
    {b : Addr} {cellB : Cell} (hcell : T.heap[b]? = some cellB) (hobj : cellB.vm.isStatics = false) (hcls : s.vm.findClass C = some cellB.cls)
    {g : JFrame} (hg : g.method = m) (hsize : g.locals.size = c.maxLocals) {argsL rest : List Value} (hlen : ∀ sig, parseMethodDescriptor y.desc = some sig → argsL.length = sig.parameters.length)
    (hstack : g.stack = argsL.reverse ++ .ref b :: rest) (hW : 2 * g.monitorRoom + (rest.map fun v => v.category).sum ≤ W9) (hdg : decode c.code g.pc = .ok (.invokevirtual index, 3))
    (hpre : ∀ vm₁, s.WarmedH vm₁ → Pre ⟨T.setVm vm₁, locs, cells, slots⟩ (Value.ref b :: argsL).toArray) :
    (∃ (v : Option Value) (vm₁ : Vm) (B : Pt), s.WarmedH vm₁ ∧ Stand p l e R s m args below meth c B.U B.locs B.cells B.slots ∧ Post ⟨T.setVm vm₁, locs, cells, slots⟩ (Value.ref b :: argsL).toArray v B ∧
      ∀ target, Steps p.tables e below (B.U.setTop { g with pc := g.pc + 3, stack := v.toList ++ rest }) target → Steps p.tables e below (T.setTop g) target) ∨
    (∃ (q : Addr) (vm₁ : Vm) (B : Pt), s.WarmedH vm₁ ∧ Stand p l e R s m args below meth c B.U B.locs B.cells B.slots ∧ PostX ⟨T.setVm vm₁, locs, cells, slots⟩ (Value.ref b :: argsL).toArray q B ∧
      Steps p.tables e below (T.setTop g) ((B.U.setTop { g with stack := rest }).pushFrame (.throwing q))) := by
  obtain ⟨mk, methM, hnamed, hmethM, hstM, habM⟩ := Cond.instanceMethod_spec hinst
  obtain ⟨methM', cM, hmethM', -, -, -, -, -, -, hsigM⟩ := Cond.code_spec hnamed hcode
  cases hmethM.symm.trans hmethM'
  obtain ⟨c2, r2, m2, q1, q2, q3, q4, kP, hkP, hkPi⟩ := Cond.selects_spec hsel
  cases hcls.symm.trans q1
  cases (State.methodFound?_of_named hnamed hy).symm.trans q2
  cases hnamed.symm.trans q3
  have hselP : selectMethod e.platform s.vm cellB.cls mk = .method mk := by rw [Launch.admits_selectMethod X.admits]; exact q4
  obtain ⟨vm₁, X₁, hstep₁⟩ := X.invokevirtual hexec hown hlink hnamed hmethM hstM hkP hkPi hy (a := b) (cell := cellB) hcell
    (fun z h => by rw [h] at hobj; cases hobj) hselP hmethM habM hkP hkPi (g := g) hg (argsL := argsL) (rest := rest) (hlen _ hsigM) hstack hdg
  rcases hK m meth c ⟨T.setVm vm₁, locs, cells, slots⟩ { g with stack := rest } (.invokevirtual index) mk (Value.ref b :: argsL).toArray X₁ hg hsize hdg hW (X₁.named hnamed) (hpre vm₁ X₁.warmed) with ⟨v, B, X', hpost, hsteps⟩ | ⟨q, B, X', hpost, hsteps⟩
  · exact Or.inl ⟨v, vm₁, B, X₁.warmed, X', hpost, fun target h => hstep₁ _ fun acts => by rw [doInvoke_state]; exact hsteps.trans h⟩
  · exact Or.inr ⟨q, vm₁, B, X₁.warmed, X', hpost, hstep₁ _ fun acts => by rw [doInvoke_state]; exact hsteps⟩
theorem vx_callS (X : Stand p l e R s m args below meth c T locs cells slots) (hexec : p.tables.exec = Jvm.exec) {own : String} {index : Nat} {y : MethodName} {bytes : ByteArray} {maxL : Nat} {ret : Option FieldType}
    (hown : s.vm.findClass own = some m.cls) (hlink : (Cond.methodLink own index y).before args s = true) (hstat : (Cond.static y).before args s = true) (hinit : (Cond.initialized y.cls).before args s = true)
    (hcode : (Cond.code y bytes maxL ret).before args s = true) (hy : y.cls ≠ "java/lang/invoke/MethodHandle" ∧ y.cls ≠ "java/lang/invoke/VarHandle")
    {W9 : Nat} {Pre : Pt → Array Value → Prop} {Post : Pt → Array Value → Option Value → Pt → Prop} {PostX : Pt → Array Value → Addr → Pt → Prop} (hK : vx_Back l R p e below s args y 3 W9 Pre Post PostX)
    {g : JFrame} (hg : g.method = m) (hsize : g.locals.size = c.maxLocals) {argsL rest : List Value} (hlen : ∀ sig, parseMethodDescriptor y.desc = some sig → argsL.length = sig.parameters.length)
    (hstack : g.stack = argsL.reverse ++ rest) (hW : 2 * g.monitorRoom + (rest.map fun v => v.category).sum ≤ W9) (hdg : decode c.code g.pc = .ok (.invokestatic index, 3))
    (hpre : ∀ vm₁, s.WarmedH vm₁ → Pre ⟨T.setVm vm₁, locs, cells, slots⟩ argsL.toArray) :
    (∃ (v : Option Value) (vm₁ : Vm) (B : Pt), s.WarmedH vm₁ ∧ Stand p l e R s m args below meth c B.U B.locs B.cells B.slots ∧ Post ⟨T.setVm vm₁, locs, cells, slots⟩ argsL.toArray v B ∧
      ∀ target, Steps p.tables e below (B.U.setTop { g with pc := g.pc + 3, stack := v.toList ++ rest }) target → Steps p.tables e below (T.setTop g) target) ∨
    (∃ (q : Addr) (vm₁ : Vm) (B : Pt), s.WarmedH vm₁ ∧ Stand p l e R s m args below meth c B.U B.locs B.cells B.slots ∧ PostX ⟨T.setVm vm₁, locs, cells, slots⟩ argsL.toArray q B ∧
      Steps p.tables e below (T.setTop g) ((B.U.setTop { g with stack := rest }).pushFrame (.throwing q))) := by
  obtain ⟨mk, hnamed⟩ := Cond.code_named hcode
  obtain ⟨methM, cM, hmethM, -, -, -, -, -, -, hsigM⟩ := Cond.code_spec hnamed hcode
  have hstatic : methM.isStatic = true := Cond.static_spec hnamed hmethM hstat
  obtain ⟨kP, hkP, -⟩ := className_of_methodNamed hnamed
  have hinitP : kP.init = .initialized := Cond.initialized_spec (findClass_of_methodNamed hnamed) hkP hinit
  obtain ⟨vm₁, X₁, hstep₁⟩ := X.invokestatic hexec hown hlink hnamed hmethM hstatic hkP hinitP hy (g := g) hg (argsL := argsL) (rest := rest) (hlen _ hsigM) hstack hdg
  rcases hK m meth c ⟨T.setVm vm₁, locs, cells, slots⟩ { g with stack := rest } (.invokestatic index) mk argsL.toArray X₁ hg hsize hdg hW (X₁.named hnamed) (hpre vm₁ X₁.warmed) with ⟨v, B, X', hpost, hsteps⟩ | ⟨q, B, X', hpost, hsteps⟩
  · exact Or.inl ⟨v, vm₁, B, X₁.warmed, X', hpost, fun target h => hstep₁ _ fun acts => by rw [doInvoke_state]; exact hsteps.trans h⟩
  · exact Or.inr ⟨q, vm₁, B, X₁.warmed, X', hpost, hstep₁ _ fun acts => by rw [doInvoke_state]; exact hsteps⟩
end Calls
theorem vx_cls {s : State} {T : State} {vm₁ : Vm} {E : String} {k : ClassId} (hW : s.WarmedH vm₁) (h : (T.setVm vm₁).vm.findClass E = some k) : s.vm.findClass E = some k := by
  have h1 : vm₁.findClass E = some k := h
  rw [hW.alike.findClass] at h1
  exact h1
/-- the method's frame g, with q thrown over it -/
def vx_W (p : Program) (l : Launch) (e : Env) (R : Room) (s : State) (m : MethodId) (args : Array Value) (below : List Frame) (meth : Method) (c : Code) (H : Heap) (locs : List Loc) (cells slots : Nat) (Q : State → Prop) (g : JFrame) (q : Addr) : Prop :=
  ∀ T : State, T.heap = H → Stand p l e R s m args below meth c T locs cells slots → ∃ t, Steps p.tables e below ((T.setTop g).pushFrame (.throwing q)) t ∧ Q t
def vx_Run (p : Program) (l : Launch) (e : Env) (R : Room) (s : State) (m : MethodId) (args : Array Value) (below : List Frame) (meth : Method) (c : Code) (H : Heap) (locs : List Loc) (cells slots mc ms : Nat) (g : JFrame) (rest : List Value) (Qa : State → Outcome → State → Prop) (XC : String → State → State → Prop) (free : Addr → Prop) : Prop :=
  ∀ T : State, T.heap = H → Stand p l e R s m args below meth c T locs cells slots →
    (∃ (v : Option Value) (st₀ t T' : State) (L : List Loc), st₀.heap = H ∧ Stand p l e R s m args below meth c T' (locs ++ L) (cells + mc) (slots + ms) ∧ (∀ q ∈ L, free q.base) ∧ T'.heap = t.heap ∧ T'.vm = t.vm ∧ Qa st₀ (.returned v) t ∧
      Goes p e below T g T' { g with pc := g.pc + 3, stack := v.toList ++ rest }) ∨
    (∃ (q : Addr) (st₀ t T' : State) (L : List Loc) (E : String) (ce : Cell), st₀.heap = H ∧ Stand p l e R s m args below meth c T' (locs ++ L) (cells + mc) (slots + ms) ∧ (∀ z ∈ L, free z.base) ∧ T'.heap = t.heap ∧ T'.vm = t.vm ∧ XC E st₀ t ∧ t.heap[q]? = some ce ∧ ce.vm = .none ∧ s.vm.findClass E = some ce.cls ∧
      Steps p.tables e below (T.setTop g) ((T'.setTop { g with stack := rest }).pushFrame (.throwing q)))
def vx_X {S : Type} (px : S → Prop) (B : String → S → State → Prop) (A : Nat → Prop) : String → State → State → Prop := fun E st t => ∃ u : S, px u ∧ B E u t ∧ va_F A st t
section Runs
variable {p : Program} {l : Launch} {e : Env} {R : Room} {s : State} {m : MethodId} {args : Array Value} {below : List Frame} {meth : Method} {c : Code} {H : Heap} {locs : List Loc} {cells slots : Nat}
variable {y : MethodName} {bytes cc : ByteArray} {maxL nL mc ms n index : Nat} {ret : Option FieldType} {ws : List Cond} {rm : Room} {Pc : Array Value → State → Prop} {Qc : Array Value → State → Outcome → State → Prop} {XC : String → State → State → Prop} {free : Addr → Prop} {Ts : List Cond} {own C : String} {b : Addr} {As rest : List Value} {g : JFrame}
theorem vx_callBack (cb : CallB R s args own index y bytes maxL ret ws rm mc ms n) (hM : vx_Met l y ws rm Pc Qc XC mc ms free) (hbl : FrameBlind Pc) : vx_Back l R p e below s args y 3 8 (PreOf R mc ms Pc) (PostOf Qc mc ms free) (vx_Post XC mc ms free) := by
  obtain ⟨hrc, hrs, hfr, hlo, hws, hcw, -, hini, -⟩ := cb
  exact vx_back (bytes := bytes) (maxL := maxL) (ret := ret) hM hbl hrc hrs hfr hlo hws hcw (fun a' U hW => word_at hW (Or.inl (by first | rfl | simp [Cond.onTables, Cond.keeps, Cond.steady])) hini)
theorem vx_runV (S : CallFix p m c cc nL s args Ts own) (hM : vx_Met l y ws rm Pc Qc XC mc ms free) (cw : CallW R s args own C index y bytes maxL ret ws rm mc ms n) (hp : PreV s H C b Pc As)
    (hg : g.method = m) (hn : As.length = n) (hsize : g.locals.size = nL) (hstack : g.stack = As.reverse ++ .ref b :: rest) (hW : 2 * g.monitorRoom + (rest.map fun v => v.category).sum ≤ 8) (hdg : decode cc g.pc = .ok (.invokevirtual index, 3)) (hf : cells + mc ≤ R.cells ∧ slots + ms ≤ R.slots) :
    vx_Run p l e R s m args below meth c H locs cells slots mc ms g rest (Qc (Value.ref b :: As).toArray) XC free := by
  have hK : vx_Back l R p e below s args y 3 8 (PreOf R mc ms Pc) (PostOf Qc mc ms free) (vx_Post XC mc ms free) := vx_callBack cw.1 hM hp.1
  obtain ⟨⟨-, -, -, -, -, -, hcode, -, hy, hlen, hl⟩, hin, hse⟩ := cw
  obtain ⟨hx, hb, hml, ho, -⟩ := S
  obtain ⟨-, ⟨cellB, hcB, hoB, hclB⟩, hPc⟩ := hp
  intro T hT X
  rcases vx_callV X hx (C := C) (bytes := bytes) (maxL := maxL) (ret := ret) ho hl hin hse hcode hy hK (by rw [hT]; exact hcB) hoB hclB hg (hsize.trans hml.symm) (argsL := As) (rest := rest) (fun sig h => hn.trans (hlen sig h)) hstack hW (by rw [hb]; exact hdg)
    (fun vm₁ hW₁ => ⟨hf.1, hf.2, hPc (T.setVm vm₁) hT hW₁⟩) with ⟨v, vm₁, ⟨U', l2, c2, s2⟩, hW₁, X', ⟨g', mk, t, L, e1, e2, hq, h1, hL, h2, h3⟩, st⟩ | ⟨q, vm₁, ⟨U', l2, c2, s2⟩, hW₁, X', ⟨g', mk, t, L, E, ce, e1, e2, hq, hce, hcv, hcl, h1, hL, h2, h3⟩, st⟩
  · dsimp only [Pt.U, Pt.locs, Pt.cells, Pt.slots] at X' e1 e2 h1 h2 h3 st
    subst h1; subst h2; subst h3
    exact Or.inl ⟨v, (T.setVm vm₁).calling g' mk (Value.ref b :: As).toArray, t, U', L, hT, X', hL, e1, e2, hq, st⟩
  · dsimp only [Pt.U, Pt.locs, Pt.cells, Pt.slots] at X' e1 e2 h1 h2 h3 st hcl
    subst h1; subst h2; subst h3
    exact Or.inr ⟨q, (T.setVm vm₁).calling g' mk (Value.ref b :: As).toArray, t, U', L, E, ce, hT, X', hL, e1, e2, hq, hce, hcv, vx_cls hW₁ hcl, st⟩
theorem vx_runS (S : CallFix p m c cc nL s args Ts own) (hM : vx_Met l y ws rm Pc Qc XC mc ms free) (cw : CallB R s args own index y bytes maxL ret ws rm mc ms n ∧ (Cond.static y).before args s = true) (hp : PreS s H Pc As)
    (hg : g.method = m) (hn : As.length = n) (hsize : g.locals.size = nL) (hstack : g.stack = As.reverse ++ rest) (hW : 2 * g.monitorRoom + (rest.map fun v => v.category).sum ≤ 8) (hdg : decode cc g.pc = .ok (.invokestatic index, 3)) (hf : cells + mc ≤ R.cells ∧ slots + ms ≤ R.slots) :
    vx_Run p l e R s m args below meth c H locs cells slots mc ms g rest (Qc As.toArray) XC free := by
  have hK : vx_Back l R p e below s args y 3 8 (PreOf R mc ms Pc) (PostOf Qc mc ms free) (vx_Post XC mc ms free) := vx_callBack cw.1 hM hp.1
  obtain ⟨⟨-, -, -, -, -, -, hcode, hini, hy, hlen, hl⟩, hstt⟩ := cw
  obtain ⟨hx, hb, hml, ho, -⟩ := S
  intro T hT X
  rcases vx_callS X hx (bytes := bytes) (maxL := maxL) (ret := ret) ho hl hstt hini hcode hy hK hg (hsize.trans hml.symm) (argsL := As) (rest := rest) (fun sig h => hn.trans (hlen sig h)) hstack hW (by rw [hb]; exact hdg)
    (fun vm₁ hW₁ => ⟨hf.1, hf.2, hp.2 (T.setVm vm₁) hT hW₁⟩) with ⟨v, vm₁, ⟨U', l2, c2, s2⟩, hW₁, X', ⟨g', mk, t, L, e1, e2, hq, h1, hL, h2, h3⟩, st⟩ | ⟨q, vm₁, ⟨U', l2, c2, s2⟩, hW₁, X', ⟨g', mk, t, L, E, ce, e1, e2, hq, hce, hcv, hcl, h1, hL, h2, h3⟩, st⟩
  · dsimp only [Pt.U, Pt.locs, Pt.cells, Pt.slots] at X' e1 e2 h1 h2 h3 st
    subst h1; subst h2; subst h3
    exact Or.inl ⟨v, (T.setVm vm₁).calling g' mk As.toArray, t, U', L, hT, X', hL, e1, e2, hq, st⟩
  · dsimp only [Pt.U, Pt.locs, Pt.cells, Pt.slots] at X' e1 e2 h1 h2 h3 st hcl
    subst h1; subst h2; subst h3
    exact Or.inr ⟨q, (T.setVm vm₁).calling g' mk As.toArray, t, U', L, E, ce, hT, X', hL, e1, e2, hq, hce, hcv, vx_cls hW₁ hcl, st⟩
end Runs
section Rows
variable {p : Program} {l : Launch} {e : Env} {R : Room} {s : State} {m : MethodId} {args : Array Value} {below : List Frame} {meth : Method} {c : Code} {H : Heap} {locs : List Loc} {cells slots : Nat} {Q : State → Prop}
variable {mc ms : Nat} {free : Addr → Prop} {A0 A1 : Nat → Prop} {H0 : Heap} {a : Array Value} {pc : Nat} {ls : Array Slot} {st0 rest : List Value}
theorem vx_keep {st₀ t T' : State} {L : List Loc} (h0 : st₀.heap = H) (e1 : T'.heap = t.heap) (hS : va_S A0 H0 H locs) (hA : ∀ q, q < H.size → A1 q → A0 q) (hf : ∀ q, free q → A0 q) (hL : ∀ q ∈ L, free q.base) (hF : va_F A1 st₀ t) :
    H.size ≤ T'.heap.size ∧ (∀ q : Nat, q < H.size → ¬ A1 q → T'.heap[q]? = H[q]?) ∧ va_S A0 H0 T'.heap (locs ++ L) := by
  obtain ⟨hz, hk⟩ := hF
  rw [h0] at hz hk
  exact ⟨by rw [e1]; exact hz, fun q h1 h2 => by rw [e1]; exact hk q h1 h2,
    ⟨Nat.le_trans hS.1 (by rw [e1]; exact hz), fun q h1 h2 => by rw [e1, hk q (Nat.lt_of_lt_of_le h1 hS.1) (fun z => h2 (hA q (Nat.lt_of_lt_of_le h1 hS.1) z))]; exact hS.2.1 q h1 h2, fun q hq => by
      rcases List.mem_append.mp hq with h | h
      · exact hS.2.2 q h
      · exact hf _ (hL q h)⟩⟩
theorem vx_calli {S SX : Type} {post : Int32 → S → Prop} {px : SX → Prop} {B : S → State → Prop} {BX : String → SX → State → Prop} {AX : Nat → Prop} (hr : vx_Run p l e R s m args below meth c H locs cells slots mc ms (F0 m pc ls st0) rest (va_Qi post B A1 a) (vx_X px BX AX) free) (hS : va_S A0 H0 H locs) (hA : ∀ q, q < H.size → A1 q → A0 q) (hf : ∀ q, free q → A0 q) (hAX : ∀ q, q < H.size → AX q → A0 q)
    (kx : ∀ (E : String) (ce : Cell) (q9 : Addr) (u : SX) (t : State) (H1 : Heap) (locs1 : List Loc), t.heap = H1 → s.vm.Alike t.vm → px u → BX E u t → H.size ≤ H1.size → (∀ q : Nat, q < H.size → ¬ AX q → H1[q]? = H[q]?) → va_S A0 H0 H1 locs1 → H1[q9]? = some ce → ce.vm = .none → s.vm.findClass E = some ce.cls → vx_W p l e R s m args below meth c H1 locs1 (cells + mc) (slots + ms) Q (F0 m pc ls rest) q9)
    (kk : ∀ (r : Int32) (u : S) (t : State) (H1 : Heap) (locs1 : List Loc), t.heap = H1 → s.vm.Alike t.vm → post r u → B u t → H.size ≤ H1.size → (∀ q : Nat, q < H.size → ¬ A1 q → H1[q]? = H[q]?) → va_S A0 H0 H1 locs1 → W p l e R s m args below meth c H1 locs1 (cells + mc) (slots + ms) Q (F0 m (pc + 3) ls (.int r :: rest))) : W p l e R s m args below meth c H locs cells slots Q (F0 m pc ls st0) := by
  intro T hT X
  rcases hr T hT X with ⟨v, st₀, t, T', L, h0, X', hL, e1, e2, ⟨⟨r, u, hv, hp, hb⟩, hF⟩, st⟩ | ⟨q, st₀, t, T', L, E, ce, h0, X', hL, e1, e2, ⟨u, hp, hb, hF⟩, hce, hcv, hcl, st⟩
  · cases hv
    obtain ⟨k1, k2, k3⟩ := vx_keep h0 e1 hS hA hf hL hF
    obtain ⟨t2, a1, b1⟩ := kk r u t T'.heap (locs ++ L) e1.symm (by rw [← e2]; exact X'.warmed.alike) hp hb k1 k2 k3 T' rfl X'
    exact ⟨t2, st t2 a1, b1⟩
  · obtain ⟨k1, k2, k3⟩ := vx_keep h0 e1 hS hAX hf hL hF
    obtain ⟨t2, a1, b1⟩ := kx E ce q u t T'.heap (locs ++ L) e1.symm (by rw [← e2]; exact X'.warmed.alike) hp hb k1 k2 k3 (by rw [e1]; exact hce) hcv hcl T' rfl X'
    exact ⟨t2, st.trans a1, b1⟩
theorem vx_calll {S SX : Type} {post : Int64 → S → Prop} {px : SX → Prop} {B : S → State → Prop} {BX : String → SX → State → Prop} {AX : Nat → Prop} (hr : vx_Run p l e R s m args below meth c H locs cells slots mc ms (F0 m pc ls st0) rest (va_Ql post B A1 a) (vx_X px BX AX) free) (hS : va_S A0 H0 H locs) (hA : ∀ q, q < H.size → A1 q → A0 q) (hf : ∀ q, free q → A0 q) (hAX : ∀ q, q < H.size → AX q → A0 q)
    (kx : ∀ (E : String) (ce : Cell) (q9 : Addr) (u : SX) (t : State) (H1 : Heap) (locs1 : List Loc), t.heap = H1 → s.vm.Alike t.vm → px u → BX E u t → H.size ≤ H1.size → (∀ q : Nat, q < H.size → ¬ AX q → H1[q]? = H[q]?) → va_S A0 H0 H1 locs1 → H1[q9]? = some ce → ce.vm = .none → s.vm.findClass E = some ce.cls → vx_W p l e R s m args below meth c H1 locs1 (cells + mc) (slots + ms) Q (F0 m pc ls rest) q9)
    (kk : ∀ (r : Int64) (u : S) (t : State) (H1 : Heap) (locs1 : List Loc), t.heap = H1 → s.vm.Alike t.vm → post r u → B u t → H.size ≤ H1.size → (∀ q : Nat, q < H.size → ¬ A1 q → H1[q]? = H[q]?) → va_S A0 H0 H1 locs1 → W p l e R s m args below meth c H1 locs1 (cells + mc) (slots + ms) Q (F0 m (pc + 3) ls (.long r :: rest))) : W p l e R s m args below meth c H locs cells slots Q (F0 m pc ls st0) := by
  intro T hT X
  rcases hr T hT X with ⟨v, st₀, t, T', L, h0, X', hL, e1, e2, ⟨⟨r, u, hv, hp, hb⟩, hF⟩, st⟩ | ⟨q, st₀, t, T', L, E, ce, h0, X', hL, e1, e2, ⟨u, hp, hb, hF⟩, hce, hcv, hcl, st⟩
  · cases hv
    obtain ⟨k1, k2, k3⟩ := vx_keep h0 e1 hS hA hf hL hF
    obtain ⟨t2, a1, b1⟩ := kk r u t T'.heap (locs ++ L) e1.symm (by rw [← e2]; exact X'.warmed.alike) hp hb k1 k2 k3 T' rfl X'
    exact ⟨t2, st t2 a1, b1⟩
  · obtain ⟨k1, k2, k3⟩ := vx_keep h0 e1 hS hAX hf hL hF
    obtain ⟨t2, a1, b1⟩ := kx E ce q u t T'.heap (locs ++ L) e1.symm (by rw [← e2]; exact X'.warmed.alike) hp hb k1 k2 k3 (by rw [e1]; exact hce) hcv hcl T' rfl X'
    exact ⟨t2, st.trans a1, b1⟩
theorem vx_callf {S SX : Type} {post : UInt32 → S → Prop} {px : SX → Prop} {B : S → State → Prop} {BX : String → SX → State → Prop} {AX : Nat → Prop} (hr : vx_Run p l e R s m args below meth c H locs cells slots mc ms (F0 m pc ls st0) rest (va_Qf post B A1 a) (vx_X px BX AX) free) (hS : va_S A0 H0 H locs) (hA : ∀ q, q < H.size → A1 q → A0 q) (hf : ∀ q, free q → A0 q) (hAX : ∀ q, q < H.size → AX q → A0 q)
    (kx : ∀ (E : String) (ce : Cell) (q9 : Addr) (u : SX) (t : State) (H1 : Heap) (locs1 : List Loc), t.heap = H1 → s.vm.Alike t.vm → px u → BX E u t → H.size ≤ H1.size → (∀ q : Nat, q < H.size → ¬ AX q → H1[q]? = H[q]?) → va_S A0 H0 H1 locs1 → H1[q9]? = some ce → ce.vm = .none → s.vm.findClass E = some ce.cls → vx_W p l e R s m args below meth c H1 locs1 (cells + mc) (slots + ms) Q (F0 m pc ls rest) q9)
    (kk : ∀ (r : UInt32) (u : S) (t : State) (H1 : Heap) (locs1 : List Loc), t.heap = H1 → s.vm.Alike t.vm → post r u → B u t → H.size ≤ H1.size → (∀ q : Nat, q < H.size → ¬ A1 q → H1[q]? = H[q]?) → va_S A0 H0 H1 locs1 → W p l e R s m args below meth c H1 locs1 (cells + mc) (slots + ms) Q (F0 m (pc + 3) ls (.float r :: rest))) : W p l e R s m args below meth c H locs cells slots Q (F0 m pc ls st0) := by
  intro T hT X
  rcases hr T hT X with ⟨v, st₀, t, T', L, h0, X', hL, e1, e2, ⟨⟨r, u, hv, hp, hb⟩, hF⟩, st⟩ | ⟨q, st₀, t, T', L, E, ce, h0, X', hL, e1, e2, ⟨u, hp, hb, hF⟩, hce, hcv, hcl, st⟩
  · cases hv
    obtain ⟨k1, k2, k3⟩ := vx_keep h0 e1 hS hA hf hL hF
    obtain ⟨t2, a1, b1⟩ := kk r u t T'.heap (locs ++ L) e1.symm (by rw [← e2]; exact X'.warmed.alike) hp hb k1 k2 k3 T' rfl X'
    exact ⟨t2, st t2 a1, b1⟩
  · obtain ⟨k1, k2, k3⟩ := vx_keep h0 e1 hS hAX hf hL hF
    obtain ⟨t2, a1, b1⟩ := kx E ce q u t T'.heap (locs ++ L) e1.symm (by rw [← e2]; exact X'.warmed.alike) hp hb k1 k2 k3 (by rw [e1]; exact hce) hcv hcl T' rfl X'
    exact ⟨t2, st.trans a1, b1⟩
theorem vx_calld {S SX : Type} {post : UInt64 → S → Prop} {px : SX → Prop} {B : S → State → Prop} {BX : String → SX → State → Prop} {AX : Nat → Prop} (hr : vx_Run p l e R s m args below meth c H locs cells slots mc ms (F0 m pc ls st0) rest (va_Qd post B A1 a) (vx_X px BX AX) free) (hS : va_S A0 H0 H locs) (hA : ∀ q, q < H.size → A1 q → A0 q) (hf : ∀ q, free q → A0 q) (hAX : ∀ q, q < H.size → AX q → A0 q)
    (kx : ∀ (E : String) (ce : Cell) (q9 : Addr) (u : SX) (t : State) (H1 : Heap) (locs1 : List Loc), t.heap = H1 → s.vm.Alike t.vm → px u → BX E u t → H.size ≤ H1.size → (∀ q : Nat, q < H.size → ¬ AX q → H1[q]? = H[q]?) → va_S A0 H0 H1 locs1 → H1[q9]? = some ce → ce.vm = .none → s.vm.findClass E = some ce.cls → vx_W p l e R s m args below meth c H1 locs1 (cells + mc) (slots + ms) Q (F0 m pc ls rest) q9)
    (kk : ∀ (r : UInt64) (u : S) (t : State) (H1 : Heap) (locs1 : List Loc), t.heap = H1 → s.vm.Alike t.vm → post r u → B u t → H.size ≤ H1.size → (∀ q : Nat, q < H.size → ¬ A1 q → H1[q]? = H[q]?) → va_S A0 H0 H1 locs1 → W p l e R s m args below meth c H1 locs1 (cells + mc) (slots + ms) Q (F0 m (pc + 3) ls (.double r :: rest))) : W p l e R s m args below meth c H locs cells slots Q (F0 m pc ls st0) := by
  intro T hT X
  rcases hr T hT X with ⟨v, st₀, t, T', L, h0, X', hL, e1, e2, ⟨⟨r, u, hv, hp, hb⟩, hF⟩, st⟩ | ⟨q, st₀, t, T', L, E, ce, h0, X', hL, e1, e2, ⟨u, hp, hb, hF⟩, hce, hcv, hcl, st⟩
  · cases hv
    obtain ⟨k1, k2, k3⟩ := vx_keep h0 e1 hS hA hf hL hF
    obtain ⟨t2, a1, b1⟩ := kk r u t T'.heap (locs ++ L) e1.symm (by rw [← e2]; exact X'.warmed.alike) hp hb k1 k2 k3 T' rfl X'
    exact ⟨t2, st t2 a1, b1⟩
  · obtain ⟨k1, k2, k3⟩ := vx_keep h0 e1 hS hAX hf hL hF
    obtain ⟨t2, a1, b1⟩ := kx E ce q u t T'.heap (locs ++ L) e1.symm (by rw [← e2]; exact X'.warmed.alike) hp hb k1 k2 k3 (by rw [e1]; exact hce) hcv hcl T' rfl X'
    exact ⟨t2, st.trans a1, b1⟩
theorem vx_callv {S SX : Type} {post : S → Prop} {px : SX → Prop} {B : S → State → Prop} {BX : String → SX → State → Prop} {AX : Nat → Prop} (hr : vx_Run p l e R s m args below meth c H locs cells slots mc ms (F0 m pc ls st0) rest (va_Qv post B A1 a) (vx_X px BX AX) free) (hS : va_S A0 H0 H locs) (hA : ∀ q, q < H.size → A1 q → A0 q) (hf : ∀ q, free q → A0 q) (hAX : ∀ q, q < H.size → AX q → A0 q)
    (kx : ∀ (E : String) (ce : Cell) (q9 : Addr) (u : SX) (t : State) (H1 : Heap) (locs1 : List Loc), t.heap = H1 → s.vm.Alike t.vm → px u → BX E u t → H.size ≤ H1.size → (∀ q : Nat, q < H.size → ¬ AX q → H1[q]? = H[q]?) → va_S A0 H0 H1 locs1 → H1[q9]? = some ce → ce.vm = .none → s.vm.findClass E = some ce.cls → vx_W p l e R s m args below meth c H1 locs1 (cells + mc) (slots + ms) Q (F0 m pc ls rest) q9)
    (kk : ∀ (u : S) (t : State) (H1 : Heap) (locs1 : List Loc), t.heap = H1 → s.vm.Alike t.vm → post u → B u t → H.size ≤ H1.size → (∀ q : Nat, q < H.size → ¬ A1 q → H1[q]? = H[q]?) → va_S A0 H0 H1 locs1 → W p l e R s m args below meth c H1 locs1 (cells + mc) (slots + ms) Q (F0 m (pc + 3) ls (rest))) : W p l e R s m args below meth c H locs cells slots Q (F0 m pc ls st0) := by
  intro T hT X
  rcases hr T hT X with ⟨v, st₀, t, T', L, h0, X', hL, e1, e2, ⟨⟨u, hv, hp, hb⟩, hF⟩, st⟩ | ⟨q, st₀, t, T', L, E, ce, h0, X', hL, e1, e2, ⟨u, hp, hb, hF⟩, hce, hcv, hcl, st⟩
  · cases hv
    obtain ⟨k1, k2, k3⟩ := vx_keep h0 e1 hS hA hf hL hF
    obtain ⟨t2, a1, b1⟩ := kk u t T'.heap (locs ++ L) e1.symm (by rw [← e2]; exact X'.warmed.alike) hp hb k1 k2 k3 T' rfl X'
    exact ⟨t2, st t2 a1, b1⟩
  · obtain ⟨k1, k2, k3⟩ := vx_keep h0 e1 hS hAX hf hL hF
    obtain ⟨t2, a1, b1⟩ := kx E ce q u t T'.heap (locs ++ L) e1.symm (by rw [← e2]; exact X'.warmed.alike) hp hb k1 k2 k3 (by rw [e1]; exact hce) hcv hcl T' rfl X'
    exact ⟨t2, st.trans a1, b1⟩
/-- caught by the row x of this method's table; the rows ahead don't take it -/
theorem vx_catch {own name : String} {E : String} {ce : Cell} {q : Addr} (hown : s.vm.findClass own = some m.cls) (pre : List ExceptionTableEntry) (x : ExceptionTableEntry) (suf : List ExceptionTableEntry) (hsplit : c.exceptionTable.toList = pre ++ x :: suf)
    (hpass : ∀ z ∈ pre, covers z pc = false ∨ (z.catchType ≠ 0 ∧ ∃ nm : String, (Cond.classLink own z.catchType nm).before args s = true ∧ va_Nc E nm s)) (hx : covers x pc = true) (h0 : x.catchType ≠ 0)
    (hlink : (Cond.classLink own x.catchType name).before args s = true) (hcast : (Cond.castable E name).before args s = true) (hcell : H[q]? = some ce) (hv : ce.vm = .none) (hcl : s.vm.findClass E = some ce.cls)
    (kk : W p l e R s m args below meth c H locs cells slots Q (F0 m x.handlerPc ls [.ref q])) : vx_W p l e R s m args below meth c H locs cells slots Q (F0 m pc ls rest) q := by
  intro T hT X
  have hpl : e.platform.magicAccessors = ({} : Platform).magicAccessors := by rw [X.admits.platform]
  obtain ⟨c3, c4, hc3, hc4, hasg⟩ := Cond.castable_spec hcast
  cases Option.some.inj (hc3.symm.trans hcl)
  obtain ⟨c5, hc5, hcl5⟩ := Cond.classLink_spec hown hlink e.platform hpl
  cases Option.some.inj (hc4.symm.trans hc5)
  obtain ⟨vm', X', st⟩ := X.thenCaughtThrough q (g := F0 m pc ls rest) rfl (Steps.refl _) (by rw [hT]; exact hcell) (by rw [hv]; rfl) (by obtain ⟨k9, h9, -⟩ := Vm.findClass_spec hcl; exact ⟨k9, h9⟩) pre x suf hsplit
    (fun z hz => by
      rcases hpass z hz with h | ⟨hz0, nm, hl1, hn1⟩
      · exact Or.inl h
      · obtain ⟨c6, hc6, hcl6⟩ := Cond.classLink_spec hown hl1 e.platform hpl
        obtain ⟨a8, b8, h1, h2, h3⟩ := hn1
        cases Option.some.inj (h1.symm.trans hcl)
        cases Option.some.inj (h2.symm.trans hc6)
        exact Or.inr ⟨hz0, _, hcl6, h3⟩) hx (Or.inr ⟨h0, c4, hcl5, hasg⟩)
  obtain ⟨t, a1, b1⟩ := kk (T.setVm vm') hT X'
  exact ⟨t, st.trans a1, b1⟩
end Rows
section Ends
variable {p : Program} {l : Launch} {e : Env} {R : Room} {s : State} {m : MethodId} {args : Array Value} {below : List Frame} {meth : Method} {c : Code} {H : Heap} {locs : List Loc} {cells slots : Nat} {Q : State → Prop}
variable {mc ms : Nat} {free : Addr → Prop} {A0 A1 : Nat → Prop} {H0 : Heap} {a : Array Value} {ls : Array Slot} {st0 rest : List Value}
variable {Qc : Array Value → State → Outcome → State → Prop} {XC : String → State → State → Prop}
/-- what a body that may throw owes at its end -/
def vx_MQ (below : List Frame) (Qc : Array Value → State → Outcome → State → Prop) (XC : String → State → State → Prop) (a : Array Value) (s : State) (mc ms : Nat) (free : Addr → Prop) : State → Prop := fun t =>
  ∃ o, t.status = .running ∧ Ended t below o ∧ vx_Q Qc XC mc ms free a s o t
theorem vx_ret {g : JFrame} {mc ms : Nat} (k : W p l e R s m args below meth c H locs cells slots (MQ below Qc args s mc ms free) g) : W p l e R s m args below meth c H locs cells slots (vx_MQ below Qc XC args s mc ms free) g := by
  intro T hT X
  obtain ⟨t, a1, o, b1, b2, b3, b4⟩ := k T hT X
  exact ⟨t, a1, o, b1, b2, Or.inl ⟨b3, b4⟩⟩
/-- not caught here: it goes on to the caller -/
theorem vx_widen {g : JFrame} {q : Addr} {k n : Nat} (h1 : cells ≤ k) (h2 : slots ≤ n) (kk : vx_W p l e R s m args below meth c H locs k n Q g q) : vx_W p l e R s m args below meth c H locs cells slots Q g q := fun T hT X => kk T hT (stand_widen X h1 h2)
theorem vx_out {pc : Nat} {E : String} {ce : Cell} {q : Addr} {mc ms : Nat} (hout : ∀ x ∈ c.exceptionTable.toList, covers x pc = false) (hlocks : meth.locks = false) (hcell : H[q]? = some ce) (hv : ce.vm = .none) (hcl : s.vm.findClass E = some ce.cls)
    (hx : ∀ t : State, t.heap = H → s.vm.Alike t.vm → XC E s t) (hf : ∀ z ∈ locs, free z.base) (hc : cells ≤ mc) (hs : slots ≤ ms) :
    vx_W p l e R s m args below meth c H locs cells slots (vx_MQ below Qc XC args s mc ms free) (F0 m pc ls rest) q := by
  intro T hT X
  obtain ⟨st1, hrun, hend, hW, hsm⟩ := X.leaveThrown q (g := F0 m pc ls rest) rfl rfl rfl hout hlocks
  have hcell9 : (T.setFrames (.throwing q :: below)).heap[q]? = some ce := by
    show T.heap[q]? = some ce
    rw [hT]; exact hcell
  exact ⟨_, st1, .threw q, hrun, hend, Or.inr ⟨q, rfl, E, ce, locs, hx _ hT hW.alike, hcell9, hv, hcl, hW, hsm.mono hc hs, hf⟩⟩
theorem vx_frame {U : State} {k n : Nat} (h : s.sameButNew ({ U with vm := s.vm } : State) locs k n) : s.heap.size ≤ U.heap.size ∧ ∀ q : Nat, q < s.heap.size → (∀ z ∈ locs, z.base ≠ q) → U.heap[q]? = s.heap[q]? := by
  obtain ⟨-, h2, -, -, -, h6⟩ := h
  refine ⟨h2, fun q hq hz => ?_⟩
  obtain ⟨c9, e1, e2, e3, e4⟩ := h6 q _ (Array.getElem?_eq_getElem hq)
  have hs : c9.slots = (s.heap[q]).slots := Array.ext_getElem? fun i => e4 i fun hm => hz _ hm rfl
  have h9 : c9 = s.heap[q] := by
    rw [hs] at e2
    exact e2
  have e5 : U.heap[q]? = some c9 := e1
  rw [e5, h9, Array.getElem?_eq_getElem hq]
/-- the words of a throw but the four that speak of the heap -/
def vx_no (w : Cond) : Bool := decide (w ≠ .isRef (.static Bundle.tN "UNASSIGNED_STACK" Bundle.steD)) && decide (w ≠ .isRef (.static Bundle.tN "SUPPRESSED_SENTINEL" Bundle.listD)) && decide (w ≠ .laysStatic Bundle.tN "UNASSIGNED_STACK" Bundle.steD) && decide (w ≠ .laysStatic Bundle.tN "SUPPRESSED_SENTINEL" Bundle.listD)
def vx_at0 (own : String) (ic : Nat) (X : String) (names : List String) : List Cond := (Bundle.ownAtoms0 own ic X names).filter vx_no
def vx_atS (own : String) (ic : Nat) (X : String) (names : List String) : List Cond := (Bundle.ownAtoms own ic X names).filter vx_no
/-- a word that the tables alone decide, or a good one -/
def vx_ot (w : Cond) : Bool := w.onTables || goodWord w
theorem vx_ot_at {args a' : Array Value} {s U : State} {w : Cond} (hW : s.WarmedH U.vm) (hvm : s.vm = U.vm) (hg : vx_ot w = true) (h : w.before args s = true) : w.before a' U = true := by
  simp only [vx_ot, Bool.or_eq_true] at hg
  rcases hg with hg | hg
  · exact va_tabs hg hvm h
  · exact word_at hW (good_of_word hg) h
/-- a list's words: the good ones out of the method's own list, the others by premises of their own -/
theorem vx_hat {args : Array Value} {s : State} {L B : List Cond} (h1 : ∀ w ∈ L.filter goodWord, w.before args s = true) (h2 : ∀ w ∈ L.filter (fun w => !goodWord w), w ∈ B) (h3 : ∀ w ∈ B, w.before args s = true) : ∀ w ∈ L, w.before args s = true := by
  intro w hw
  by_cases g : goodWord w = true
  · exact h1 w (List.mem_filter.mpr ⟨hw, g⟩)
  · refine h3 w (h2 w (List.mem_filter.mpr ⟨hw, ?_⟩))
    show (!goodWord w) = true
    cases hgw : goodWord w
    · rfl
    · exact absurd hgw g
theorem vx_c {args : Array Value} {s : State} {w : Cond} {B : List Cond} (h : w.before args s = true) (t : ∀ w ∈ B, w.before args s = true) : ∀ w' ∈ w :: B, w'.before args s = true := fun w' h' => (List.mem_cons.mp h').elim (fun e => by rw [e]; exact h) (t w')
theorem vx_n {args : Array Value} {s : State} : ∀ w ∈ ([] : List Cond), w.before args s = true := fun _ h => nomatch h
theorem vx_own {args : Array Value} {s : State} {L : List Cond} (h1 : ∀ w ∈ L.filter vx_no, w.before args s = true)
    (hU : (Cond.isRef (.static Bundle.tN "UNASSIGNED_STACK" Bundle.steD)).before args s = true) (hN : (Cond.isRef (.static Bundle.tN "SUPPRESSED_SENTINEL" Bundle.listD)).before args s = true)
    (lU : (Cond.laysStatic Bundle.tN "UNASSIGNED_STACK" Bundle.steD).before args s = true) (lN : (Cond.laysStatic Bundle.tN "SUPPRESSED_SENTINEL" Bundle.listD).before args s = true) : ∀ w ∈ L, w.before args s = true := by
  intro w hw
  by_cases e1 : w = .isRef (.static Bundle.tN "UNASSIGNED_STACK" Bundle.steD)
  · rw [e1]; exact hU
  · by_cases e2 : w = .isRef (.static Bundle.tN "SUPPRESSED_SENTINEL" Bundle.listD)
    · rw [e2]; exact hN
    · by_cases e3 : w = .laysStatic Bundle.tN "UNASSIGNED_STACK" Bundle.steD
      · rw [e3]; exact lU
      · by_cases e4 : w = .laysStatic Bundle.tN "SUPPRESSED_SENTINEL" Bundle.listD
        · rw [e4]; exact lN
        · exact h1 w (List.mem_filter.mpr ⟨hw, by unfold vx_no; rw [decide_eq_true e1, decide_eq_true e2, decide_eq_true e3, decide_eq_true e4]; rfl⟩)
/-- where a static field lies, its class's statics cell in H -/
def vx_L (C n d : String) (A : Nat → Prop) (U : State) (H : Heap) : Prop := ∃ (c : ClassId) (k : Class) (i : Nat) (f : Field) (a : Nat) (cell : Cell), U.vm.findClass C = some c ∧ U.fieldFound? C n d = some (c, k, i, f) ∧ f.isStatic = true ∧ k.statics = some a ∧ H[a]? = some cell ∧ cell.vm.isStatics = true ∧ cell.cls = c ∧ f.slot < cell.slots.size ∧ k.staticTypes[f.slot]? = some f.type ∧ ¬ A a
theorem vx_L.moved {C n d : String} {A : Nat → Prop} {u U : State} {H : Heap} (hvm : u.vm.Alike U.vm) (h : vx_L C n d A u H) : vx_L C n d A U H := by
  obtain ⟨c, k, i, f, a, cell, h1, h2, h3, h4, h5, h6, h7, h8, h9, h10⟩ := h
  obtain ⟨k', hi', he⟩ := State.fieldFound?_setVm hvm h2
  exact ⟨c, k', i, f, a, cell, by rw [hvm.findClass]; exact h1, hi', h3, by rw [he]; exact h4, h5, h6, h7, h8, by rw [he]; exact h9, h10⟩
theorem vx_L.kept {C n d : String} {A : Nat → Prop} {U : State} {H H1 : Heap} (h : vx_L C n d A U H) (hq : ∀ a : Nat, a < H.size → ¬ A a → H1[a]? = H[a]?) : vx_L C n d A U H1 := by
  obtain ⟨c, k, i, f, a, cell, h1, h2, h3, h4, h5, h6, h7, h8, h9, h10⟩ := h
  exact ⟨c, k, i, f, a, cell, h1, h2, h3, h4, by rw [hq a (Array.getElem?_eq_some_iff.mp h5).1 h10]; exact h5, h6, h7, h8, h9, h10⟩
theorem vx_L.narrow {C n d : String} {A B : Nat → Prop} {U : State} {H : Heap} (h : vx_L C n d A U H) (hAB : ∀ q, B q → A q) : vx_L C n d B U H := by
  obtain ⟨c, k, i, f, a, cell, h1, h2, h3, h4, h5, h6, h7, h8, h9, h10⟩ := h
  exact ⟨c, k, i, f, a, cell, h1, h2, h3, h4, h5, h6, h7, h8, h9, fun z => h10 (hAB _ z)⟩
theorem vx_L.word {C n d : String} {A : Nat → Prop} {s : State} {args : Array Value} (h : vx_L C n d A s s.heap) : (Cond.laysStatic C n d).before args s = true := by
  obtain ⟨c, k, i, f, a, cell, h1, h2, h3, h4, h5, h6, h7, h8, h9, -⟩ := h
  show (Cond.laysStatic C n d).holds args s none s [] = true
  exact Cond.laysStatic_of h1 h2 h3 h4 h5 h6 h7 h8 h9
/-- .. and what it holds: null or some reference -/
def vx_Zq (C n d : String) (A : Nat → Prop) (U : State) (H : Heap) : Prop := va_Zq C n d A U H ∧ vx_L C n d A U H
theorem vx_Zq.moved {C n d : String} {A : Nat → Prop} {u U : State} {H : Heap} (hvm : u.vm.Alike U.vm) (h : vx_Zq C n d A u H) : vx_Zq C n d A U H := ⟨va_Zq.moved hvm h.1, vx_L.moved hvm h.2⟩
theorem vx_Zq.kept {C n d : String} {A : Nat → Prop} {U : State} {H H1 : Heap} (h : vx_Zq C n d A U H) (hq : ∀ a : Nat, a < H.size → ¬ A a → H1[a]? = H[a]?) : vx_Zq C n d A U H1 := ⟨va_Zq.kept h.1 hq, vx_L.kept h.2 hq⟩
theorem vx_Zq.narrow {C n d : String} {A B : Nat → Prop} {U : State} {H : Heap} (h : vx_Zq C n d A U H) (hAB : ∀ q, B q → A q) : vx_Zq C n d B U H := ⟨va_Zq.narrow h.1 hAB, vx_L.narrow h.2 hAB⟩
theorem vx_Zqof {args : Array Value} {s : State} {C n d : String} {A : Nat → Prop} (hl : (Cond.laysStatic C n d).before args s = true) (hini : (Cond.initialized C).before args s = true) (h : (Cond.isRef (.static C n d)).before args s = true) (hA : ∀ a : Nat, a < s.heap.size → ¬ A a) : vx_Zq C n d A s s.heap := by
  refine ⟨va_Zqof hl hini h hA, ?_⟩
  obtain ⟨c, k, i, f, a, cell, h1, h2, h3, h4, h5, h6, h7, h8, h9⟩ := Cond.laysStatic_spec hl
  exact ⟨c, k, i, f, a, cell, h1, h2, h3, h4, h5, h6, h7, h8, h9, hA a (Array.getElem?_eq_some_iff.mp h5).1⟩
theorem vx_isRef {C n d : String} {v : Value} {A : Nat → Prop} {s : State} {args : Array Value} (h : va_Z C n d v A s s.heap) (hv : v.isRef = true) : (Cond.isRef (.static C n d)).before args s = true := by
  obtain ⟨cf, kf, fi, f, a, cell, h1, h2, h3, h4, h5, h6, h7, -⟩ := h
  have he : (Term.static C n d).eval args s none [] s = some v := by
    simp [Term.eval, State.fieldNamed?, h1, h2, h4, h5, h6, h7]
  simp only [Cond.before, Cond.holds, Cond.value, he]
  cases v <;> simp_all [Value.isRef]
theorem vx_isRefq {C n d : String} {A : Nat → Prop} {s : State} {args : Array Value} (h : va_Zq C n d A s s.heap) : (Cond.isRef (.static C n d)).before args s = true := by
  rcases h with h | ⟨t, h⟩
  · exact vx_isRef h rfl
  · exact vx_isRef h rfl
/-- the same frame, seen from here: as if the method were called anew in this heap -/
theorem vx_rebase {T : State} (X : Stand p l e R s m args below meth c T locs cells slots) {R' : Room} (hf : R'.frames ≤ R.frames) (hl : R'.locals ≤ R.locals) (hc : cells + R'.cells ≤ R.cells) (hs : slots + R'.slots ≤ R.slots) :
    Stand p l e R' ((T.setVm s.vm).setFrames (.invoking m args :: below)) m args below meth c T [] 0 0 := by
  have htop : (T.setVm s.vm).topJava?.isSome := X.here.top
  have hF : ((T.setVm s.vm).setFrames (.invoking m args :: below)).frames = .invoking m args :: below := State.frames_setFrames _ (State.cur_lt_of_top htop)
  obtain ⟨g₀, hg0⟩ := Option.isSome_iff_exists.mp htop
  obtain ⟨r, hr⟩ := State.topJava?_eq_some.mp hg0
  have hl9 : e.platform.stackLimits (T.setVm s.vm).me = e.platform.stackLimits s.me := X.limits
  have hb9 : (T.setVm s.vm).me.stackBytes = s.me.stackBytes := X.bytes
  refine ⟨X.admits, X.cas, X.clock, hF, ?_, X.hears, X.method, X.code, X.here, X.tail, X.warmed, ?_, ?_, ?_⟩
  · have h := X.room
    have hU : ((T.setVm s.vm).setFrames (.invoking m args :: below)).localsInUse = s.localsInUse := by
      rw [State.localsInUse_invoking hF (meth := meth) (c := c) X.method X.code, State.localsInUse_invoking X.frames X.method X.code]
    simp only [State.hasRoom, Bool.and_eq_true, decide_eq_true_eq] at h ⊢
    obtain ⟨⟨⟨⟨h1, h2, h3, h4, h5, h6⟩, h7⟩, h8⟩, h9⟩ := h
    rw [X.frames, List.length_cons] at h2 h3
    have q1 := X.heapSize
    have q2 := X.used
    simp only [hF, hU, List.length_cons, State.stackLimits_setFrames, State.stackBytes_setFrames, hl9, hb9]
    refine ⟨⟨⟨⟨by omega, by omega, by omega, by omega, by omega, h6⟩, ?_⟩, ?_⟩, X.book⟩
    · show T.heap.size + R'.cells ≤ e.platform.maxCells
      omega
    · show T.slotsUsed + R'.slots ≤ e.platform.maxSlots
      omega
  · rw [State.stackLimits_setFrames]; rfl
  · rw [State.stackBytes_setFrames]; rfl
  · refine ⟨?_, Nat.le_refl _, Nat.le_refl _, ?_, ?_, fun a c9 h9 => ⟨c9, h9, rfl, rfl, fun _ _ => rfl⟩⟩
    · obtain ⟨t, ht, -⟩ := State.frames_cons hr
      show T.setVm s.vm = { ((T.setVm s.vm).setFrames (.invoking m args :: below)).setFrames (T.setVm s.vm).frames with heap := T.heap, slotsUsed := T.slotsUsed }
      rw [State.setFrames_setFrames, State.setFrames_self ht]
      rfl
    · show T.slotsUsed = T.slotsUsed + ((T.heap.toList.drop T.heap.size).map (·.slots.size)).sum
      rw [List.drop_eq_nil_of_le (Nat.le_of_eq Array.length_toList)]
      rfl
    · show ((T.heap.toList.drop T.heap.size).map (·.slots.size)).sum ≤ 0
      rw [List.drop_eq_nil_of_le (Nat.le_of_eq Array.length_toList)]
      exact Nat.le_refl _
/-- 'throw new E()': new; dup; invokespecial; athrow -/
theorem vx_throw0 {cc : ByteArray} {pc : Nat} (hexec : p.tables.exec = Jvm.exec) (hb : c.code = cc) (hl : l.stackTraces = false) {own cls : String} {names : List String} {ik ic mc ms : Nat} {A : Nat → Prop}
    (hown : s.vm.findClass own = some m.cls) (hcls : Bundle.fit cls = true) (hnames : ∀ n ∈ names, Bundle.fit n = true)
    (hk : (Cond.classLink own ik cls).before args s = true) (hini : (Cond.initialized cls).before args s = true) (hat : ∀ w ∈ vx_at0 own ic cls names, w.before args s = true)
    (hgood : ∀ w ∈ Cond.classLink own ik cls :: Cond.initialized cls :: vx_at0 own ic cls names, vx_ot w = true)
    (hU : vx_Zq Bundle.tN "UNASSIGNED_STACK" Bundle.steD A s s.heap) (hN : vx_Zq Bundle.tN "SUPPRESSED_SENTINEL" Bundle.listD A s s.heap) (hS : va_S A s.heap H locs) (hsize : ls.size = c.maxLocals)
    (d0 : decode cc pc = .ok (.new ik, 3)) (d3 : decode cc (pc + 3) = .ok (.dup, 1)) (d4 : decode cc (pc + 4) = .ok (.invokespecial ic, 3)) (d7 : decode cc (pc + 7) = .ok (.athrow, 1))
    (hout : ∀ x ∈ c.exceptionTable.toList, covers x (pc + 7) = false)
    (hRframes : names.length + 3 < R.frames) (hRlocals : (rest.map fun v => v.category).sum + (13 * (names.length + 1) + 42) ≤ R.locals) (hRcells : cells + 1 ≤ R.cells) (hRslots : slots + 6 ≤ R.slots) (hlocks : meth.locks = false)
    (hx : ∀ t : State, s.vm.Alike t.vm → H.size ≤ t.heap.size → (∀ q : Nat, q < H.size → t.heap[q]? = H[q]?) → XC cls s t)
    (hf : ∀ z ∈ locs, free z.base) (hc : cells + 1 ≤ mc) (hs : slots + 6 ≤ ms) :
    W p l e R s m args below meth c H locs cells slots (vx_MQ below Qc XC args s mc ms free) (F0 m pc ls rest) := by
  intro T hT X
  have htr : e.platform.stackTraces = false := (show e.platform.stackTraces = l.stackTraces by rw [X.admits.platform]).trans hl
  have Y := vx_rebase X (R' := { frames := R.frames, locals := R.locals, cells := 1, slots := 6 }) (Nat.le_refl _) (Nat.le_refl _) hRcells hRslots
  obtain ⟨s', hA⟩ : ∃ z, z = (T.setVm s.vm).setFrames (.invoking m args :: below) := ⟨_, rfl⟩
  rw [← hA] at Y
  have hvm : s'.vm = s.vm := by rw [hA]; rfl
  have hhp : s'.heap = H := by rw [hA]; exact hT
  have hW0 : s.WarmedH s'.vm := by rw [hvm]; exact State.WarmedH.refl s
  have hat' : ∀ w ∈ vx_at0 own ic cls names, w.before args s' = true := fun w hw => vx_ot_at hW0 hvm.symm (hgood w (List.mem_cons_of_mem _ (List.mem_cons_of_mem _ hw))) (hat w hw)
  have hk' : (Cond.classLink own ik cls).before args s' = true := vx_ot_at hW0 hvm.symm (hgood _ List.mem_cons_self) hk
  have hini' : (Cond.initialized cls).before args s' = true := vx_ot_at hW0 hvm.symm (hgood _ (List.mem_cons_of_mem _ List.mem_cons_self)) hini
  have hU' : vx_Zq Bundle.tN "UNASSIGNED_STACK" Bundle.steD A s' s'.heap := by rw [hhp]; exact vx_Zq.moved hW0.alike (hU.kept hS.2.1)
  have hN' : vx_Zq Bundle.tN "SUPPRESSED_SENTINEL" Bundle.listD A s' s'.heap := by rw [hhp]; exact vx_Zq.moved hW0.alike (hN.kept hS.2.1)
  have h : ∀ w ∈ Bundle.ownAtoms0 own ic cls names, w.before args s' = true := vx_own hat' (vx_isRefq hU'.1) (vx_isRefq hN'.1) hU'.2.word hN'.2.word
  have hown' : s'.vm.findClass own = some m.cls := by rw [hvm]; exact hown
  have hins : (Cond.instantiable cls 6).before args s' = true := h _ (by simp [Bundle.ownAtoms0])
  obtain ⟨vm₁, cX, kX, hfX, hkX, -, -, X₁, st1⟩ := Y.newCold hexec (own := own) (C := cls) (index := ik) (n := 6) hown' hk' hins hini'
    (g := F0 m pc ls rest) rfl (by rw [hb]; exact d0) (Nat.le_refl _) (Nat.le_refl _)
  generalize hT1 : (T.setVm vm₁).pushCell { cls := cX, slots := kX.instanceTypes.map defaultValue, vm := .none } = T1 at X₁ st1
  have hcat : (Value.ref T.heap.size).category = 1 := rfl
  have hcellA : T1.heap[T.heap.size]? = some (freshCell cX kX) := by rw [← hT1]; exact State.heap_pushCell_size _ _
  have d3' : decode c.code (pc + 3) = .ok (.dup, 1) := by rw [hb]; exact d3
  obtain ⟨U, hsteps, hrun, hend, hW, hsame, ce, hce, hO⟩ := X₁.ctorThrow0 hexec htr (own := own) (cls := cls) (names := names) (ic := ic) hown' hcls hnames h (fun x hx => nomatch hx) hfX hkX hcellA (by rw [hhp, hT]; exact Nat.le_refl _)
    (g := { method := m, pc := pc + 4, locals := ls, stack := .ref T.heap.size :: .ref T.heap.size :: rest, locked := none }) rfl hsize rfl rfl (rest := rest) rfl
    (by rw [hb]; exact d4) (by rw [hb]; exact d7) hout hRframes (by simp only [List.map_cons, List.sum_cons, hcat]; omega) hlocks
  obtain ⟨f1, f2⟩ := vx_frame hsame
  rw [hhp] at f1 f2
  have hWs : s.WarmedH U.vm := State.WarmedH.trans hW0 hW
  have hcl : s.vm.findClass cls = some ce.cls := by
    have h9 := hO.cls
    rw [hvm] at h9
    exact h9
  have hall : s.sameButNew ({ U with vm := s.vm } : State) locs mc ms := by
    subst hA
    obtain ⟨e1, e2⟩ := hsame
    rw [State.setFrames_setFrames] at e1
    have h2 : (T.setVm s.vm).sameButNew ({ U with vm := s.vm } : State) [] (0 + 1) (0 + 6) := ⟨e1, e2⟩
    have h3 := X.same.trans h2
    rw [List.append_nil] at h3
    exact h3.mono hc hs
  refine ⟨U, ?_, .threw T.heap.size, hrun, hend, Or.inr ⟨T.heap.size, rfl, cls, ce, locs, hx U hWs.alike f1 (fun q hq => f2 q hq (fun z hz => nomatch hz)), hce, hO.vm, hcl, hWs, hall, hf⟩⟩
  refine st1 _ ?_
  show Steps p.tables e below (T1.setTop { method := m, pc := pc + 3, locals := ls, stack := .ref T.heap.size :: rest, locked := none }) _
  jvm_step X₁.here [X₁.here.top, hexec, d3', Value.category]
  exact hsteps
/-- 'throw new E("text")': new; dup; ldc; invokespecial; athrow -/
theorem vx_throwS {cc : ByteArray} {pc : Nat} (hexec : p.tables.exec = Jvm.exec) (hb : c.code = cc) (hl : l.stackTraces = false) {own cls text : String} {names : List String} {ik is ic mc ms sa : Nat} {A : Nat → Prop}
    (hown : s.vm.findClass own = some m.cls) (hcls : Bundle.fit cls = true) (hnames : ∀ n ∈ names, Bundle.fit n = true)
    (hk : (Cond.classLink own ik cls).before args s = true) (hini : (Cond.initialized cls).before args s = true) (hstr : vk_R own is text sa s) (hat : ∀ w ∈ vx_atS own ic cls names, w.before args s = true)
    (hgood : ∀ w ∈ Cond.classLink own ik cls :: Cond.initialized cls :: vx_atS own ic cls names, vx_ot w = true)
    (hU : vx_Zq Bundle.tN "UNASSIGNED_STACK" Bundle.steD A s s.heap) (hN : vx_Zq Bundle.tN "SUPPRESSED_SENTINEL" Bundle.listD A s s.heap) (hS : va_S A s.heap H locs) (hsize : ls.size = c.maxLocals)
    (d0 : decode cc pc = .ok (.new ik, 3)) (d3 : decode cc (pc + 3) = .ok (.dup, 1)) (d4 : decode cc (pc + 4) = .ok (.ldc is, 2)) (d6 : decode cc (pc + 6) = .ok (.invokespecial ic, 3)) (d9 : decode cc (pc + 9) = .ok (.athrow, 1))
    (hout : ∀ x ∈ c.exceptionTable.toList, covers x (pc + 9) = false)
    (hRframes : names.length + 3 < R.frames) (hRlocals : (rest.map fun v => v.category).sum + (13 * (names.length + 1) + 43) ≤ R.locals) (hRcells : cells + 1 ≤ R.cells) (hRslots : slots + 6 ≤ R.slots) (hlocks : meth.locks = false)
    (hx : ∀ t : State, s.vm.Alike t.vm → H.size ≤ t.heap.size → (∀ q : Nat, q < H.size → t.heap[q]? = H[q]?) → XC cls s t)
    (hf : ∀ z ∈ locs, free z.base) (hc : cells + 1 ≤ mc) (hs : slots + 6 ≤ ms) :
    W p l e R s m args below meth c H locs cells slots (vx_MQ below Qc XC args s mc ms free) (F0 m pc ls rest) := by
  intro T hT X
  have htr : e.platform.stackTraces = false := (show e.platform.stackTraces = l.stackTraces by rw [X.admits.platform]).trans hl
  have Y := vx_rebase X (R' := { frames := R.frames, locals := R.locals, cells := 1, slots := 6 }) (Nat.le_refl _) (Nat.le_refl _) hRcells hRslots
  obtain ⟨s', hA⟩ : ∃ z, z = (T.setVm s.vm).setFrames (.invoking m args :: below) := ⟨_, rfl⟩
  rw [← hA] at Y
  have hvm : s'.vm = s.vm := by rw [hA]; rfl
  have hhp : s'.heap = H := by rw [hA]; exact hT
  have hW0 : s.WarmedH s'.vm := by rw [hvm]; exact State.WarmedH.refl s
  have hat' : ∀ w ∈ vx_atS own ic cls names, w.before args s' = true := fun w hw => vx_ot_at hW0 hvm.symm (hgood w (List.mem_cons_of_mem _ (List.mem_cons_of_mem _ hw))) (hat w hw)
  have hk' : (Cond.classLink own ik cls).before args s' = true := vx_ot_at hW0 hvm.symm (hgood _ List.mem_cons_self) hk
  have hini' : (Cond.initialized cls).before args s' = true := vx_ot_at hW0 hvm.symm (hgood _ (List.mem_cons_of_mem _ List.mem_cons_self)) hini
  have hU' : vx_Zq Bundle.tN "UNASSIGNED_STACK" Bundle.steD A s' s'.heap := by rw [hhp]; exact vx_Zq.moved hW0.alike (hU.kept hS.2.1)
  have hN' : vx_Zq Bundle.tN "SUPPRESSED_SENTINEL" Bundle.listD A s' s'.heap := by rw [hhp]; exact vx_Zq.moved hW0.alike (hN.kept hS.2.1)
  have h : ∀ w ∈ Bundle.ownAtoms own ic cls names, w.before args s' = true := vx_own hat' (vx_isRefq hU'.1) (vx_isRefq hN'.1) hU'.2.word hN'.2.word
  have hown' : s'.vm.findClass own = some m.cls := by rw [hvm]; exact hown
  have hins : (Cond.instantiable cls 6).before args s' = true := h _ (by simp [Bundle.ownAtoms])
  obtain ⟨vm₁, cX, kX, hfX, hkX, -, -, X₁, st1⟩ := Y.newCold hexec (own := own) (C := cls) (index := ik) (n := 6) hown' hk' hins hini'
    (g := F0 m pc ls rest) rfl (by rw [hb]; exact d0) (Nat.le_refl _) (Nat.le_refl _)
  generalize hT1 : (T.setVm vm₁).pushCell { cls := cX, slots := kX.instanceTypes.map defaultValue, vm := .none } = T1 at X₁ st1
  have hcat : (Value.ref T.heap.size).category = 1 := rfl
  have hcellA : T1.heap[T.heap.size]? = some (freshCell cX kX) := by rw [← hT1]; exact State.heap_pushCell_size _ _
  have d3' : decode c.code (pc + 3) = .ok (.dup, 1) := by rw [hb]; exact d3
  have d4' : decode c.code (pc + 4) = .ok (.ldc is, 2) := by rw [hb]; exact d4
  have hstr' : vk_R own is text sa s' := vk_R.warm hW0 hstr
  obtain ⟨U, hsteps, hrun, hend, hW, hsame, ce, hce, hO⟩ := X₁.ctorThrowS hexec htr (own := own) (cls := cls) (names := names) (ic := ic) hown' hcls hnames h (fun x hx => nomatch hx) hfX hkX hcellA (by rw [hhp, hT]; exact Nat.le_refl _) (msg := .ref sa) rfl
    (g := { method := m, pc := pc + 6, locals := ls, stack := .ref sa :: .ref T.heap.size :: .ref T.heap.size :: rest, locked := none }) rfl hsize rfl rfl (rest := rest) rfl
    (by rw [hb]; exact d6) (by rw [hb]; exact d9) hout hRframes (by simp only [List.map_cons, List.sum_cons, hcat]; omega) hlocks
  obtain ⟨f1, f2⟩ := vx_frame hsame
  rw [hhp] at f1 f2
  have hWs : s.WarmedH U.vm := State.WarmedH.trans hW0 hW
  have hcl : s.vm.findClass cls = some ce.cls := by
    have h9 := hO.cls
    rw [hvm] at h9
    exact h9
  have hall : s.sameButNew ({ U with vm := s.vm } : State) locs mc ms := by
    subst hA
    obtain ⟨e1, e2⟩ := hsame
    rw [State.setFrames_setFrames] at e1
    have h2 : (T.setVm s.vm).sameButNew ({ U with vm := s.vm } : State) [] (0 + 1) (0 + 6) := ⟨e1, e2⟩
    have h3 := X.same.trans h2
    rw [List.append_nil] at h3
    exact h3.mono hc hs
  refine ⟨U, ?_, .threw T.heap.size, hrun, hend, Or.inr ⟨T.heap.size, rfl, cls, ce, locs, hx U hWs.alike f1 (fun q hq => f2 q hq (fun z hz => nomatch hz)), hce, hO.vm, hcl, hWs, hall, hf⟩⟩
  refine st1 _ ?_
  show Steps p.tables e below (T1.setTop { method := m, pc := pc + 3, locals := ls, stack := .ref T.heap.size :: rest, locked := none }) _
  jvm_step X₁.here [X₁.here.top, hexec, d3', Value.category]
  exact X₁.ldcString hexec (own := own) (text := text) (index := is) (a := sa) hown' hstr'.1 hstr'.2
    (g := { method := m, pc := pc + 4, locals := ls, stack := .ref T.heap.size :: .ref T.heap.size :: rest, locked := none }) rfl d4' _ hsteps
/-- 'throw new E("text")', the text by a wide index -/
theorem vx_throwSW {cc : ByteArray} {pc : Nat} (hexec : p.tables.exec = Jvm.exec) (hb : c.code = cc) (hl : l.stackTraces = false) {own cls text : String} {names : List String} {ik is ic mc ms sa : Nat} {A : Nat → Prop}
    (hown : s.vm.findClass own = some m.cls) (hcls : Bundle.fit cls = true) (hnames : ∀ n ∈ names, Bundle.fit n = true)
    (hk : (Cond.classLink own ik cls).before args s = true) (hini : (Cond.initialized cls).before args s = true) (hstr : vk_R own is text sa s) (hat : ∀ w ∈ vx_atS own ic cls names, w.before args s = true)
    (hgood : ∀ w ∈ Cond.classLink own ik cls :: Cond.initialized cls :: vx_atS own ic cls names, vx_ot w = true)
    (hU : vx_Zq Bundle.tN "UNASSIGNED_STACK" Bundle.steD A s s.heap) (hN : vx_Zq Bundle.tN "SUPPRESSED_SENTINEL" Bundle.listD A s s.heap) (hS : va_S A s.heap H locs) (hsize : ls.size = c.maxLocals)
    (d0 : decode cc pc = .ok (.new ik, 3)) (d3 : decode cc (pc + 3) = .ok (.dup, 1)) (d4 : decode cc (pc + 4) = .ok (.ldc_w is, 3)) (d7 : decode cc (pc + 7) = .ok (.invokespecial ic, 3)) (d10 : decode cc (pc + 10) = .ok (.athrow, 1))
    (hout : ∀ x ∈ c.exceptionTable.toList, covers x (pc + 10) = false)
    (hRframes : names.length + 3 < R.frames) (hRlocals : (rest.map fun v => v.category).sum + (13 * (names.length + 1) + 43) ≤ R.locals) (hRcells : cells + 1 ≤ R.cells) (hRslots : slots + 6 ≤ R.slots) (hlocks : meth.locks = false)
    (hx : ∀ t : State, s.vm.Alike t.vm → H.size ≤ t.heap.size → (∀ q : Nat, q < H.size → t.heap[q]? = H[q]?) → XC cls s t)
    (hf : ∀ z ∈ locs, free z.base) (hc : cells + 1 ≤ mc) (hs : slots + 6 ≤ ms) :
    W p l e R s m args below meth c H locs cells slots (vx_MQ below Qc XC args s mc ms free) (F0 m pc ls rest) := by
  intro T hT X
  have htr : e.platform.stackTraces = false := (show e.platform.stackTraces = l.stackTraces by rw [X.admits.platform]).trans hl
  have Y := vx_rebase X (R' := { frames := R.frames, locals := R.locals, cells := 1, slots := 6 }) (Nat.le_refl _) (Nat.le_refl _) hRcells hRslots
  obtain ⟨s', hA⟩ : ∃ z, z = (T.setVm s.vm).setFrames (.invoking m args :: below) := ⟨_, rfl⟩
  rw [← hA] at Y
  have hvm : s'.vm = s.vm := by rw [hA]; rfl
  have hhp : s'.heap = H := by rw [hA]; exact hT
  have hW0 : s.WarmedH s'.vm := by rw [hvm]; exact State.WarmedH.refl s
  have hat' : ∀ w ∈ vx_atS own ic cls names, w.before args s' = true := fun w hw => vx_ot_at hW0 hvm.symm (hgood w (List.mem_cons_of_mem _ (List.mem_cons_of_mem _ hw))) (hat w hw)
  have hk' : (Cond.classLink own ik cls).before args s' = true := vx_ot_at hW0 hvm.symm (hgood _ List.mem_cons_self) hk
  have hini' : (Cond.initialized cls).before args s' = true := vx_ot_at hW0 hvm.symm (hgood _ (List.mem_cons_of_mem _ List.mem_cons_self)) hini
  have hU' : vx_Zq Bundle.tN "UNASSIGNED_STACK" Bundle.steD A s' s'.heap := by rw [hhp]; exact vx_Zq.moved hW0.alike (hU.kept hS.2.1)
  have hN' : vx_Zq Bundle.tN "SUPPRESSED_SENTINEL" Bundle.listD A s' s'.heap := by rw [hhp]; exact vx_Zq.moved hW0.alike (hN.kept hS.2.1)
  have h : ∀ w ∈ Bundle.ownAtoms own ic cls names, w.before args s' = true := vx_own hat' (vx_isRefq hU'.1) (vx_isRefq hN'.1) hU'.2.word hN'.2.word
  have hown' : s'.vm.findClass own = some m.cls := by rw [hvm]; exact hown
  have hins : (Cond.instantiable cls 6).before args s' = true := h _ (by simp [Bundle.ownAtoms])
  obtain ⟨vm₁, cX, kX, hfX, hkX, -, -, X₁, st1⟩ := Y.newCold hexec (own := own) (C := cls) (index := ik) (n := 6) hown' hk' hins hini'
    (g := F0 m pc ls rest) rfl (by rw [hb]; exact d0) (Nat.le_refl _) (Nat.le_refl _)
  generalize hT1 : (T.setVm vm₁).pushCell { cls := cX, slots := kX.instanceTypes.map defaultValue, vm := .none } = T1 at X₁ st1
  have hcat : (Value.ref T.heap.size).category = 1 := rfl
  have hcellA : T1.heap[T.heap.size]? = some (freshCell cX kX) := by rw [← hT1]; exact State.heap_pushCell_size _ _
  have d3' : decode c.code (pc + 3) = .ok (.dup, 1) := by rw [hb]; exact d3
  have d4' : decode c.code (pc + 4) = .ok (.ldc_w is, 3) := by rw [hb]; exact d4
  have hstr' : vk_R own is text sa s' := vk_R.warm hW0 hstr
  obtain ⟨U, hsteps, hrun, hend, hW, hsame, ce, hce, hO⟩ := X₁.ctorThrowS hexec htr (own := own) (cls := cls) (names := names) (ic := ic) hown' hcls hnames h (fun x hx => nomatch hx) hfX hkX hcellA (by rw [hhp, hT]; exact Nat.le_refl _) (msg := .ref sa) rfl
    (g := { method := m, pc := pc + 7, locals := ls, stack := .ref sa :: .ref T.heap.size :: .ref T.heap.size :: rest, locked := none }) rfl hsize rfl rfl (rest := rest) rfl
    (by rw [hb]; exact d7) (by rw [hb]; exact d10) hout hRframes (by simp only [List.map_cons, List.sum_cons, hcat]; omega) hlocks
  obtain ⟨f1, f2⟩ := vx_frame hsame
  rw [hhp] at f1 f2
  have hWs : s.WarmedH U.vm := State.WarmedH.trans hW0 hW
  have hcl : s.vm.findClass cls = some ce.cls := by
    have h9 := hO.cls
    rw [hvm] at h9
    exact h9
  have hall : s.sameButNew ({ U with vm := s.vm } : State) locs mc ms := by
    subst hA
    obtain ⟨e1, e2⟩ := hsame
    rw [State.setFrames_setFrames] at e1
    have h2 : (T.setVm s.vm).sameButNew ({ U with vm := s.vm } : State) [] (0 + 1) (0 + 6) := ⟨e1, e2⟩
    have h3 := X.same.trans h2
    rw [List.append_nil] at h3
    exact h3.mono hc hs
  refine ⟨U, ?_, .threw T.heap.size, hrun, hend, Or.inr ⟨T.heap.size, rfl, cls, ce, locs, hx U hWs.alike f1 (fun q hq => f2 q hq (fun z hz => nomatch hz)), hce, hO.vm, hcl, hWs, hall, hf⟩⟩
  refine st1 _ ?_
  show Steps p.tables e below (T1.setTop { method := m, pc := pc + 3, locals := ls, stack := .ref T.heap.size :: rest, locked := none }) _
  jvm_step X₁.here [X₁.here.top, hexec, d3', Value.category]
  exact X₁.ldcStringW hexec (own := own) (text := text) (index := is) (a := sa) hown' hstr'.1 hstr'.2
    (g := { method := m, pc := pc + 4, locals := ls, stack := .ref T.heap.size :: .ref T.heap.size :: rest, locked := none }) rfl d4' _ hsteps
end Ends
section Bodies
variable {l : Launch}
theorem vx_ofW {y : MethodName} {ws ws' : List Cond} {rm : Room} {Pc : Array Value → State → Prop} {Qc : Array Value → State → Outcome → State → Prop} {XC : String → State → State → Prop} {mc ms : Nat} {free : Addr → Prop} {cc : ByteArray} {maxL : Nat} {ret : Option FieldType}
    (hy : plainName y.cls = true) (hw : ws = Cond.code y cc maxL ret :: ws')
    (body : ∀ p e s m args below meth c s₁, BodyLoose p l y (headSpec ws rm) cc maxL ret e s m args below meth c s₁ → c.maxLocals = maxL → (∀ x ∈ c.exceptionTable.toList, False) → Pc args s →
      W p l e (headSpec ws rm).room s m args below meth c s.heap [] 0 0 (vx_MQ below Qc XC args s mc ms free) (entryFrame m args maxL)) : vx_Met l y ws rm Pc Qc XC mc ms free := by
  refine MetFree.of_bodyS (code := cc) (maxLocals := maxL) (ret := ret) hy ?_ ?_
  · intro args s m h hn
    obtain ⟨meth, c, h1, h2, h3, h4, h5, h6, -, -⟩ := Cond.code_spec hn (atoms_spec (ws := ws) h _ (by rw [hw]; exact List.mem_cons_self))
    exact ⟨meth, c, h1, h2, h3, h4, h5, h6⟩
  · intro p e s m args below meth c s₁ B hml hP _
    have hh0 : s₁.heap = s.heap := by rw [B.state]; rfl
    have ht : ∀ x ∈ c.exceptionTable.toList, False := by
      obtain ⟨meth9, c9, h1, h2, -, -, -, -, h7, -⟩ := Cond.code_spec B.named (atoms_spec (ws := ws) B.pre _ (by rw [hw]; exact List.mem_cons_self))
      cases Option.some.inj (h1.symm.trans B.method)
      cases Option.some.inj (h2.symm.trans (Stand.of_body B).code)
      intro x hx
      rw [Array.isEmpty_iff.mp h7] at hx
      cases hx
    obtain ⟨t, a1, o, b1, b2, b3⟩ := body p e s m args below meth c s₁ B hml ht hP s₁ hh0 (Stand.of_body B)
    exact ⟨t, o, a1, b1, b2, b3⟩
/-- the table of a body with handlers -/
theorem vx_table {p : Program} {x y : MethodName} {S : Spec} {cc bytes : ByteArray} {maxL maxL' : Nat} {ret ret' : Option FieldType} {e : Env} {s s₁ : State} {m : MethodId} {args : Array Value} {below : List Frame} {meth : Method} {c : Code} {hh : List (Nat × Nat × Nat × Nat)}
    (B : BodyLoose p l y S cc maxL ret e s m args below meth c s₁) (h : (Cond.codeWith y bytes maxL' ret' hh).before args s = true) : c.exceptionTable.toList = tableOf hh := by
  obtain ⟨m9, meth9, c9, hn9, h1, h2, -, -, h6, -⟩ := Cond.codeWith_spec h
  cases Option.some.inj (hn9.symm.trans B.named)
  cases Option.some.inj (h1.symm.trans B.method)
  cases Option.some.inj (h2.symm.trans (Stand.of_body B).code)
  rw [← h6, table_eq]
end Bodies
end VXA
/-! ===== END ===== -/
/-! ===== BEGIN a static call of a method with an exception table ===== -/
section VXS
variable {p : Program} {l : Launch} {e : Env} {R : Room} {s : State} {m : MethodId} {args : Array Value} {below : List Frame} {meth : Method} {c : Code} {T : State} {H : Heap} {locs : List Loc} {cells slots : Nat}
abbrev vx_CSW (R : Room) (s : State) (args : Array Value) (own : String) (index : Nat) (y : MethodName) (bytes : ByteArray) (maxL : Nat) (ret : Option FieldType) (hh : List (Nat × Nat × Nat × Nat)) (ws : List Cond) (rm : Room) (mc ms n : Nat) : Prop :=
  (rm.cells = mc ∧ rm.slots = ms ∧ rm.frames + 1 ≤ R.frames ∧ 8 + (maxL + 11) + rm.locals ≤ R.locals ∧ (∀ w ∈ ws, ∀ (a' : Array Value) (U : State), s.WarmedH U.vm → w.before a' U = true) ∧ Cond.codeWith y bytes maxL ret hh ∈ ws) ∧
  (Cond.codeWith y bytes maxL ret hh).before args s = true ∧ (Cond.initialized y.cls).before args s = true ∧ (y.cls ≠ "java/lang/invoke/MethodHandle" ∧ y.cls ≠ "java/lang/invoke/VarHandle") ∧
  (∀ sig, parseMethodDescriptor y.desc = some sig → n = sig.parameters.length) ∧ (Cond.methodLink own index y).before args s = true ∧ (Cond.static y).before args s = true
theorem vx_cwSW {own : String} {index maxL mc ms : Nat} {y : MethodName} {bytes : ByteArray} {ret : Option FieldType} {hh : List (Nat × Nat × Nat × Nat)} {Ts ws ws' : List Cond} {rm : Room} (n : Nat) (ht : ∀ w ∈ Ts, w.before args s = true) (hT : GoodIn Ts (va_wsS own index y ws)) (hw : ws = Cond.codeWith y bytes maxL ret hh :: ws') (hrc : rm.cells = mc) (hrs : rm.slots = ms)
    (hd : y.cls ≠ "java/lang/invoke/MethodHandle" ∧ y.cls ≠ "java/lang/invoke/VarHandle" ∧ (parseMethodDescriptor y.desc).map (fun d => d.parameters.length) = some n) (hR : rm.frames + 1 ≤ R.frames ∧ 8 + (maxL + 11) + rm.locals ≤ R.locals) :
    vx_CSW R s args own index y bytes maxL ret hh ws rm mc ms n := by
  have ok : ∀ w ∈ va_wsS own index y ws, w.before args s = true := fun w h => ht w (hT w h).1
  have hG : GoodIn Ts ws := fun w h => hT w (by unfold va_wsS; exact List.mem_append_right _ h)
  have hc : Cond.codeWith y bytes maxL ret hh ∈ ws := by rw [hw]; exact List.mem_cons_self
  refine ⟨⟨hrc, hrs, hR.1, hR.2, pay_in ht hG, hc⟩, ht _ (hG _ hc).1, ok _ (by simp [va_wsS]), ⟨hd.1, hd.2.1⟩, fun sig h => ?_, ok _ (by simp [va_wsS]), ok _ (by simp [va_wsS])⟩
  have h2 := hd.2.2
  rw [h] at h2
  exact (Option.some.inj h2).symm
theorem vx_callSW (X : Stand p l e R s m args below meth c T locs cells slots) (hexec : p.tables.exec = Jvm.exec) {own : String} {index : Nat} {y : MethodName} {bytes : ByteArray} {maxL : Nat} {ret : Option FieldType} {hh : List (Nat × Nat × Nat × Nat)}
    (hown : s.vm.findClass own = some m.cls) (hlink : (Cond.methodLink own index y).before args s = true) (hstat : (Cond.static y).before args s = true) (hinit : (Cond.initialized y.cls).before args s = true)
    (hcode : (Cond.codeWith y bytes maxL ret hh).before args s = true) (hy : y.cls ≠ "java/lang/invoke/MethodHandle" ∧ y.cls ≠ "java/lang/invoke/VarHandle")
    {W9 : Nat} {Pre : Pt → Array Value → Prop} {Post : Pt → Array Value → Option Value → Pt → Prop} (hK : Back l R p e below s args y 3 W9 Pre Post)
    {g : JFrame} (hg : g.method = m) (hsize : g.locals.size = c.maxLocals) {argsL rest : List Value} (hlen : ∀ sig, parseMethodDescriptor y.desc = some sig → argsL.length = sig.parameters.length)
    (hstack : g.stack = argsL.reverse ++ rest) (hW : 2 * g.monitorRoom + (rest.map fun v => v.category).sum ≤ W9) (hdg : decode c.code g.pc = .ok (.invokestatic index, 3))
    (hpre : ∀ vm₁, s.WarmedH vm₁ → Pre ⟨T.setVm vm₁, locs, cells, slots⟩ argsL.toArray) :
    ∃ (v : Option Value) (vm₁ : Vm) (B : Pt), s.WarmedH vm₁ ∧ Stand p l e R s m args below meth c B.U B.locs B.cells B.slots ∧ Post ⟨T.setVm vm₁, locs, cells, slots⟩ argsL.toArray v B ∧
      ∀ target, Steps p.tables e below (B.U.setTop { g with pc := g.pc + 3, stack := v.toList ++ rest }) target → Steps p.tables e below (T.setTop g) target := by
  obtain ⟨mk, methM, cM, hnamed, hmethM, -, -, -, -, -, -, hsigM⟩ := Cond.codeWith_spec hcode
  have hstatic : methM.isStatic = true := Cond.static_spec hnamed hmethM hstat
  obtain ⟨kP, hkP, -⟩ := className_of_methodNamed hnamed
  have hinitP : kP.init = .initialized := Cond.initialized_spec (findClass_of_methodNamed hnamed) hkP hinit
  obtain ⟨vm₁, X₁, hstep₁⟩ := X.invokestatic hexec hown hlink hnamed hmethM hstatic hkP hinitP hy (g := g) hg (argsL := argsL) (rest := rest) (hlen _ hsigM) hstack hdg
  obtain ⟨v, B, X', hpost, hsteps⟩ := hK m meth c ⟨T.setVm vm₁, locs, cells, slots⟩ { g with stack := rest } (.invokestatic index) mk argsL.toArray X₁ hg hsize hdg hW (X₁.named hnamed) (hpre vm₁ X₁.warmed)
  exact ⟨v, vm₁, B, X₁.warmed, X', hpost, fun target h => hstep₁ _ fun acts => by rw [doInvoke_state]; exact hsteps.trans h⟩
theorem vx_runSW {y : MethodName} {bytes cc : ByteArray} {maxL nL mc ms n index : Nat} {ret : Option FieldType} {hh : List (Nat × Nat × Nat × Nat)} {ws : List Cond} {rm : Room} {Pc : Array Value → State → Prop} {Qc : Array Value → State → Outcome → State → Prop} {free : Addr → Prop} {Ts : List Cond} {own : String} {As rest : List Value} {g : JFrame}
    (S : CallFix p m c cc nL s args Ts own) (hM : Met l y ws rm Pc Qc mc ms free) (cw : vx_CSW R s args own index y bytes maxL ret hh ws rm mc ms n) (hp : PreS s H Pc As)
    (hg : g.method = m) (hn : As.length = n) (hsize : g.locals.size = nL) (hstack : g.stack = As.reverse ++ rest) (hW : 2 * g.monitorRoom + (rest.map fun v => v.category).sum ≤ 8) (hdg : decode cc g.pc = .ok (.invokestatic index, 3)) (hf : cells + mc ≤ R.cells ∧ slots + ms ≤ R.slots) :
    va_Run p l e R s m args below meth c H locs cells slots mc ms g rest (Qc As.toArray) (free) := by
  obtain ⟨⟨hrc, hrs, hfr, hlo, hws, hcw⟩, hcode, hini, hy, hlen, hl, hstt⟩ := cw
  have hK : Back l R p e below s args y 3 8 (PreOf R mc ms Pc) (PostOf Qc mc ms free) := va_backW (hh := hh) (bytes := bytes) (maxL := maxL) (ret := ret) hM hp.1 hrc hrs hfr hlo hws hcw (fun a' U hW => word_at hW (Or.inl (by first | rfl | simp [Cond.onTables, Cond.keeps, Cond.steady])) hini)
  obtain ⟨hx, hb, hml, ho, -⟩ := S
  intro T hT X
  obtain ⟨v, vm₁, ⟨U', l2, c2, s2⟩, hW₁, X', ⟨g', mk, t, L, e1, e2, hq, h1, hL, h2, h3⟩, st⟩ := vx_callSW X hx (hh := hh) (bytes := bytes) (maxL := maxL) (ret := ret) ho hl hstt hini hcode hy hK hg (hsize.trans hml.symm) (argsL := As) (rest := rest) (fun sig h => hn.trans (hlen sig h)) hstack hW (by rw [hb]; exact hdg)
    (fun vm₁ hW₁ => ⟨hf.1, hf.2, hp.2 (T.setVm vm₁) hT hW₁⟩)
  dsimp only [Pt.U, Pt.locs, Pt.cells, Pt.slots] at X' e1 e2 h1 h2 h3 st
  subst h1; subst h2; subst h3
  exact ⟨v, (T.setVm vm₁).calling g' mk As.toArray, t, U', L, hT, X', hL, e1, e2, hq, st⟩
/-- not caught here, past rows that name other classes: it goes on to the caller -/
theorem vx_outP {p : Program} {l : Launch} {e : Env} {R : Room} {s : State} {m : MethodId} {args : Array Value} {below : List Frame} {meth : Method} {c : Code} {H : Heap} {locs : List Loc} {cells slots : Nat} {free : Addr → Prop} {ls : Array Slot} {rest : List Value} {Qc : Array Value → State → Outcome → State → Prop} {XC : String → State → State → Prop}
    {pc : Nat} {own E : String} {ce : Cell} {q : Addr} {mc ms : Nat} (hown : s.vm.findClass own = some m.cls) (hlocks : meth.locks = false)
    (hpass : ∀ z ∈ c.exceptionTable.toList, covers z pc = false ∨ (z.catchType ≠ 0 ∧ ∃ nm : String, (Cond.classLink own z.catchType nm).before args s = true ∧ va_Nc E nm s)) (hcell : H[q]? = some ce) (hv : ce.vm = .none) (hcl : s.vm.findClass E = some ce.cls)
    (hx : ∀ t : State, t.heap = H → s.vm.Alike t.vm → XC E s t) (hf : ∀ z ∈ locs, free z.base) (hc : cells ≤ mc) (hs : slots ≤ ms) :
    vx_W p l e R s m args below meth c H locs cells slots (vx_MQ below Qc XC args s mc ms free) (F0 m pc ls rest) q := by
  intro T hT X
  have hpl : e.platform.magicAccessors = ({} : Platform).magicAccessors := by rw [X.admits.platform]
  obtain ⟨vm', hW', X', st⟩ := X.outThrough hlocks q (g := F0 m pc ls rest) rfl rfl rfl (cell := ce) (by rw [hT]; exact hcell) (by rw [hv]; rfl)
    (by obtain ⟨k9, h9, -⟩ := Vm.findClass_spec hcl; exact ⟨k9, h9⟩) (fun z hz => by
      rcases hpass z hz with h | ⟨hz0, nm, hl1, hn1⟩
      · exact Or.inl h
      · obtain ⟨c6, hc6, hcl6⟩ := Cond.classLink_spec hown hl1 e.platform hpl
        obtain ⟨a8, b8, h1, h2, h3⟩ := hn1
        cases Option.some.inj (h1.symm.trans hcl)
        cases Option.some.inj (h2.symm.trans hc6)
        exact Or.inr ⟨hz0, _, hcl6, h3⟩)
  obtain ⟨g₀, hfr⟩ := X'.frames_eq
  have hcell9 : ((T.setVm vm').setFrames (.throwing q :: below)).heap[q]? = some ce := by
    show T.heap[q]? = some ce
    rw [hT]; exact hcell
  have hend : Ended ((T.setVm vm').setFrames (.throwing q :: below)) below (.threw q) := State.frames_setFrames _ (State.cur_lt_of_frames hfr)
  refine ⟨(T.setVm vm').setFrames (.throwing q :: below), ?_, .threw q, X'.here.running, hend, Or.inr ⟨q, rfl, E, ce, locs, hx _ hT (X'.ends _).1.alike, hcell9, hv, hcl, (X'.ends _).1, (X'.ends _).2.mono hc hs, hf⟩⟩
  rw [X.pushThrowing_eq]
  exact st
/-- a thing of a world lies in the heap -/
theorem vx_lt {D : va_G} {cl : List vw_C} {ws : va_W} {H1 : Heap} (h : va_P D cl ws H1) {k : Nat} {q : Nat × va_E} (hk : ws[k]? = some q) : q.1 < H1.size := (h k q hk).lt
end VXS
/-! ===== END ===== -/
/-! ===== BEGIN methods with a table of their own: called by a name, returning or throwing ===== -/
section VXH
/-! vx_backW, vx_callVX, vx_callSX, vx_callVW, vx_runVW, vx_runVX, vx_runSX, vx_ofWH follow the same proofs as their sisters above (Free/Laws.lean, Shelf42/LK1.lean); vx_outP calls Shelf42/NT130.lean (outThrough). -/
section
variable {l : Launch} {R : Room} {p : Program} {e : Env} {below : List Frame} {s : State} {sargs : Array Value} {y : MethodName} {len W9 : Nat}
theorem vx_backW {ws : List Cond} {rm : Room} {Pc : Array Value → State → Prop} {Qc : Array Value → State → Outcome → State → Prop} {XC : String → State → State → Prop} {mc ms : Nat} {free : Addr → Prop} {bytes : ByteArray} {maxL : Nat} {ret : Option FieldType} {hh : List (Nat × Nat × Nat × Nat)}
    (hM : vx_Met l y ws rm Pc Qc XC mc ms free) (hblind : FrameBlind Pc) (hrc : rm.cells = mc) (hrs : rm.slots = ms)
    (hframes : rm.frames + 1 ≤ R.frames) (hlocals : W9 + (maxL + 11) + rm.locals ≤ R.locals)
    (hws : ∀ w ∈ ws, ∀ a' U, s.WarmedH U.vm → w.before a' U = true) (hcode : Cond.codeWith y bytes maxL ret hh ∈ ws) (hinit : ∀ a' U, s.WarmedH U.vm → (Cond.initialized y.cls).before a' U = true) :
    vx_Back l R p e below s sargs y len W9 (PreOf R mc ms Pc) (PostOf Qc mc ms free) (vx_Post XC mc ms free) := by
  intro m meth c A g ig mk a X hg hsize hdg hW hn hp
  have h1 : (headSpec ws rm).pre.before a A.U = true := atoms_intro fun w hw => hws w hw _ _ X.warmed
  have h2 : (Cond.codeWith y bytes maxL ret hh).before a A.U = true := hws _ hcode _ _ X.warmed
  have h3 : (Cond.initialized y.cls).before a A.U = true := hinit _ _ X.warmed
  have h4 : A.cells + (headSpec ws rm).room.cells ≤ R.cells := by rw [show (headSpec ws rm).room.cells = mc from hrc]; exact hp.1
  have h5 : A.slots + (headSpec ws rm).room.slots ≤ R.slots := by rw [show (headSpec ws rm).room.slots = ms from hrs]; exact hp.2.1
  have hPc : Pc a (A.U.calling g mk a) := hblind _ _ _ _ hp.2.2
  obtain ⟨U, Ls, c0, s0⟩ := A
  dsimp only [Pt.U, Pt.locs, Pt.cells, Pt.slots] at h1 h2 h3 h4 h5 X hn hPc ⊢
  obtain ⟨m9, methY, cY, hn9, hmY, hcY, -, hlY, -⟩ := Cond.codeWith_spec h2
  cases Option.some.inj (hn9.symm.trans hn)
  obtain ⟨kY, hkY, -⟩ := className_of_methodNamed hn
  have hinitY : kY.init = .initialized := Cond.initialized_spec (findClass_of_methodNamed hn) hkY h3
  have h : At U g.method c below := by rw [hg]; exact X.here
  have hlocals9 : W9 + (maxL + 11) + (headSpec ws rm).room.locals ≤ R.locals := hlocals
  have happ : (headSpec ws rm).appliesLoose y e.platform (U.calling g mk a) = true :=
    Spec.appliesLoose_calling (g := g) h hdg hn hkY hinitY
      (X.room_calling (g := g) (R' := (headSpec ws rm).room) hsize hmY hcY hframes (by rw [hlY]; omega) h4 h5) h1
  obtain ⟨mid, hmid⟩ := h.above
  have hfr : (U.setTop g).frames = (.java g :: mid) ++ below := by rw [State.frames_setTop' g h.top, hmid]; rfl
  obtain ⟨o, s₂, hsteps, -, hend, hq⟩ := Steps.callFree hM p X.admits X.cas X.clock (acts := []) hfr happ hPc trivial
  have hq' : vx_Q Qc XC mc ms free a (U.calling g mk a) o s₂ := hq
  rw [State.frames_setTop' g h.top] at hend
  obtain ⟨g₀, hg0⟩ := Option.isSome_iff_exists.mp h.top
  obtain ⟨r, hr⟩ := State.topJava?_eq_some.mp hg0
  have hr' : (({ U with heap := s₂.heap, slotsUsed := s₂.slotsUsed } : State).setVm s₂.vm).frames = .java g₀ :: r := hr
  rcases hq' with ⟨hqc, L, hfe, hL⟩ | ⟨q, rfl, E, ce, L, hx, hce, hcv, hcl, hW₂, hsm, hL⟩
  · obtain ⟨⟨v, rfl⟩, hW₂, e2, q2, q3, q4, q5, q6⟩ := id hfe
    have e3 : s₂ = ({ (U.calling g mk a).setFrames s₂.frames with heap := s₂.heap, slotsUsed := s₂.slotsUsed } : State).setVm s₂.vm := by
      have : s₂ = ({ s₂ with vm := (U.calling g mk a).vm } : State).setVm s₂.vm := rfl
      rw [e2] at this
      exact this
    obtain ⟨c₂, i₂, len₂, hc₂, hd₂, hf₂⟩ := hend
    have hW' : U.WarmedH s₂.vm := hW₂
    have hcc : c₂ = c := by
      have h1 : s₂.code? g.method = U.code? g.method := by
        rw [State.code?_eq, State.code?_eq, hW'.alike.method?]
      exact Option.some.inj (hc₂.symm.trans (h1.trans h.code))
    subst hcc
    have hlen : len₂ = len := by rw [hdg] at hd₂; cases hd₂; rfl
    subst hlen
    have hs₂ : s₂ = (({ U with heap := s₂.heap, slotsUsed := s₂.slotsUsed } : State).setVm s₂.vm).setTop { g with pc := g.pc + len₂, stack := v.toList ++ g.stack } := by
      refine e3.trans ?_
      rw [hf₂, State.calling_eq h.top, State.setFrames_setFrames, State.setTop_of_frames _ hr', hr]
      rfl
    have hsame : U.sameButNew ({ U with heap := s₂.heap, slotsUsed := s₂.slotsUsed } : State) L mc ms := by
      refine ⟨?_, q2, q3, q4, q5, q6⟩
      obtain ⟨t, ht, -⟩ := State.frames_cons hr
      show ({ U with heap := s₂.heap, slotsUsed := s₂.slotsUsed } : State) = { U.setFrames U.frames with heap := s₂.heap, slotsUsed := s₂.slotsUsed }
      rw [State.setFrames_self ht]
    subst hg
    refine Or.inl ⟨v, ⟨(({ U with heap := s₂.heap, slotsUsed := s₂.slotsUsed } : State).setVm s₂.vm), Ls ++ L, c0 + mc, s0 + ms⟩,
      ⟨X.admits, X.cas, X.clock, X.frames, X.room, X.hears, X.method, X.code, (X.here.setHeapUsed s₂.heap s₂.slotsUsed).setVm hW'.alike, X.tail, State.WarmedH.trans X.warmed hW', X.limits, X.bytes, X.same.trans (hsame.setVm s.vm)⟩,
      ⟨g, mk, s₂, L, rfl, rfl, hqc, rfl, hL, rfl, rfl⟩, ?_⟩
    show Steps p.tables e below _ ((({ U with heap := s₂.heap, slotsUsed := s₂.slotsUsed } : State).setVm s₂.vm).setTop { g with pc := g.pc + len₂, stack := v.toList ++ g.stack })
    rw [← hs₂]
    exact hsteps
  · obtain ⟨e2, q2, q3, q4, q5, q6⟩ := id hsm
    have e3 : s₂ = ({ (U.calling g mk a).setFrames s₂.frames with heap := s₂.heap, slotsUsed := s₂.slotsUsed } : State).setVm s₂.vm := by
      have : s₂ = ({ s₂ with vm := (U.calling g mk a).vm } : State).setVm s₂.vm := rfl
      rw [e2] at this
      exact this
    have hf₂ : s₂.frames = .throwing q :: .java g :: U.frames.tail := hend
    have hW' : U.WarmedH s₂.vm := hW₂
    have hs₂ : s₂ = ((({ U with heap := s₂.heap, slotsUsed := s₂.slotsUsed } : State).setVm s₂.vm).setTop g).pushFrame (.throwing q) := by
      refine e3.trans ?_
      rw [hf₂, State.calling_eq h.top, State.setFrames_setFrames, State.pushFrame, State.frames_setTop _ hr', State.setTop_of_frames _ hr', State.setFrames_setFrames, hr]
      rfl
    have hsame : U.sameButNew ({ U with heap := s₂.heap, slotsUsed := s₂.slotsUsed } : State) L mc ms := by
      refine ⟨?_, q2, q3, q4, q5, q6⟩
      obtain ⟨t, ht, -⟩ := State.frames_cons hr
      show ({ U with heap := s₂.heap, slotsUsed := s₂.slotsUsed } : State) = { U.setFrames U.frames with heap := s₂.heap, slotsUsed := s₂.slotsUsed }
      rw [State.setFrames_self ht]
    subst hg
    refine Or.inr ⟨q, ⟨(({ U with heap := s₂.heap, slotsUsed := s₂.slotsUsed } : State).setVm s₂.vm), Ls ++ L, c0 + mc, s0 + ms⟩,
      ⟨X.admits, X.cas, X.clock, X.frames, X.room, X.hears, X.method, X.code, (X.here.setHeapUsed s₂.heap s₂.slotsUsed).setVm hW'.alike, X.tail, State.WarmedH.trans X.warmed hW', X.limits, X.bytes, X.same.trans (hsame.setVm s.vm)⟩,
      ⟨g, mk, s₂, L, E, ce, rfl, rfl, hx, hce, hcv, hcl, rfl, hL, rfl, rfl⟩, ?_⟩
    show Steps p.tables e below _ (((({ U with heap := s₂.heap, slotsUsed := s₂.slotsUsed } : State).setVm s₂.vm).setTop g).pushFrame (.throwing q))
    rw [← hs₂]
    exact hsteps
end
variable {p : Program} {l : Launch} {e : Env} {R : Room} {s : State} {m : MethodId} {args : Array Value} {below : List Frame} {meth : Method} {c : Code} {T : State} {H : Heap} {locs : List Loc} {cells slots : Nat}
theorem vx_callVX (X : Stand p l e R s m args below meth c T locs cells slots) (hexec : p.tables.exec = Jvm.exec) {own C : String} {index : Nat} {y : MethodName} {bytes : ByteArray} {maxL : Nat} {ret : Option FieldType} {hh : List (Nat × Nat × Nat × Nat)}
    (hown : s.vm.findClass own = some m.cls) (hlink : (Cond.methodLink own index y).before args s = true) (hinst : (Cond.instanceMethod y).before args s = true) (hsel : (Cond.selects C y y).before args s = true)
    (hcode : (Cond.codeWith y bytes maxL ret hh).before args s = true) (hy : y.cls ≠ "java/lang/invoke/MethodHandle" ∧ y.cls ≠ "java/lang/invoke/VarHandle")
    {W9 : Nat} {Pre : Pt → Array Value → Prop} {Post : Pt → Array Value → Option Value → Pt → Prop} {PostX : Pt → Array Value → Addr → Pt → Prop} (hK : vx_Back l R p e below s args y 3 W9 Pre Post PostX)
    {b : Addr} {cellB : Cell} (hcell : T.heap[b]? = some cellB) (hobj : cellB.vm.isStatics = false) (hcls : s.vm.findClass C = some cellB.cls)
    {g : JFrame} (hg : g.method = m) (hsize : g.locals.size = c.maxLocals) {argsL rest : List Value} (hlen : ∀ sig, parseMethodDescriptor y.desc = some sig → argsL.length = sig.parameters.length)
    (hstack : g.stack = argsL.reverse ++ .ref b :: rest) (hW : 2 * g.monitorRoom + (rest.map fun v => v.category).sum ≤ W9) (hdg : decode c.code g.pc = .ok (.invokevirtual index, 3))
    (hpre : ∀ vm₁, s.WarmedH vm₁ → Pre ⟨T.setVm vm₁, locs, cells, slots⟩ (Value.ref b :: argsL).toArray) :
    (∃ (v : Option Value) (vm₁ : Vm) (B : Pt), s.WarmedH vm₁ ∧ Stand p l e R s m args below meth c B.U B.locs B.cells B.slots ∧ Post ⟨T.setVm vm₁, locs, cells, slots⟩ (Value.ref b :: argsL).toArray v B ∧
      ∀ target, Steps p.tables e below (B.U.setTop { g with pc := g.pc + 3, stack := v.toList ++ rest }) target → Steps p.tables e below (T.setTop g) target) ∨
    (∃ (q : Addr) (vm₁ : Vm) (B : Pt), s.WarmedH vm₁ ∧ Stand p l e R s m args below meth c B.U B.locs B.cells B.slots ∧ PostX ⟨T.setVm vm₁, locs, cells, slots⟩ (Value.ref b :: argsL).toArray q B ∧
      Steps p.tables e below (T.setTop g) ((B.U.setTop { g with stack := rest }).pushFrame (.throwing q))) := by
  obtain ⟨mk, methM, hnamed, hmethM, hstM, habM⟩ := Cond.instanceMethod_spec hinst
  obtain ⟨m8, methM', cM, hn8, hmethM', -, -, -, -, -, -, hsigM⟩ := Cond.codeWith_spec hcode
  cases Option.some.inj (hn8.symm.trans hnamed)
  cases hmethM.symm.trans hmethM'
  obtain ⟨c2, r2, m2, q1, q2, q3, q4, kP, hkP, hkPi⟩ := Cond.selects_spec hsel
  cases hcls.symm.trans q1
  cases (State.methodFound?_of_named hnamed hy).symm.trans q2
  cases hnamed.symm.trans q3
  have hselP : selectMethod e.platform s.vm cellB.cls mk = .method mk := by rw [Launch.admits_selectMethod X.admits]; exact q4
  obtain ⟨vm₁, X₁, hstep₁⟩ := X.invokevirtual hexec hown hlink hnamed hmethM hstM hkP hkPi hy (a := b) (cell := cellB) hcell
    (fun z h => by rw [h] at hobj; cases hobj) hselP hmethM habM hkP hkPi (g := g) hg (argsL := argsL) (rest := rest) (hlen _ hsigM) hstack hdg
  rcases hK m meth c ⟨T.setVm vm₁, locs, cells, slots⟩ { g with stack := rest } (.invokevirtual index) mk (Value.ref b :: argsL).toArray X₁ hg hsize hdg hW (X₁.named hnamed) (hpre vm₁ X₁.warmed) with ⟨v, B, X', hpost, hsteps⟩ | ⟨q, B, X', hpost, hsteps⟩
  · exact Or.inl ⟨v, vm₁, B, X₁.warmed, X', hpost, fun target h => hstep₁ _ fun acts => by rw [doInvoke_state]; exact hsteps.trans h⟩
  · exact Or.inr ⟨q, vm₁, B, X₁.warmed, X', hpost, hstep₁ _ fun acts => by rw [doInvoke_state]; exact hsteps⟩
theorem vx_callSX (X : Stand p l e R s m args below meth c T locs cells slots) (hexec : p.tables.exec = Jvm.exec) {own : String} {index : Nat} {y : MethodName} {bytes : ByteArray} {maxL : Nat} {ret : Option FieldType} {hh : List (Nat × Nat × Nat × Nat)}
    (hown : s.vm.findClass own = some m.cls) (hlink : (Cond.methodLink own index y).before args s = true) (hstat : (Cond.static y).before args s = true) (hinit : (Cond.initialized y.cls).before args s = true)
    (hcode : (Cond.codeWith y bytes maxL ret hh).before args s = true) (hy : y.cls ≠ "java/lang/invoke/MethodHandle" ∧ y.cls ≠ "java/lang/invoke/VarHandle")
    {W9 : Nat} {Pre : Pt → Array Value → Prop} {Post : Pt → Array Value → Option Value → Pt → Prop} {PostX : Pt → Array Value → Addr → Pt → Prop} (hK : vx_Back l R p e below s args y 3 W9 Pre Post PostX)
    {g : JFrame} (hg : g.method = m) (hsize : g.locals.size = c.maxLocals) {argsL rest : List Value} (hlen : ∀ sig, parseMethodDescriptor y.desc = some sig → argsL.length = sig.parameters.length)
    (hstack : g.stack = argsL.reverse ++ rest) (hW : 2 * g.monitorRoom + (rest.map fun v => v.category).sum ≤ W9) (hdg : decode c.code g.pc = .ok (.invokestatic index, 3))
    (hpre : ∀ vm₁, s.WarmedH vm₁ → Pre ⟨T.setVm vm₁, locs, cells, slots⟩ argsL.toArray) :
    (∃ (v : Option Value) (vm₁ : Vm) (B : Pt), s.WarmedH vm₁ ∧ Stand p l e R s m args below meth c B.U B.locs B.cells B.slots ∧ Post ⟨T.setVm vm₁, locs, cells, slots⟩ argsL.toArray v B ∧
      ∀ target, Steps p.tables e below (B.U.setTop { g with pc := g.pc + 3, stack := v.toList ++ rest }) target → Steps p.tables e below (T.setTop g) target) ∨
    (∃ (q : Addr) (vm₁ : Vm) (B : Pt), s.WarmedH vm₁ ∧ Stand p l e R s m args below meth c B.U B.locs B.cells B.slots ∧ PostX ⟨T.setVm vm₁, locs, cells, slots⟩ argsL.toArray q B ∧
      Steps p.tables e below (T.setTop g) ((B.U.setTop { g with stack := rest }).pushFrame (.throwing q))) := by
  obtain ⟨mk, methM, cM, hnamed, hmethM, -, -, -, -, -, -, hsigM⟩ := Cond.codeWith_spec hcode
  have hstatic : methM.isStatic = true := Cond.static_spec hnamed hmethM hstat
  obtain ⟨kP, hkP, -⟩ := className_of_methodNamed hnamed
  have hinitP : kP.init = .initialized := Cond.initialized_spec (findClass_of_methodNamed hnamed) hkP hinit
  obtain ⟨vm₁, X₁, hstep₁⟩ := X.invokestatic hexec hown hlink hnamed hmethM hstatic hkP hinitP hy (g := g) hg (argsL := argsL) (rest := rest) (hlen _ hsigM) hstack hdg
  rcases hK m meth c ⟨T.setVm vm₁, locs, cells, slots⟩ { g with stack := rest } (.invokestatic index) mk argsL.toArray X₁ hg hsize hdg hW (X₁.named hnamed) (hpre vm₁ X₁.warmed) with ⟨v, B, X', hpost, hsteps⟩ | ⟨q, B, X', hpost, hsteps⟩
  · exact Or.inl ⟨v, vm₁, B, X₁.warmed, X', hpost, fun target h => hstep₁ _ fun acts => by rw [doInvoke_state]; exact hsteps.trans h⟩
  · exact Or.inr ⟨q, vm₁, B, X₁.warmed, X', hpost, hstep₁ _ fun acts => by rw [doInvoke_state]; exact hsteps⟩
theorem vx_callVW (X : Stand p l e R s m args below meth c T locs cells slots) (hexec : p.tables.exec = Jvm.exec) {own C : String} {index : Nat} {y : MethodName} {bytes : ByteArray} {maxL : Nat} {ret : Option FieldType} {hh : List (Nat × Nat × Nat × Nat)}
    (hown : s.vm.findClass own = some m.cls) (hlink : (Cond.methodLink own index y).before args s = true) (hinst : (Cond.instanceMethod y).before args s = true) (hsel : (Cond.selects C y y).before args s = true)
    (hcode : (Cond.codeWith y bytes maxL ret hh).before args s = true) (hy : y.cls ≠ "java/lang/invoke/MethodHandle" ∧ y.cls ≠ "java/lang/invoke/VarHandle")
    {W9 : Nat} {Pre : Pt → Array Value → Prop} {Post : Pt → Array Value → Option Value → Pt → Prop} (hK : Back l R p e below s args y 3 W9 Pre Post)
    {b : Addr} {cellB : Cell} (hcell : T.heap[b]? = some cellB) (hobj : cellB.vm.isStatics = false) (hcls : s.vm.findClass C = some cellB.cls)
    {g : JFrame} (hg : g.method = m) (hsize : g.locals.size = c.maxLocals) {argsL rest : List Value} (hlen : ∀ sig, parseMethodDescriptor y.desc = some sig → argsL.length = sig.parameters.length)
    (hstack : g.stack = argsL.reverse ++ .ref b :: rest) (hW : 2 * g.monitorRoom + (rest.map fun v => v.category).sum ≤ W9) (hdg : decode c.code g.pc = .ok (.invokevirtual index, 3))
    (hpre : ∀ vm₁, s.WarmedH vm₁ → Pre ⟨T.setVm vm₁, locs, cells, slots⟩ (Value.ref b :: argsL).toArray) :
    ∃ (v : Option Value) (vm₁ : Vm) (B : Pt), s.WarmedH vm₁ ∧ Stand p l e R s m args below meth c B.U B.locs B.cells B.slots ∧ Post ⟨T.setVm vm₁, locs, cells, slots⟩ (Value.ref b :: argsL).toArray v B ∧
      ∀ target, Steps p.tables e below (B.U.setTop { g with pc := g.pc + 3, stack := v.toList ++ rest }) target → Steps p.tables e below (T.setTop g) target := by
  obtain ⟨mk, methM, hnamed, hmethM, hstM, habM⟩ := Cond.instanceMethod_spec hinst
  obtain ⟨m8, methM', cM, hn8, hmethM', -, -, -, -, -, -, hsigM⟩ := Cond.codeWith_spec hcode
  cases Option.some.inj (hn8.symm.trans hnamed)
  cases hmethM.symm.trans hmethM'
  obtain ⟨c2, r2, m2, q1, q2, q3, q4, kP, hkP, hkPi⟩ := Cond.selects_spec hsel
  cases hcls.symm.trans q1
  cases (State.methodFound?_of_named hnamed hy).symm.trans q2
  cases hnamed.symm.trans q3
  have hselP : selectMethod e.platform s.vm cellB.cls mk = .method mk := by rw [Launch.admits_selectMethod X.admits]; exact q4
  obtain ⟨vm₁, X₁, hstep₁⟩ := X.invokevirtual hexec hown hlink hnamed hmethM hstM hkP hkPi hy (a := b) (cell := cellB) hcell
    (fun z h => by rw [h] at hobj; cases hobj) hselP hmethM habM hkP hkPi (g := g) hg (argsL := argsL) (rest := rest) (hlen _ hsigM) hstack hdg
  obtain ⟨v, B, X', hpost, hsteps⟩ := hK m meth c ⟨T.setVm vm₁, locs, cells, slots⟩ { g with stack := rest } (.invokevirtual index) mk (Value.ref b :: argsL).toArray X₁ hg hsize hdg hW (X₁.named hnamed) (hpre vm₁ X₁.warmed)
  exact ⟨v, vm₁, B, X₁.warmed, X', hpost, fun target h => hstep₁ _ fun acts => by rw [doInvoke_state]; exact hsteps.trans h⟩
abbrev vx_CVW (R : Room) (s : State) (args : Array Value) (own C : String) (index : Nat) (y : MethodName) (bytes : ByteArray) (maxL : Nat) (ret : Option FieldType) (hh : List (Nat × Nat × Nat × Nat)) (ws : List Cond) (rm : Room) (mc ms n : Nat) : Prop :=
  (rm.cells = mc ∧ rm.slots = ms ∧ rm.frames + 1 ≤ R.frames ∧ 8 + (maxL + 11) + rm.locals ≤ R.locals ∧ (∀ w ∈ ws, ∀ (a' : Array Value) (U : State), s.WarmedH U.vm → w.before a' U = true) ∧ Cond.codeWith y bytes maxL ret hh ∈ ws) ∧
  (Cond.codeWith y bytes maxL ret hh).before args s = true ∧ (Cond.initialized y.cls).before args s = true ∧ (y.cls ≠ "java/lang/invoke/MethodHandle" ∧ y.cls ≠ "java/lang/invoke/VarHandle") ∧
  (∀ sig, parseMethodDescriptor y.desc = some sig → n = sig.parameters.length) ∧ (Cond.methodLink own index y).before args s = true ∧ (Cond.instanceMethod y).before args s = true ∧ (Cond.selects C y y).before args s = true
theorem vx_cwVW {own C : String} {index maxL mc ms : Nat} {y : MethodName} {bytes : ByteArray} {ret : Option FieldType} {hh : List (Nat × Nat × Nat × Nat)} {Ts ws ws' : List Cond} {rm : Room} (n : Nat) (ht : ∀ w ∈ Ts, w.before args s = true) (hT : GoodIn Ts (wsV own index C y ws)) (hw : ws = Cond.codeWith y bytes maxL ret hh :: ws') (hrc : rm.cells = mc) (hrs : rm.slots = ms)
    (hd : y.cls = C ∧ y.cls ≠ "java/lang/invoke/MethodHandle" ∧ y.cls ≠ "java/lang/invoke/VarHandle" ∧ (parseMethodDescriptor y.desc).map (fun d => d.parameters.length) = some n) (hR : rm.frames + 1 ≤ R.frames ∧ 8 + (maxL + 11) + rm.locals ≤ R.locals) :
    vx_CVW R s args own C index y bytes maxL ret hh ws rm mc ms n := by
  obtain ⟨hC, hd⟩ := hd
  subst hC
  have ok : ∀ w ∈ wsV own index y.cls y ws, w.before args s = true := fun w h => ht w (hT w h).1
  have hG : GoodIn Ts ws := fun w h => hT w (by unfold wsV; exact List.mem_append_right _ h)
  have hc : Cond.codeWith y bytes maxL ret hh ∈ ws := by rw [hw]; exact List.mem_cons_self
  refine ⟨⟨hrc, hrs, hR.1, hR.2, pay_in ht hG, hc⟩, ht _ (hG _ hc).1, ok _ (by simp [wsV]), ⟨hd.1, hd.2.1⟩, fun sig h => ?_, ok _ (by simp [wsV]), ok _ (by simp [wsV]), ok _ (by simp [wsV])⟩
  have h2 := hd.2.2
  rw [h] at h2
  exact (Option.some.inj h2).symm
theorem vx_runVW {y : MethodName} {bytes cc : ByteArray} {maxL nL mc ms n index : Nat} {ret : Option FieldType} {hh : List (Nat × Nat × Nat × Nat)} {ws : List Cond} {rm : Room} {Pc : Array Value → State → Prop} {Qc : Array Value → State → Outcome → State → Prop} {free : Addr → Prop} {Ts : List Cond} {own C : String} {b : Addr} {As rest : List Value} {g : JFrame}
    (S : CallFix p m c cc nL s args Ts own) (hM : Met l y ws rm Pc Qc mc ms free) (cw : vx_CVW R s args own C index y bytes maxL ret hh ws rm mc ms n) (hp : PreV s H C b Pc As)
    (hg : g.method = m) (hn : As.length = n) (hsize : g.locals.size = nL) (hstack : g.stack = As.reverse ++ .ref b :: rest) (hW : 2 * g.monitorRoom + (rest.map fun v => v.category).sum ≤ 8) (hdg : decode cc g.pc = .ok (.invokevirtual index, 3)) (hf : cells + mc ≤ R.cells ∧ slots + ms ≤ R.slots) :
    va_Run p l e R s m args below meth c H locs cells slots mc ms g rest (Qc (Value.ref b :: As).toArray) free := by
  obtain ⟨⟨hrc, hrs, hfr, hlo, hws, hcw⟩, hcode, hini, hy, hlen, hl, hin, hse⟩ := cw
  have hK : Back l R p e below s args y 3 8 (PreOf R mc ms Pc) (PostOf Qc mc ms free) := va_backW (hh := hh) (bytes := bytes) (maxL := maxL) (ret := ret) hM hp.1 hrc hrs hfr hlo hws hcw (fun a' U hW => word_at hW (Or.inl (by first | rfl | simp [Cond.onTables, Cond.keeps, Cond.steady])) hini)
  obtain ⟨hx, hb, hml, ho, -⟩ := S
  obtain ⟨-, ⟨cellB, hcB, hoB, hclB⟩, hPc⟩ := hp
  intro T hT X
  obtain ⟨v, vm₁, ⟨U', l2, c2, s2⟩, hW₁, X', ⟨g', mk, t, L, e1, e2, hq, h1, hL, h2, h3⟩, st⟩ := vx_callVW X hx (C := C) (hh := hh) (bytes := bytes) (maxL := maxL) (ret := ret) ho hl hin hse hcode hy hK (by rw [hT]; exact hcB) hoB hclB hg (hsize.trans hml.symm) (argsL := As) (rest := rest) (fun sig h => hn.trans (hlen sig h)) hstack hW (by rw [hb]; exact hdg)
    (fun vm₁ hW₁ => ⟨hf.1, hf.2, hPc (T.setVm vm₁) hT hW₁⟩)
  dsimp only [Pt.U, Pt.locs, Pt.cells, Pt.slots] at X' e1 e2 h1 h2 h3 st
  subst h1; subst h2; subst h3
  exact ⟨v, (T.setVm vm₁).calling g' mk (Value.ref b :: As).toArray, t, U', L, hT, X', hL, e1, e2, hq, st⟩
section
variable {y : MethodName} {bytes cc : ByteArray} {maxL nL mc ms n index : Nat} {ret : Option FieldType} {ws : List Cond} {rm : Room} {Pc : Array Value → State → Prop} {Qc : Array Value → State → Outcome → State → Prop} {XC : String → State → State → Prop} {free : Addr → Prop} {Ts : List Cond} {own C : String} {b : Addr} {As rest : List Value} {g : JFrame}
theorem vx_runVX {hh : List (Nat × Nat × Nat × Nat)} (S : CallFix p m c cc nL s args Ts own) (hM : vx_Met l y ws rm Pc Qc XC mc ms free) (cw : vx_CVW R s args own C index y bytes maxL ret hh ws rm mc ms n) (hp : PreV s H C b Pc As)
    (hg : g.method = m) (hn : As.length = n) (hsize : g.locals.size = nL) (hstack : g.stack = As.reverse ++ .ref b :: rest) (hW : 2 * g.monitorRoom + (rest.map fun v => v.category).sum ≤ 8) (hdg : decode cc g.pc = .ok (.invokevirtual index, 3)) (hf : cells + mc ≤ R.cells ∧ slots + ms ≤ R.slots) :
    vx_Run p l e R s m args below meth c H locs cells slots mc ms g rest (Qc (Value.ref b :: As).toArray) XC free := by
  obtain ⟨⟨hrc, hrs, hfr, hlo, hws, hcw⟩, hcode, hini, hy, hlen, hl, hin, hse⟩ := cw
  have hK : vx_Back l R p e below s args y 3 8 (PreOf R mc ms Pc) (PostOf Qc mc ms free) (vx_Post XC mc ms free) := vx_backW (hh := hh) (bytes := bytes) (maxL := maxL) (ret := ret) hM hp.1 hrc hrs hfr hlo hws hcw (fun a' U hW => word_at hW (Or.inl (by first | rfl | simp [Cond.onTables, Cond.keeps, Cond.steady])) hini)
  obtain ⟨hx, hb, hml, ho, -⟩ := S
  obtain ⟨-, ⟨cellB, hcB, hoB, hclB⟩, hPc⟩ := hp
  intro T hT X
  rcases vx_callVX X hx (C := C) (hh := hh) (bytes := bytes) (maxL := maxL) (ret := ret) ho hl hin hse hcode hy hK (by rw [hT]; exact hcB) hoB hclB hg (hsize.trans hml.symm) (argsL := As) (rest := rest) (fun sig h => hn.trans (hlen sig h)) hstack hW (by rw [hb]; exact hdg)
    (fun vm₁ hW₁ => ⟨hf.1, hf.2, hPc (T.setVm vm₁) hT hW₁⟩) with ⟨v, vm₁, ⟨U', l2, c2, s2⟩, hW₁, X', ⟨g', mk, t, L, e1, e2, hq, h1, hL, h2, h3⟩, st⟩ | ⟨q, vm₁, ⟨U', l2, c2, s2⟩, hW₁, X', ⟨g', mk, t, L, E, ce, e1, e2, hq, hce, hcv, hcl, h1, hL, h2, h3⟩, st⟩
  · dsimp only [Pt.U, Pt.locs, Pt.cells, Pt.slots] at X' e1 e2 h1 h2 h3 st
    subst h1; subst h2; subst h3
    exact Or.inl ⟨v, (T.setVm vm₁).calling g' mk (Value.ref b :: As).toArray, t, U', L, hT, X', hL, e1, e2, hq, st⟩
  · dsimp only [Pt.U, Pt.locs, Pt.cells, Pt.slots] at X' e1 e2 h1 h2 h3 st hcl
    subst h1; subst h2; subst h3
    exact Or.inr ⟨q, (T.setVm vm₁).calling g' mk (Value.ref b :: As).toArray, t, U', L, E, ce, hT, X', hL, e1, e2, hq, hce, hcv, vx_cls hW₁ hcl, st⟩
theorem vx_runSX {hh : List (Nat × Nat × Nat × Nat)} (S : CallFix p m c cc nL s args Ts own) (hM : vx_Met l y ws rm Pc Qc XC mc ms free) (cw : vx_CSW R s args own index y bytes maxL ret hh ws rm mc ms n) (hp : PreS s H Pc As)
    (hg : g.method = m) (hn : As.length = n) (hsize : g.locals.size = nL) (hstack : g.stack = As.reverse ++ rest) (hW : 2 * g.monitorRoom + (rest.map fun v => v.category).sum ≤ 8) (hdg : decode cc g.pc = .ok (.invokestatic index, 3)) (hf : cells + mc ≤ R.cells ∧ slots + ms ≤ R.slots) :
    vx_Run p l e R s m args below meth c H locs cells slots mc ms g rest (Qc As.toArray) XC free := by
  obtain ⟨⟨hrc, hrs, hfr, hlo, hws, hcw⟩, hcode, hini, hy, hlen, hl, hstt⟩ := cw
  have hK : vx_Back l R p e below s args y 3 8 (PreOf R mc ms Pc) (PostOf Qc mc ms free) (vx_Post XC mc ms free) := vx_backW (hh := hh) (bytes := bytes) (maxL := maxL) (ret := ret) hM hp.1 hrc hrs hfr hlo hws hcw (fun a' U hW => word_at hW (Or.inl (by first | rfl | simp [Cond.onTables, Cond.keeps, Cond.steady])) hini)
  obtain ⟨hx, hb, hml, ho, -⟩ := S
  intro T hT X
  rcases vx_callSX X hx (hh := hh) (bytes := bytes) (maxL := maxL) (ret := ret) ho hl hstt hini hcode hy hK hg (hsize.trans hml.symm) (argsL := As) (rest := rest) (fun sig h => hn.trans (hlen sig h)) hstack hW (by rw [hb]; exact hdg)
    (fun vm₁ hW₁ => ⟨hf.1, hf.2, hp.2 (T.setVm vm₁) hT hW₁⟩) with ⟨v, vm₁, ⟨U', l2, c2, s2⟩, hW₁, X', ⟨g', mk, t, L, e1, e2, hq, h1, hL, h2, h3⟩, st⟩ | ⟨q, vm₁, ⟨U', l2, c2, s2⟩, hW₁, X', ⟨g', mk, t, L, E, ce, e1, e2, hq, hce, hcv, hcl, h1, hL, h2, h3⟩, st⟩
  · dsimp only [Pt.U, Pt.locs, Pt.cells, Pt.slots] at X' e1 e2 h1 h2 h3 st
    subst h1; subst h2; subst h3
    exact Or.inl ⟨v, (T.setVm vm₁).calling g' mk As.toArray, t, U', L, hT, X', hL, e1, e2, hq, st⟩
  · dsimp only [Pt.U, Pt.locs, Pt.cells, Pt.slots] at X' e1 e2 h1 h2 h3 st hcl
    subst h1; subst h2; subst h3
    exact Or.inr ⟨q, (T.setVm vm₁).calling g' mk As.toArray, t, U', L, E, ce, hT, X', hL, e1, e2, hq, hce, hcv, vx_cls hW₁ hcl, st⟩
end
end VXH
theorem vx_ofWH {l : Launch} {y : MethodName} {ws ws' : List Cond} {rm : Room} {Pc : Array Value → State → Prop} {Qc : Array Value → State → Outcome → State → Prop} {XC : String → State → State → Prop} {mc ms : Nat} {free : Addr → Prop} {cc : ByteArray} {maxL : Nat} {ret : Option FieldType} {hh : List (Nat × Nat × Nat × Nat)}
    (hy : plainName y.cls = true) (hw : ws = Cond.codeWith y cc maxL ret hh :: ws')
    (body : ∀ p e s m args below meth c s₁, BodyLoose p l y (headSpec ws rm) cc maxL ret e s m args below meth c s₁ → c.maxLocals = maxL → Pc args s →
      W p l e (headSpec ws rm).room s m args below meth c s.heap [] 0 0 (vx_MQ below Qc XC args s mc ms free) (entryFrame m args maxL)) : vx_Met l y ws rm Pc Qc XC mc ms free := by
  refine MetFree.of_bodyS (code := cc) (maxLocals := maxL) (ret := ret) hy ?_ ?_
  · intro args s m h hn
    obtain ⟨m9, meth, c, hn9, h1, h2, h3, h4, -, h5, h6, -⟩ := Cond.codeWith_spec (atoms_spec (ws := ws) h _ (by rw [hw]; exact List.mem_cons_self))
    cases hn.symm.trans hn9
    exact ⟨meth, c, h1, h2, h3, h4, h5, h6⟩
  · intro p e s m args below meth c s₁ B hml hP _
    have hh0 : s₁.heap = s.heap := by rw [B.state]; rfl
    obtain ⟨t, a1, o, b1, b2, b3⟩ := body p e s m args below meth c s₁ B hml hP s₁ hh0 (Stand.of_body B)
    exact ⟨t, o, a1, b1, b2, b3⟩
/-! ===== END ===== -/

/-! names -/
def RX0 : String := "MissRegistry"
def TX0 : u_T := fun k => match k with
  | 0 => ("MissRegistry", "living", "[Z", true)
  | 1 => ("MissRegistry", "luck", "[I", true)
  | 2 => ("MissRegistry", "purse", "[I", true)
  | 3 => ("MissRegistry", "fates", "[I", true)
  | 4 => ("MissRegistry", "heirs", "[I", true)
  | 5 => ("MissRegistry", "personCount", "I", false)
  | 6 => ("MissRegistry", "nerve", "[I", true)
  | 7 => ("MissRegistry", "onDuty", "[Z", true)
  | 8 => ("MissRegistry", "tales", "[I", true)
  | 9 => ("MissRegistry", "witnessCount", "I", false)
  | 10 => ("MissRegistry", "missPerson", "[I", true)
  | 11 => ("MissRegistry", "missInches", "[I", true)
  | 12 => ("MissRegistry", "missCount", "I", false)
  | 13 => ("MissRegistry", "nightCount", "I", false)
  | 14 => ("MissRegistry", "fundCoins", "I", false)
  | _ => ("MissRegistry", "refundedCoins", "I", false)
def tyX0 : Nat → FieldType := fun k => match k with
  | 0 => .array .boolean
  | 1 => .array .int
  | 2 => .array .int
  | 3 => .array .int
  | 4 => .array .int
  | 5 => .int
  | 6 => .array .int
  | 7 => .array .boolean
  | 8 => .array .int
  | 9 => .int
  | 10 => .array .int
  | 11 => .array .int
  | 12 => .int
  | 13 => .int
  | 14 => .int
  | _ => .int
abbrev wsX00 : List Cond := u_ws RX0 TX0 16
theorem nmX0 : ∀ a, a < 16 → ∀ b, b < 16 → a ≠ b → (TX0 a).2.1 ≠ (TX0 b).2.1 := by decide +kernel
theorem tyX0_ok : ∀ k, k < 16 → parseFieldDescriptor (TX0 k).2.2.1 = some (tyX0 k) := by decide +kernel
abbrev cX0_init : ByteArray := prog_1_method_1_code
def yX0_init : MethodName := ⟨RX0, "<init>", "()V"⟩
abbrev cX0_addPerson : ByteArray := prog_1_method_2_code
def yX0_addPerson : MethodName := ⟨RX0, "addPerson", "(I)I"⟩
abbrev cX0_addWitness : ByteArray := prog_1_method_3_code
def yX0_addWitness : MethodName := ⟨RX0, "addWitness", "(I)I"⟩
abbrev cX0_setHeir : ByteArray := prog_1_method_4_code
def yX0_setHeir : MethodName := ⟨RX0, "setHeir", "(II)I"⟩
abbrev cX0_buyFate : ByteArray := prog_1_method_5_code
def yX0_buyFate : MethodName := ⟨RX0, "buyFate", "(I)I"⟩
abbrev cX0_turnDuty : ByteArray := prog_1_method_6_code
def yX0_turnDuty : MethodName := ⟨RX0, "turnDuty", "(I)Z"⟩
abbrev cX0_miss : ByteArray := prog_1_method_7_code
def yX0_miss : MethodName := ⟨RX0, "miss", "(II)I"⟩
abbrev cX0_hit : ByteArray := prog_1_method_8_code
def yX0_hit : MethodName := ⟨RX0, "hit", "(I)I"⟩
abbrev cX0_pass : ByteArray := prog_1_method_9_code
def yX0_pass : MethodName := ⟨RX0, "pass", "(I)I"⟩
abbrev cX0_night : ByteArray := prog_1_method_10_code
def yX0_night : MethodName := ⟨RX0, "night", "()I"⟩
abbrev cX0_persons : ByteArray := prog_1_method_11_code
def yX0_persons : MethodName := ⟨RX0, "persons", "()I"⟩
abbrev cX0_alive : ByteArray := prog_1_method_12_code
def yX0_alive : MethodName := ⟨RX0, "alive", "()I"⟩
abbrev cX0_witnesses : ByteArray := prog_1_method_13_code
def yX0_witnesses : MethodName := ⟨RX0, "witnesses", "()I"⟩
abbrev cX0_shaken : ByteArray := prog_1_method_14_code
def yX0_shaken : MethodName := ⟨RX0, "shaken", "()I"⟩
abbrev cX0_fund : ByteArray := prog_1_method_15_code
def yX0_fund : MethodName := ⟨RX0, "fund", "()I"⟩
abbrev cX0_refunded : ByteArray := prog_1_method_16_code
def yX0_refunded : MethodName := ⟨RX0, "refunded", "()I"⟩
abbrev cX0_misses : ByteArray := prog_1_method_17_code
def yX0_misses : MethodName := ⟨RX0, "misses", "()I"⟩
abbrev cX0_certified : ByteArray := prog_1_method_18_code
def yX0_certified : MethodName := ⟨RX0, "certified", "()I"⟩
abbrev cX0_isAlive : ByteArray := prog_1_method_19_code
def yX0_isAlive : MethodName := ⟨RX0, "isAlive", "(I)Z"⟩
abbrev cX0_luckOf : ByteArray := prog_1_method_20_code
def yX0_luckOf : MethodName := ⟨RX0, "luckOf", "(I)I"⟩
abbrev cX0_purseOf : ByteArray := prog_1_method_21_code
def yX0_purseOf : MethodName := ⟨RX0, "purseOf", "(I)I"⟩
abbrev cX0_fatesOf : ByteArray := prog_1_method_22_code
def yX0_fatesOf : MethodName := ⟨RX0, "fatesOf", "(I)I"⟩
abbrev cX0_heirOf : ByteArray := prog_1_method_23_code
def yX0_heirOf : MethodName := ⟨RX0, "heirOf", "(I)I"⟩
abbrev cX0_lastHeirOf : ByteArray := prog_1_method_24_code
def yX0_lastHeirOf : MethodName := ⟨RX0, "lastHeirOf", "(I)I"⟩
abbrev cX0_priceFor : ByteArray := prog_1_method_25_code
def yX0_priceFor : MethodName := ⟨RX0, "priceFor", "(I)I"⟩
abbrev cX0_missesOf : ByteArray := prog_1_method_26_code
def yX0_missesOf : MethodName := ⟨RX0, "missesOf", "(I)I"⟩
abbrev cX0_closestOf : ByteArray := prog_1_method_27_code
def yX0_closestOf : MethodName := ⟨RX0, "closestOf", "(I)I"⟩
abbrev cX0_nerveOf : ByteArray := prog_1_method_28_code
def yX0_nerveOf : MethodName := ⟨RX0, "nerveOf", "(I)I"⟩
abbrev cX0_isOnDuty : ByteArray := prog_1_method_29_code
def yX0_isOnDuty : MethodName := ⟨RX0, "isOnDuty", "(I)Z"⟩
abbrev cX0_wouldTell : ByteArray := prog_1_method_30_code
def yX0_wouldTell : MethodName := ⟨RX0, "wouldTell", "(II)I"⟩
abbrev cX0_personOf : ByteArray := prog_1_method_31_code
def yX0_personOf : MethodName := ⟨RX0, "personOf", "(I)I"⟩
abbrev cX0_inchesOf : ByteArray := prog_1_method_32_code
def yX0_inchesOf : MethodName := ⟨RX0, "inchesOf", "(I)I"⟩
abbrev cX0_sealOf : ByteArray := prog_1_method_33_code
def yX0_sealOf : MethodName := ⟨RX0, "sealOf", "(I)I"⟩
abbrev cX0_wouldCertify : ByteArray := prog_1_method_34_code
def yX0_wouldCertify : MethodName := ⟨RX0, "wouldCertify", "(I)I"⟩
abbrev cX0_wouldRefund : ByteArray := prog_1_method_35_code
def yX0_wouldRefund : MethodName := ⟨RX0, "wouldRefund", "(II)I"⟩
abbrev cX0_missesUntilShaken : ByteArray := prog_1_method_36_code
def yX0_missesUntilShaken : MethodName := ⟨RX0, "missesUntilShaken", "(I)I"⟩
abbrev cX0_nightsUntilCalm : ByteArray := prog_1_method_37_code
def yX0_nightsUntilCalm : MethodName := ⟨RX0, "nightsUntilCalm", "()I"⟩
abbrev cX0_steadiest : ByteArray := prog_1_method_38_code
def yX0_steadiest : MethodName := ⟨RX0, "steadiest", "()I"⟩
abbrev cX0_luckiest : ByteArray := prog_1_method_39_code
def yX0_luckiest : MethodName := ⟨RX0, "luckiest", "()I"⟩
abbrev cX0_meanLuck : ByteArray := prog_1_method_40_code
def yX0_meanLuck : MethodName := ⟨RX0, "meanLuck", "()D"⟩
abbrev cX0_digest : ByteArray := prog_1_method_41_code
def yX0_digest : MethodName := ⟨RX0, "digest", "()J"⟩
abbrev cX0_isPerson : ByteArray := prog_1_method_42_code
def yX0_isPerson : MethodName := ⟨RX0, "isPerson", "(I)Z"⟩
abbrev cX0_isWitness : ByteArray := prog_1_method_43_code
def yX0_isWitness : MethodName := ⟨RX0, "isWitness", "(I)Z"⟩
abbrev cX0_isShaken : ByteArray := prog_1_method_44_code
def yX0_isShaken : MethodName := ⟨RX0, "isShaken", "(I)Z"⟩
abbrev cX0_requirePerson : ByteArray := prog_1_method_45_code
def yX0_requirePerson : MethodName := ⟨RX0, "requirePerson", "(I)V"⟩
abbrev cX0_requireAlive : ByteArray := prog_1_method_46_code
def yX0_requireAlive : MethodName := ⟨RX0, "requireAlive", "(I)V"⟩
abbrev cX0_requireWitness : ByteArray := prog_1_method_47_code
def yX0_requireWitness : MethodName := ⟨RX0, "requireWitness", "(I)V"⟩
abbrev cX0_requireMiss : ByteArray := prog_1_method_48_code
def yX0_requireMiss : MethodName := ⟨RX0, "requireMiss", "(I)V"⟩
abbrev cX0_requireInches : ByteArray := prog_1_method_49_code
def yX0_requireInches : MethodName := ⟨RX0, "requireInches", "(I)V"⟩
abbrev cX0_fatePrice : ByteArray := prog_1_method_50_code
def yX0_fatePrice : MethodName := ⟨RX0, "fatePrice", "(I)I"⟩
abbrev cX0_findLastHeir : ByteArray := prog_1_method_51_code
def yX0_findLastHeir : MethodName := ⟨RX0, "findLastHeir", "(I)I"⟩
abbrev cX0_tale : ByteArray := prog_1_method_52_code
def yX0_tale : MethodName := ⟨RX0, "tale", "(II)I"⟩
abbrev cX0_middleTale : ByteArray := prog_1_method_53_code
def yX0_middleTale : MethodName := ⟨RX0, "middleTale", "(I)I"⟩
abbrev cX0_insertTale : ByteArray := prog_1_method_54_code
def yX0_insertTale : MethodName := ⟨RX0, "insertTale", "(II)V"⟩
abbrev cX0_usesFate : ByteArray := prog_1_method_55_code
def yX0_usesFate : MethodName := ⟨RX0, "usesFate", "(II)Z"⟩
abbrev cX0_refundCoins : ByteArray := prog_1_method_56_code
def yX0_refundCoins : MethodName := ⟨RX0, "refundCoins", "(II)I"⟩
abbrev cX0_refundFate : ByteArray := prog_1_method_57_code
def yX0_refundFate : MethodName := ⟨RX0, "refundFate", "(II)V"⟩
abbrev cX0_nerveLoss : ByteArray := prog_1_method_58_code
def yX0_nerveLoss : MethodName := ⟨RX0, "nerveLoss", "(I)I"⟩
abbrev cX0_nerveGain : ByteArray := prog_1_method_59_code
def yX0_nerveGain : MethodName := ⟨RX0, "nerveGain", "(Z)I"⟩
abbrev cX0_frightenWitnesses : ByteArray := prog_1_method_60_code
def yX0_frightenWitnesses : MethodName := ⟨RX0, "frightenWitnesses", "(I)V"⟩
abbrev cX0_passOneNight : ByteArray := prog_1_method_61_code
def yX0_passOneNight : MethodName := ⟨RX0, "passOneNight", "()V"⟩
abbrev cX0_nightsToCalm : ByteArray := prog_1_method_62_code
def yX0_nightsToCalm : MethodName := ⟨RX0, "nightsToCalm", "(I)I"⟩
abbrev cX0_certificateSeal : ByteArray := prog_1_method_63_code
def yX0_certificateSeal : MethodName := ⟨RX0, "certificateSeal", "(II)I"⟩
abbrev cX0_sealText : ByteArray := prog_1_method_64_code
def yX0_sealText : MethodName := ⟨RX0, "sealText", "(ILjava/lang/String;)I"⟩
abbrev cX0_sealNumber : ByteArray := prog_1_method_65_code
def yX0_sealNumber : MethodName := ⟨RX0, "sealNumber", "(II)I"⟩
abbrev cX0_mix : ByteArray := prog_1_method_66_code
def yX0_mix : MethodName := ⟨RX0, "mix", "(JJ)J"⟩
abbrev cX0_asNumber : ByteArray := prog_1_method_67_code
def yX0_asNumber : MethodName := ⟨RX0, "asNumber", "(Z)I"⟩
abbrev cX0_digestRegistry : ByteArray := prog_1_method_68_code
def yX0_digestRegistry : MethodName := ⟨RX0, "digestRegistry", "(J)J"⟩
abbrev cX0_digestPerson : ByteArray := prog_1_method_69_code
def yX0_digestPerson : MethodName := ⟨RX0, "digestPerson", "(JI)J"⟩
abbrev cX0_digestLatestMiss : ByteArray := prog_1_method_70_code
def yX0_digestLatestMiss : MethodName := ⟨RX0, "digestLatestMiss", "(J)J"⟩
def RX1 : String := "MissRegistryModel"
def TX1 : u_T := fun k => match k with
  | 0 => ("MissRegistryModel", "thrown", "I", false)
  | 1 => ("MissRegistryModel", "persons", "I", false)
  | 2 => ("MissRegistryModel", "witnesses", "I", false)
  | 3 => ("MissRegistryModel", "isGone", "[Z", true)
  | 4 => ("MissRegistryModel", "luck", "[I", true)
  | 5 => ("MissRegistryModel", "purse", "[I", true)
  | 6 => ("MissRegistryModel", "fates", "[I", true)
  | 7 => ("MissRegistryModel", "heir", "[I", true)
  | 8 => ("MissRegistryModel", "nerve", "[I", true)
  | 9 => ("MissRegistryModel", "isOff", "[Z", true)
  | 10 => ("MissRegistryModel", "whose", "[I", true)
  | 11 => ("MissRegistryModel", "inches", "[I", true)
  | 12 => ("MissRegistryModel", "misses", "I", false)
  | 13 => ("MissRegistryModel", "night", "I", false)
  | 14 => ("MissRegistryModel", "fund", "I", false)
  | _ => ("MissRegistryModel", "refunded", "I", false)
def tyX1 : Nat → FieldType := fun k => match k with
  | 0 => .int
  | 1 => .int
  | 2 => .int
  | 3 => .array .boolean
  | 4 => .array .int
  | 5 => .array .int
  | 6 => .array .int
  | 7 => .array .int
  | 8 => .array .int
  | 9 => .array .boolean
  | 10 => .array .int
  | 11 => .array .int
  | 12 => .int
  | 13 => .int
  | 14 => .int
  | _ => .int
abbrev wsX10 : List Cond := u_ws RX1 TX1 16
theorem nmX1 : ∀ a, a < 16 → ∀ b, b < 16 → a ≠ b → (TX1 a).2.1 ≠ (TX1 b).2.1 := by decide +kernel
theorem tyX1_ok : ∀ k, k < 16 → parseFieldDescriptor (TX1 k).2.2.1 = some (tyX1 k) := by decide +kernel
abbrev cX1_init : ByteArray := prog_3_method_1_code
def yX1_init : MethodName := ⟨RX1, "<init>", "()V"⟩
abbrev cX1_thrown : ByteArray := prog_3_method_2_code
def yX1_thrown : MethodName := ⟨RX1, "thrown", "()I"⟩
abbrev cX1_fail : ByteArray := prog_3_method_3_code
def yX1_fail : MethodName := ⟨RX1, "fail", "(I)I"⟩
abbrev cX1_told : ByteArray := prog_3_method_4_code
def yX1_told : MethodName := ⟨RX1, "told", "(I)I"⟩
abbrev cX1_isIn : ByteArray := prog_3_method_5_code
def yX1_isIn : MethodName := ⟨RX1, "isIn", "(III)Z"⟩
abbrev cX1_isPerson : ByteArray := prog_3_method_6_code
def yX1_isPerson : MethodName := ⟨RX1, "isPerson", "(I)Z"⟩
abbrev cX1_isWitness : ByteArray := prog_3_method_7_code
def yX1_isWitness : MethodName := ⟨RX1, "isWitness", "(I)Z"⟩
abbrev cX1_isMiss : ByteArray := prog_3_method_8_code
def yX1_isMiss : MethodName := ⟨RX1, "isMiss", "(I)Z"⟩
abbrev cX1_price : ByteArray := prog_3_method_9_code
def yX1_price : MethodName := ⟨RX1, "price", "(I)I"⟩
abbrev cX1_last : ByteArray := prog_3_method_10_code
def yX1_last : MethodName := ⟨RX1, "last", "(I)I"⟩
abbrev cX1_tells : ByteArray := prog_3_method_11_code
def yX1_tells : MethodName := ⟨RX1, "tells", "(II)I"⟩
abbrev cX1_middle : ByteArray := prog_3_method_12_code
def yX1_middle : MethodName := ⟨RX1, "middle", "(I)I"⟩
abbrev cX1_refund : ByteArray := prog_3_method_13_code
def yX1_refund : MethodName := ⟨RX1, "refund", "(II)I"⟩
abbrev cX1_shock : ByteArray := prog_3_method_14_code
def yX1_shock : MethodName := ⟨RX1, "shock", "(I)I"⟩
abbrev cX1_seal : ByteArray := prog_3_method_15_code
def yX1_seal : MethodName := ⟨RX1, "seal", "(ILjava/lang/String;)I"⟩
abbrev cX1_sealOfNumber : ByteArray := prog_3_method_16_code
def yX1_sealOfNumber : MethodName := ⟨RX1, "sealOfNumber", "(II)I"⟩
abbrev cX1_sealAt : ByteArray := prog_3_method_17_code
def yX1_sealAt : MethodName := ⟨RX1, "sealAt", "(I)I"⟩
abbrev cX1_addPerson : ByteArray := prog_3_method_18_code
def yX1_addPerson : MethodName := ⟨RX1, "addPerson", "(I)I"⟩
abbrev cX1_addWitness : ByteArray := prog_3_method_19_code
def yX1_addWitness : MethodName := ⟨RX1, "addWitness", "(I)I"⟩
abbrev cX1_setHeir : ByteArray := prog_3_method_20_code
def yX1_setHeir : MethodName := ⟨RX1, "setHeir", "(II)I"⟩
abbrev cX1_buyFate : ByteArray := prog_3_method_21_code
def yX1_buyFate : MethodName := ⟨RX1, "buyFate", "(I)I"⟩
abbrev cX1_turnDuty : ByteArray := prog_3_method_22_code
def yX1_turnDuty : MethodName := ⟨RX1, "turnDuty", "(I)Z"⟩
abbrev cX1_miss : ByteArray := prog_3_method_23_code
def yX1_miss : MethodName := ⟨RX1, "miss", "(II)I"⟩
abbrev cX1_hit : ByteArray := prog_3_method_24_code
def yX1_hit : MethodName := ⟨RX1, "hit", "(I)I"⟩
abbrev cX1_shakenNow : ByteArray := prog_3_method_25_code
def yX1_shakenNow : MethodName := ⟨RX1, "shakenNow", "()I"⟩
abbrev cX1_pass : ByteArray := prog_3_method_26_code
def yX1_pass : MethodName := ⟨RX1, "pass", "(I)I"⟩
abbrev cX1_night : ByteArray := prog_3_method_27_code
def yX1_night : MethodName := ⟨RX1, "night", "()I"⟩
abbrev cX1_persons : ByteArray := prog_3_method_28_code
def yX1_persons : MethodName := ⟨RX1, "persons", "()I"⟩
abbrev cX1_living : ByteArray := prog_3_method_29_code
def yX1_living : MethodName := ⟨RX1, "living", "()I"⟩
abbrev cX1_alive : ByteArray := prog_3_method_30_code
def yX1_alive : MethodName := ⟨RX1, "alive", "()I"⟩
abbrev cX1_witnesses : ByteArray := prog_3_method_31_code
def yX1_witnesses : MethodName := ⟨RX1, "witnesses", "()I"⟩
abbrev cX1_shaken : ByteArray := prog_3_method_32_code
def yX1_shaken : MethodName := ⟨RX1, "shaken", "()I"⟩
abbrev cX1_fund : ByteArray := prog_3_method_33_code
def yX1_fund : MethodName := ⟨RX1, "fund", "()I"⟩
abbrev cX1_refunded : ByteArray := prog_3_method_34_code
def yX1_refunded : MethodName := ⟨RX1, "refunded", "()I"⟩
abbrev cX1_misses : ByteArray := prog_3_method_35_code
def yX1_misses : MethodName := ⟨RX1, "misses", "()I"⟩
abbrev cX1_sealed : ByteArray := prog_3_method_36_code
def yX1_sealed : MethodName := ⟨RX1, "sealed", "()I"⟩
abbrev cX1_certified : ByteArray := prog_3_method_37_code
def yX1_certified : MethodName := ⟨RX1, "certified", "()I"⟩
abbrev cX1_isAlive : ByteArray := prog_3_method_38_code
def yX1_isAlive : MethodName := ⟨RX1, "isAlive", "(I)Z"⟩
abbrev cX1_of : ByteArray := prog_3_method_39_code
def yX1_of : MethodName := ⟨RX1, "of", "(I[I)I"⟩
abbrev cX1_luckOf : ByteArray := prog_3_method_40_code
def yX1_luckOf : MethodName := ⟨RX1, "luckOf", "(I)I"⟩
abbrev cX1_purseOf : ByteArray := prog_3_method_41_code
def yX1_purseOf : MethodName := ⟨RX1, "purseOf", "(I)I"⟩
abbrev cX1_fatesOf : ByteArray := prog_3_method_42_code
def yX1_fatesOf : MethodName := ⟨RX1, "fatesOf", "(I)I"⟩
abbrev cX1_heirOf : ByteArray := prog_3_method_43_code
def yX1_heirOf : MethodName := ⟨RX1, "heirOf", "(I)I"⟩
abbrev cX1_lastHeirOf : ByteArray := prog_3_method_44_code
def yX1_lastHeirOf : MethodName := ⟨RX1, "lastHeirOf", "(I)I"⟩
abbrev cX1_priceFor : ByteArray := prog_3_method_45_code
def yX1_priceFor : MethodName := ⟨RX1, "priceFor", "(I)I"⟩
abbrev cX1_many : ByteArray := prog_3_method_46_code
def yX1_many : MethodName := ⟨RX1, "many", "(I)I"⟩
abbrev cX1_missesOf : ByteArray := prog_3_method_47_code
def yX1_missesOf : MethodName := ⟨RX1, "missesOf", "(I)I"⟩
abbrev cX1_closest : ByteArray := prog_3_method_48_code
def yX1_closest : MethodName := ⟨RX1, "closest", "(I)I"⟩
abbrev cX1_closestOf : ByteArray := prog_3_method_49_code
def yX1_closestOf : MethodName := ⟨RX1, "closestOf", "(I)I"⟩
abbrev cX1_nerveOf : ByteArray := prog_3_method_50_code
def yX1_nerveOf : MethodName := ⟨RX1, "nerveOf", "(I)I"⟩
abbrev cX1_isOnDuty : ByteArray := prog_3_method_51_code
def yX1_isOnDuty : MethodName := ⟨RX1, "isOnDuty", "(I)Z"⟩
abbrev cX1_wouldTell : ByteArray := prog_3_method_52_code
def yX1_wouldTell : MethodName := ⟨RX1, "wouldTell", "(II)I"⟩
abbrev cX1_personOf : ByteArray := prog_3_method_53_code
def yX1_personOf : MethodName := ⟨RX1, "personOf", "(I)I"⟩
abbrev cX1_inchesOf : ByteArray := prog_3_method_54_code
def yX1_inchesOf : MethodName := ⟨RX1, "inchesOf", "(I)I"⟩
abbrev cX1_sealOf : ByteArray := prog_3_method_55_code
def yX1_sealOf : MethodName := ⟨RX1, "sealOf", "(I)I"⟩
abbrev cX1_wouldCertify : ByteArray := prog_3_method_56_code
def yX1_wouldCertify : MethodName := ⟨RX1, "wouldCertify", "(I)I"⟩
abbrev cX1_wouldRefund : ByteArray := prog_3_method_57_code
def yX1_wouldRefund : MethodName := ⟨RX1, "wouldRefund", "(II)I"⟩
abbrev cX1_untilShaken : ByteArray := prog_3_method_58_code
def yX1_untilShaken : MethodName := ⟨RX1, "untilShaken", "(I)I"⟩
abbrev cX1_missesUntilShaken : ByteArray := prog_3_method_59_code
def yX1_missesUntilShaken : MethodName := ⟨RX1, "missesUntilShaken", "(I)I"⟩
abbrev cX1_untilCalm : ByteArray := prog_3_method_60_code
def yX1_untilCalm : MethodName := ⟨RX1, "untilCalm", "()I"⟩
abbrev cX1_nightsUntilCalm : ByteArray := prog_3_method_61_code
def yX1_nightsUntilCalm : MethodName := ⟨RX1, "nightsUntilCalm", "()I"⟩
abbrev cX1_steady : ByteArray := prog_3_method_62_code
def yX1_steady : MethodName := ⟨RX1, "steady", "()I"⟩
abbrev cX1_steadiest : ByteArray := prog_3_method_63_code
def yX1_steadiest : MethodName := ⟨RX1, "steadiest", "()I"⟩
abbrev cX1_lucky : ByteArray := prog_3_method_64_code
def yX1_lucky : MethodName := ⟨RX1, "lucky", "()I"⟩
abbrev cX1_luckiest : ByteArray := prog_3_method_65_code
def yX1_luckiest : MethodName := ⟨RX1, "luckiest", "()I"⟩
abbrev cX1_meanLuck : ByteArray := prog_3_method_66_code
def yX1_meanLuck : MethodName := ⟨RX1, "meanLuck", "()D"⟩
abbrev cX1_digest : ByteArray := prog_3_method_67_code
def yX1_digest : MethodName := ⟨RX1, "digest", "()J"⟩
def RJ9 : String := "java/lang/Math"
def TJ9 : u_T := fun k => match k with
  | _ => ("", "", "", false)
def tyJ9 : Nat → FieldType := fun k => match k with
  | _ => .int
abbrev wsJ90 : List Cond := u_ws RJ9 TJ9 0
theorem nmJ9 : ∀ a, a < 0 → ∀ b, b < 0 → a ≠ b → (TJ9 a).2.1 ≠ (TJ9 b).2.1 := by decide +kernel
theorem tyJ9_ok : ∀ k, k < 0 → parseFieldDescriptor (TJ9 k).2.2.1 = some (tyJ9 k) := by decide +kernel
abbrev cJ9_max_7cf53 : ByteArray := prog_8_method_65_code
def yJ9_max_7cf53 : MethodName := ⟨RJ9, "max", "(II)I"⟩
abbrev cJ9_min_7cf53 : ByteArray := prog_8_method_69_code
def yJ9_min_7cf53 : MethodName := ⟨RJ9, "min", "(II)I"⟩
def RJ0 : String := "java/lang/String"
def TJ0 : u_T := fun k => match k with
  | _ => ("", "", "", false)
def tyJ0 : Nat → FieldType := fun k => match k with
  | _ => .int
abbrev wsJ00 : List Cond := u_ws RJ0 TJ0 0
theorem nmJ0 : ∀ a, a < 0 → ∀ b, b < 0 → a ≠ b → (TJ0 a).2.1 ≠ (TJ0 b).2.1 := by decide +kernel
theorem tyJ0_ok : ∀ k, k < 0 → parseFieldDescriptor (TJ0 k).2.2.1 = some (tyJ0 k) := by decide +kernel
abbrev cJ0_length_8abf5 : ByteArray := prog_10_method_54_code
def yJ0_length_8abf5 : MethodName := ⟨RJ0, "length", "()I"⟩
abbrev cJ0_charAt_5068e : ByteArray := prog_10_method_56_code
def yJ0_charAt_5068e : MethodName := ⟨RJ0, "charAt", "(I)C"⟩
abbrev cJ0_coder_7d493 : ByteArray := prog_10_method_152_code
def yJ0_coder_7d493 : MethodName := ⟨RJ0, "coder", "()B"⟩
abbrev cJ0_isLatin1_aae02 : ByteArray := prog_10_method_154_code
def yJ0_isLatin1_aae02 : MethodName := ⟨RJ0, "isLatin1", "()Z"⟩
abbrev cJ0_checkIndex_df160 : ByteArray := prog_10_method_155_code
def yJ0_checkIndex_df160 : MethodName := ⟨RJ0, "checkIndex", "(II)V"⟩
def RJ1 : String := "java/lang/StringLatin1"
def TJ1 : u_T := fun k => match k with
  | _ => ("", "", "", false)
def tyJ1 : Nat → FieldType := fun k => match k with
  | _ => .int
abbrev wsJ10 : List Cond := u_ws RJ1 TJ1 0
theorem nmJ1 : ∀ a, a < 0 → ∀ b, b < 0 → a ≠ b → (TJ1 a).2.1 ≠ (TJ1 b).2.1 := by decide +kernel
theorem tyJ1_ok : ∀ k, k < 0 → parseFieldDescriptor (TJ1 k).2.2.1 = some (tyJ1 k) := by decide +kernel
abbrev cJ1_charAt_3b067 : ByteArray := prog_11_method_2_code
def yJ1_charAt_3b067 : MethodName := ⟨RJ1, "charAt", "([BI)C"⟩
def RJ2 : String := "java/lang/StringUTF16"
def TJ2 : u_T := fun k => match k with
  | _ => ("", "", "", false)
def tyJ2 : Nat → FieldType := fun k => match k with
  | _ => .int
abbrev wsJ20 : List Cond := u_ws RJ2 TJ2 0
theorem nmJ2 : ∀ a, a < 0 → ∀ b, b < 0 → a ≠ b → (TJ2 a).2.1 ≠ (TJ2 b).2.1 := by decide +kernel
theorem tyJ2_ok : ∀ k, k < 0 → parseFieldDescriptor (TJ2 k).2.2.1 = some (tyJ2 k) := by decide +kernel
abbrev cJ2_getChar_3b067 : ByteArray := prog_12_method_5_code
def yJ2_getChar_3b067 : MethodName := ⟨RJ2, "getChar", "([BI)C"⟩
abbrev cJ2_length_9d52b : ByteArray := prog_12_method_6_code
def yJ2_length_9d52b : MethodName := ⟨RJ2, "length", "([B)I"⟩
abbrev cJ2_charAt_3b067 : ByteArray := prog_12_method_83_code
def yJ2_charAt_3b067 : MethodName := ⟨RJ2, "charAt", "([BI)C"⟩
abbrev cJ2_checkIndex_2214a : ByteArray := prog_12_method_91_code
def yJ2_checkIndex_2214a : MethodName := ⟨RJ2, "checkIndex", "(I[B)V"⟩
def RJ3 : String := "jdk/internal/util/Preconditions"
def TJ3 : u_T := fun k => match k with
  | _ => ("", "", "", false)
def tyJ3 : Nat → FieldType := fun k => match k with
  | _ => .int
abbrev wsJ30 : List Cond := u_ws RJ3 TJ3 0
theorem nmJ3 : ∀ a, a < 0 → ∀ b, b < 0 → a ≠ b → (TJ3 a).2.1 ≠ (TJ3 b).2.1 := by decide +kernel
theorem tyJ3_ok : ∀ k, k < 0 → parseFieldDescriptor (TJ3 k).2.2.1 = some (tyJ3 k) := by decide +kernel
abbrev cJ3_checkIndex_8e157 : ByteArray := prog_14_method_11_code
def yJ3_checkIndex_8e157 : MethodName := ⟨RJ3, "checkIndex", "(IILjava/util/function/BiFunction;)I"⟩
def RL : String := "MissRegistryLaw"
abbrev cL_addPerson : ByteArray := method_3_code
def yL_addPerson : MethodName := ⟨RL, "addPerson", "(LMissRegistry;I[J)I"⟩
abbrev cL_addWitness : ByteArray := method_4_code
def yL_addWitness : MethodName := ⟨RL, "addWitness", "(LMissRegistry;I[J)I"⟩
abbrev cL_setHeir : ByteArray := method_5_code
def yL_setHeir : MethodName := ⟨RL, "setHeir", "(LMissRegistry;II[J)I"⟩
abbrev cL_buyFate : ByteArray := method_6_code
def yL_buyFate : MethodName := ⟨RL, "buyFate", "(LMissRegistry;I[J)I"⟩
abbrev cL_turnDuty : ByteArray := method_7_code
def yL_turnDuty : MethodName := ⟨RL, "turnDuty", "(LMissRegistry;I[J)I"⟩
abbrev cL_miss : ByteArray := method_8_code
def yL_miss : MethodName := ⟨RL, "miss", "(LMissRegistry;II[J)I"⟩
abbrev cL_hit : ByteArray := method_9_code
def yL_hit : MethodName := ⟨RL, "hit", "(LMissRegistry;I[J)I"⟩
abbrev cL_pass : ByteArray := method_10_code
def yL_pass : MethodName := ⟨RL, "pass", "(LMissRegistry;I[J)I"⟩
abbrev cL_isAlive : ByteArray := method_11_code
def yL_isAlive : MethodName := ⟨RL, "isAlive", "(LMissRegistry;I[J)I"⟩
abbrev cL_luckOf : ByteArray := method_12_code
def yL_luckOf : MethodName := ⟨RL, "luckOf", "(LMissRegistry;I[J)I"⟩
abbrev cL_purseOf : ByteArray := method_13_code
def yL_purseOf : MethodName := ⟨RL, "purseOf", "(LMissRegistry;I[J)I"⟩
abbrev cL_fatesOf : ByteArray := method_14_code
def yL_fatesOf : MethodName := ⟨RL, "fatesOf", "(LMissRegistry;I[J)I"⟩
abbrev cL_heirOf : ByteArray := method_15_code
def yL_heirOf : MethodName := ⟨RL, "heirOf", "(LMissRegistry;I[J)I"⟩
abbrev cL_lastHeirOf : ByteArray := method_16_code
def yL_lastHeirOf : MethodName := ⟨RL, "lastHeirOf", "(LMissRegistry;I[J)I"⟩
abbrev cL_priceFor : ByteArray := method_17_code
def yL_priceFor : MethodName := ⟨RL, "priceFor", "(LMissRegistry;I[J)I"⟩
abbrev cL_missesOf : ByteArray := method_18_code
def yL_missesOf : MethodName := ⟨RL, "missesOf", "(LMissRegistry;I[J)I"⟩
abbrev cL_closestOf : ByteArray := method_19_code
def yL_closestOf : MethodName := ⟨RL, "closestOf", "(LMissRegistry;I[J)I"⟩
abbrev cL_nerveOf : ByteArray := method_20_code
def yL_nerveOf : MethodName := ⟨RL, "nerveOf", "(LMissRegistry;I[J)I"⟩
abbrev cL_isOnDuty : ByteArray := method_21_code
def yL_isOnDuty : MethodName := ⟨RL, "isOnDuty", "(LMissRegistry;I[J)I"⟩
abbrev cL_wouldTell : ByteArray := method_22_code
def yL_wouldTell : MethodName := ⟨RL, "wouldTell", "(LMissRegistry;II[J)I"⟩
abbrev cL_personOf : ByteArray := method_23_code
def yL_personOf : MethodName := ⟨RL, "personOf", "(LMissRegistry;I[J)I"⟩
abbrev cL_inchesOf : ByteArray := method_24_code
def yL_inchesOf : MethodName := ⟨RL, "inchesOf", "(LMissRegistry;I[J)I"⟩
abbrev cL_sealOf : ByteArray := method_25_code
def yL_sealOf : MethodName := ⟨RL, "sealOf", "(LMissRegistry;I[J)I"⟩
abbrev cL_wouldCertify : ByteArray := method_26_code
def yL_wouldCertify : MethodName := ⟨RL, "wouldCertify", "(LMissRegistry;I[J)I"⟩
abbrev cL_wouldRefund : ByteArray := method_27_code
def yL_wouldRefund : MethodName := ⟨RL, "wouldRefund", "(LMissRegistry;II[J)I"⟩
abbrev cL_missesUntilShaken : ByteArray := method_28_code
def yL_missesUntilShaken : MethodName := ⟨RL, "missesUntilShaken", "(LMissRegistry;I[J)I"⟩
abbrev cL_law : ByteArray := code
def yL_law : MethodName := ⟨RL, "law", "([I)Z"⟩
abbrev vwCl : List vw_C := [(RX0, TX0, 16), (RX1, TX1, 16)]
end
section
/-! decode rows: the class, the JDK -/
theorem dX0_init_0 : decode cX0_init 0 = .ok (.aload_n 0, 1) := by decide +kernel
theorem dX0_init_1 : decode cX0_init 1 = .ok (.invokespecial 1, 3) := by decide +kernel
theorem dX0_init_4 : decode cX0_init 4 = .ok (.aload_n 0, 1) := by decide +kernel
theorem dX0_init_5 : decode cX0_init 5 = .ok (.bipush 10, 2) := by decide +kernel
theorem dX0_init_7 : decode cX0_init 7 = .ok (.newarray .boolean, 2) := by decide +kernel
theorem dX0_init_9 : decode cX0_init 9 = .ok (.putfield 9, 3) := by decide +kernel
theorem dX0_init_12 : decode cX0_init 12 = .ok (.aload_n 0, 1) := by decide +kernel
theorem dX0_init_13 : decode cX0_init 13 = .ok (.bipush 10, 2) := by decide +kernel
theorem dX0_init_15 : decode cX0_init 15 = .ok (.newarray .int, 2) := by decide +kernel
theorem dX0_init_17 : decode cX0_init 17 = .ok (.putfield 13, 3) := by decide +kernel
theorem dX0_init_20 : decode cX0_init 20 = .ok (.aload_n 0, 1) := by decide +kernel
theorem dX0_init_21 : decode cX0_init 21 = .ok (.bipush 10, 2) := by decide +kernel
theorem dX0_init_23 : decode cX0_init 23 = .ok (.newarray .int, 2) := by decide +kernel
theorem dX0_init_25 : decode cX0_init 25 = .ok (.putfield 17, 3) := by decide +kernel
theorem dX0_init_28 : decode cX0_init 28 = .ok (.aload_n 0, 1) := by decide +kernel
theorem dX0_init_29 : decode cX0_init 29 = .ok (.bipush 10, 2) := by decide +kernel
theorem dX0_init_31 : decode cX0_init 31 = .ok (.newarray .int, 2) := by decide +kernel
theorem dX0_init_33 : decode cX0_init 33 = .ok (.putfield 20, 3) := by decide +kernel
theorem dX0_init_36 : decode cX0_init 36 = .ok (.aload_n 0, 1) := by decide +kernel
theorem dX0_init_37 : decode cX0_init 37 = .ok (.bipush 10, 2) := by decide +kernel
theorem dX0_init_39 : decode cX0_init 39 = .ok (.newarray .int, 2) := by decide +kernel
theorem dX0_init_41 : decode cX0_init 41 = .ok (.putfield 23, 3) := by decide +kernel
theorem dX0_init_44 : decode cX0_init 44 = .ok (.aload_n 0, 1) := by decide +kernel
theorem dX0_init_45 : decode cX0_init 45 = .ok (.bipush 6, 2) := by decide +kernel
theorem dX0_init_47 : decode cX0_init 47 = .ok (.newarray .int, 2) := by decide +kernel
theorem dX0_init_49 : decode cX0_init 49 = .ok (.putfield 26, 3) := by decide +kernel
theorem dX0_init_52 : decode cX0_init 52 = .ok (.aload_n 0, 1) := by decide +kernel
theorem dX0_init_53 : decode cX0_init 53 = .ok (.bipush 6, 2) := by decide +kernel
theorem dX0_init_55 : decode cX0_init 55 = .ok (.newarray .boolean, 2) := by decide +kernel
theorem dX0_init_57 : decode cX0_init 57 = .ok (.putfield 29, 3) := by decide +kernel
theorem dX0_init_60 : decode cX0_init 60 = .ok (.aload_n 0, 1) := by decide +kernel
theorem dX0_init_61 : decode cX0_init 61 = .ok (.bipush 6, 2) := by decide +kernel
theorem dX0_init_63 : decode cX0_init 63 = .ok (.newarray .int, 2) := by decide +kernel
theorem dX0_init_65 : decode cX0_init 65 = .ok (.putfield 32, 3) := by decide +kernel
theorem dX0_init_68 : decode cX0_init 68 = .ok (.aload_n 0, 1) := by decide +kernel
theorem dX0_init_69 : decode cX0_init 69 = .ok (.bipush 60, 2) := by decide +kernel
theorem dX0_init_71 : decode cX0_init 71 = .ok (.newarray .int, 2) := by decide +kernel
theorem dX0_init_73 : decode cX0_init 73 = .ok (.putfield 35, 3) := by decide +kernel
theorem dX0_init_76 : decode cX0_init 76 = .ok (.aload_n 0, 1) := by decide +kernel
theorem dX0_init_77 : decode cX0_init 77 = .ok (.bipush 60, 2) := by decide +kernel
theorem dX0_init_79 : decode cX0_init 79 = .ok (.newarray .int, 2) := by decide +kernel
theorem dX0_init_81 : decode cX0_init 81 = .ok (.putfield 38, 3) := by decide +kernel
theorem dX0_init_84 : decode cX0_init 84 = .ok (.return_, 1) := by decide +kernel
theorem dX0_addPerson_0 : decode cX0_addPerson 0 = .ok (.iload_n 1, 1) := by decide +kernel
theorem dX0_addPerson_1 : decode cX0_addPerson 1 = .ok (.ifCond .lt 9, 3) := by decide +kernel
theorem dX0_addPerson_4 : decode cX0_addPerson 4 = .ok (.iload_n 1, 1) := by decide +kernel
theorem dX0_addPerson_5 : decode cX0_addPerson 5 = .ok (.bipush 99, 2) := by decide +kernel
theorem dX0_addPerson_7 : decode cX0_addPerson 7 = .ok (.if_icmp .le 13, 3) := by decide +kernel
theorem dX0_addPerson_10 : decode cX0_addPerson 10 = .ok (.new 41, 3) := by decide +kernel
theorem dX0_addPerson_13 : decode cX0_addPerson 13 = .ok (.dup, 1) := by decide +kernel
theorem dX0_addPerson_14 : decode cX0_addPerson 14 = .ok (.ldc 43, 2) := by decide +kernel
theorem dX0_addPerson_16 : decode cX0_addPerson 16 = .ok (.invokespecial 45, 3) := by decide +kernel
theorem dX0_addPerson_19 : decode cX0_addPerson 19 = .ok (.athrow, 1) := by decide +kernel
theorem dX0_addPerson_20 : decode cX0_addPerson 20 = .ok (.aload_n 0, 1) := by decide +kernel
theorem dX0_addPerson_21 : decode cX0_addPerson 21 = .ok (.getfield 48, 3) := by decide +kernel
theorem dX0_addPerson_24 : decode cX0_addPerson 24 = .ok (.bipush 10, 2) := by decide +kernel
theorem dX0_addPerson_26 : decode cX0_addPerson 26 = .ok (.if_icmp .lt 13, 3) := by decide +kernel
theorem dX0_addPerson_29 : decode cX0_addPerson 29 = .ok (.new 52, 3) := by decide +kernel
theorem dX0_addPerson_32 : decode cX0_addPerson 32 = .ok (.dup, 1) := by decide +kernel
theorem dX0_addPerson_33 : decode cX0_addPerson 33 = .ok (.ldc 54, 2) := by decide +kernel
theorem dX0_addPerson_35 : decode cX0_addPerson 35 = .ok (.invokespecial 56, 3) := by decide +kernel
theorem dX0_addPerson_38 : decode cX0_addPerson 38 = .ok (.athrow, 1) := by decide +kernel
theorem dX0_addPerson_39 : decode cX0_addPerson 39 = .ok (.aload_n 0, 1) := by decide +kernel
theorem dX0_addPerson_40 : decode cX0_addPerson 40 = .ok (.getfield 48, 3) := by decide +kernel
theorem dX0_addPerson_43 : decode cX0_addPerson 43 = .ok (.istore_n 2, 1) := by decide +kernel
theorem dX0_addPerson_44 : decode cX0_addPerson 44 = .ok (.aload_n 0, 1) := by decide +kernel
theorem dX0_addPerson_45 : decode cX0_addPerson 45 = .ok (.getfield 9, 3) := by decide +kernel
theorem dX0_addPerson_48 : decode cX0_addPerson 48 = .ok (.iload_n 2, 1) := by decide +kernel
theorem dX0_addPerson_49 : decode cX0_addPerson 49 = .ok (.iconst 1, 1) := by decide +kernel
theorem dX0_addPerson_50 : decode cX0_addPerson 50 = .ok (.bastore, 1) := by decide +kernel
theorem dX0_addPerson_51 : decode cX0_addPerson 51 = .ok (.aload_n 0, 1) := by decide +kernel
theorem dX0_addPerson_52 : decode cX0_addPerson 52 = .ok (.getfield 13, 3) := by decide +kernel
theorem dX0_addPerson_55 : decode cX0_addPerson 55 = .ok (.iload_n 2, 1) := by decide +kernel
theorem dX0_addPerson_56 : decode cX0_addPerson 56 = .ok (.iload_n 1, 1) := by decide +kernel
theorem dX0_addPerson_57 : decode cX0_addPerson 57 = .ok (.iastore, 1) := by decide +kernel
theorem dX0_addPerson_58 : decode cX0_addPerson 58 = .ok (.aload_n 0, 1) := by decide +kernel
theorem dX0_addPerson_59 : decode cX0_addPerson 59 = .ok (.getfield 17, 3) := by decide +kernel
theorem dX0_addPerson_62 : decode cX0_addPerson 62 = .ok (.iload_n 2, 1) := by decide +kernel
theorem dX0_addPerson_63 : decode cX0_addPerson 63 = .ok (.bipush 100, 2) := by decide +kernel
theorem dX0_addPerson_65 : decode cX0_addPerson 65 = .ok (.iastore, 1) := by decide +kernel
theorem dX0_addPerson_66 : decode cX0_addPerson 66 = .ok (.aload_n 0, 1) := by decide +kernel
theorem dX0_addPerson_67 : decode cX0_addPerson 67 = .ok (.getfield 20, 3) := by decide +kernel
theorem dX0_addPerson_70 : decode cX0_addPerson 70 = .ok (.iload_n 2, 1) := by decide +kernel
theorem dX0_addPerson_71 : decode cX0_addPerson 71 = .ok (.iconst 0, 1) := by decide +kernel
theorem dX0_addPerson_72 : decode cX0_addPerson 72 = .ok (.iastore, 1) := by decide +kernel
theorem dX0_addPerson_73 : decode cX0_addPerson 73 = .ok (.aload_n 0, 1) := by decide +kernel
theorem dX0_addPerson_74 : decode cX0_addPerson 74 = .ok (.getfield 23, 3) := by decide +kernel
theorem dX0_addPerson_77 : decode cX0_addPerson 77 = .ok (.iload_n 2, 1) := by decide +kernel
theorem dX0_addPerson_78 : decode cX0_addPerson 78 = .ok (.iconst (-1), 1) := by decide +kernel
theorem dX0_addPerson_79 : decode cX0_addPerson 79 = .ok (.iastore, 1) := by decide +kernel
theorem dX0_addPerson_80 : decode cX0_addPerson 80 = .ok (.aload_n 0, 1) := by decide +kernel
theorem dX0_addPerson_81 : decode cX0_addPerson 81 = .ok (.dup, 1) := by decide +kernel
theorem dX0_addPerson_82 : decode cX0_addPerson 82 = .ok (.getfield 48, 3) := by decide +kernel
theorem dX0_addPerson_85 : decode cX0_addPerson 85 = .ok (.iconst 1, 1) := by decide +kernel
theorem dX0_addPerson_86 : decode cX0_addPerson 86 = .ok (.iadd, 1) := by decide +kernel
theorem dX0_addPerson_87 : decode cX0_addPerson 87 = .ok (.putfield 48, 3) := by decide +kernel
theorem dX0_addPerson_90 : decode cX0_addPerson 90 = .ok (.iload_n 2, 1) := by decide +kernel
theorem dX0_addPerson_91 : decode cX0_addPerson 91 = .ok (.ireturn, 1) := by decide +kernel
theorem dX0_addWitness_0 : decode cX0_addWitness 0 = .ok (.iload_n 1, 1) := by decide +kernel
theorem dX0_addWitness_1 : decode cX0_addWitness 1 = .ok (.ifCond .lt 9, 3) := by decide +kernel
theorem dX0_addWitness_4 : decode cX0_addWitness 4 = .ok (.iload_n 1, 1) := by decide +kernel
theorem dX0_addWitness_5 : decode cX0_addWitness 5 = .ok (.bipush 9, 2) := by decide +kernel
theorem dX0_addWitness_7 : decode cX0_addWitness 7 = .ok (.if_icmp .le 13, 3) := by decide +kernel
theorem dX0_addWitness_10 : decode cX0_addWitness 10 = .ok (.new 41, 3) := by decide +kernel
theorem dX0_addWitness_13 : decode cX0_addWitness 13 = .ok (.dup, 1) := by decide +kernel
theorem dX0_addWitness_14 : decode cX0_addWitness 14 = .ok (.ldc 57, 2) := by decide +kernel
theorem dX0_addWitness_16 : decode cX0_addWitness 16 = .ok (.invokespecial 45, 3) := by decide +kernel
theorem dX0_addWitness_19 : decode cX0_addWitness 19 = .ok (.athrow, 1) := by decide +kernel
theorem dX0_addWitness_20 : decode cX0_addWitness 20 = .ok (.aload_n 0, 1) := by decide +kernel
theorem dX0_addWitness_21 : decode cX0_addWitness 21 = .ok (.getfield 59, 3) := by decide +kernel
theorem dX0_addWitness_24 : decode cX0_addWitness 24 = .ok (.bipush 6, 2) := by decide +kernel
theorem dX0_addWitness_26 : decode cX0_addWitness 26 = .ok (.if_icmp .lt 13, 3) := by decide +kernel
theorem dX0_addWitness_29 : decode cX0_addWitness 29 = .ok (.new 52, 3) := by decide +kernel
theorem dX0_addWitness_32 : decode cX0_addWitness 32 = .ok (.dup, 1) := by decide +kernel
theorem dX0_addWitness_33 : decode cX0_addWitness 33 = .ok (.ldc 62, 2) := by decide +kernel
theorem dX0_addWitness_35 : decode cX0_addWitness 35 = .ok (.invokespecial 56, 3) := by decide +kernel
theorem dX0_addWitness_38 : decode cX0_addWitness 38 = .ok (.athrow, 1) := by decide +kernel
theorem dX0_addWitness_39 : decode cX0_addWitness 39 = .ok (.aload_n 0, 1) := by decide +kernel
theorem dX0_addWitness_40 : decode cX0_addWitness 40 = .ok (.getfield 59, 3) := by decide +kernel
theorem dX0_addWitness_43 : decode cX0_addWitness 43 = .ok (.istore_n 2, 1) := by decide +kernel
theorem dX0_addWitness_44 : decode cX0_addWitness 44 = .ok (.aload_n 0, 1) := by decide +kernel
theorem dX0_addWitness_45 : decode cX0_addWitness 45 = .ok (.getfield 26, 3) := by decide +kernel
theorem dX0_addWitness_48 : decode cX0_addWitness 48 = .ok (.iload_n 2, 1) := by decide +kernel
theorem dX0_addWitness_49 : decode cX0_addWitness 49 = .ok (.iload_n 1, 1) := by decide +kernel
theorem dX0_addWitness_50 : decode cX0_addWitness 50 = .ok (.iastore, 1) := by decide +kernel
theorem dX0_addWitness_51 : decode cX0_addWitness 51 = .ok (.aload_n 0, 1) := by decide +kernel
theorem dX0_addWitness_52 : decode cX0_addWitness 52 = .ok (.getfield 29, 3) := by decide +kernel
theorem dX0_addWitness_55 : decode cX0_addWitness 55 = .ok (.iload_n 2, 1) := by decide +kernel
theorem dX0_addWitness_56 : decode cX0_addWitness 56 = .ok (.iconst 1, 1) := by decide +kernel
theorem dX0_addWitness_57 : decode cX0_addWitness 57 = .ok (.bastore, 1) := by decide +kernel
theorem dX0_addWitness_58 : decode cX0_addWitness 58 = .ok (.aload_n 0, 1) := by decide +kernel
theorem dX0_addWitness_59 : decode cX0_addWitness 59 = .ok (.dup, 1) := by decide +kernel
theorem dX0_addWitness_60 : decode cX0_addWitness 60 = .ok (.getfield 59, 3) := by decide +kernel
theorem dX0_addWitness_63 : decode cX0_addWitness 63 = .ok (.iconst 1, 1) := by decide +kernel
theorem dX0_addWitness_64 : decode cX0_addWitness 64 = .ok (.iadd, 1) := by decide +kernel
theorem dX0_addWitness_65 : decode cX0_addWitness 65 = .ok (.putfield 59, 3) := by decide +kernel
theorem dX0_addWitness_68 : decode cX0_addWitness 68 = .ok (.iload_n 2, 1) := by decide +kernel
theorem dX0_addWitness_69 : decode cX0_addWitness 69 = .ok (.ireturn, 1) := by decide +kernel
theorem dX0_setHeir_0 : decode cX0_setHeir 0 = .ok (.aload_n 0, 1) := by decide +kernel
theorem dX0_setHeir_1 : decode cX0_setHeir 1 = .ok (.iload_n 1, 1) := by decide +kernel
theorem dX0_setHeir_2 : decode cX0_setHeir 2 = .ok (.invokevirtual 64, 3) := by decide +kernel
theorem dX0_setHeir_5 : decode cX0_setHeir 5 = .ok (.iload_n 2, 1) := by decide +kernel
theorem dX0_setHeir_6 : decode cX0_setHeir 6 = .ok (.iconst (-1), 1) := by decide +kernel
theorem dX0_setHeir_7 : decode cX0_setHeir 7 = .ok (.if_icmp .eq 8, 3) := by decide +kernel
theorem dX0_setHeir_10 : decode cX0_setHeir 10 = .ok (.aload_n 0, 1) := by decide +kernel
theorem dX0_setHeir_11 : decode cX0_setHeir 11 = .ok (.iload_n 2, 1) := by decide +kernel
theorem dX0_setHeir_12 : decode cX0_setHeir 12 = .ok (.invokevirtual 64, 3) := by decide +kernel
theorem dX0_setHeir_15 : decode cX0_setHeir 15 = .ok (.iload_n 1, 1) := by decide +kernel
theorem dX0_setHeir_16 : decode cX0_setHeir 16 = .ok (.iload_n 2, 1) := by decide +kernel
theorem dX0_setHeir_17 : decode cX0_setHeir 17 = .ok (.if_icmp .ne 13, 3) := by decide +kernel
theorem dX0_setHeir_20 : decode cX0_setHeir 20 = .ok (.new 41, 3) := by decide +kernel
theorem dX0_setHeir_23 : decode cX0_setHeir 23 = .ok (.dup, 1) := by decide +kernel
theorem dX0_setHeir_24 : decode cX0_setHeir 24 = .ok (.ldc 68, 2) := by decide +kernel
theorem dX0_setHeir_26 : decode cX0_setHeir 26 = .ok (.invokespecial 45, 3) := by decide +kernel
theorem dX0_setHeir_29 : decode cX0_setHeir 29 = .ok (.athrow, 1) := by decide +kernel
theorem dX0_setHeir_30 : decode cX0_setHeir 30 = .ok (.aload_n 0, 1) := by decide +kernel
theorem dX0_setHeir_31 : decode cX0_setHeir 31 = .ok (.iload_n 1, 1) := by decide +kernel
theorem dX0_setHeir_32 : decode cX0_setHeir 32 = .ok (.invokevirtual 70, 3) := by decide +kernel
theorem dX0_setHeir_35 : decode cX0_setHeir 35 = .ok (.aload_n 0, 1) := by decide +kernel
theorem dX0_setHeir_36 : decode cX0_setHeir 36 = .ok (.getfield 23, 3) := by decide +kernel
theorem dX0_setHeir_39 : decode cX0_setHeir 39 = .ok (.iload_n 1, 1) := by decide +kernel
theorem dX0_setHeir_40 : decode cX0_setHeir 40 = .ok (.iaload, 1) := by decide +kernel
theorem dX0_setHeir_41 : decode cX0_setHeir 41 = .ok (.istore_n 3, 1) := by decide +kernel
theorem dX0_setHeir_42 : decode cX0_setHeir 42 = .ok (.aload_n 0, 1) := by decide +kernel
theorem dX0_setHeir_43 : decode cX0_setHeir 43 = .ok (.getfield 23, 3) := by decide +kernel
theorem dX0_setHeir_46 : decode cX0_setHeir 46 = .ok (.iload_n 1, 1) := by decide +kernel
theorem dX0_setHeir_47 : decode cX0_setHeir 47 = .ok (.iload_n 2, 1) := by decide +kernel
theorem dX0_setHeir_48 : decode cX0_setHeir 48 = .ok (.iastore, 1) := by decide +kernel
theorem dX0_setHeir_49 : decode cX0_setHeir 49 = .ok (.iload_n 3, 1) := by decide +kernel
theorem dX0_setHeir_50 : decode cX0_setHeir 50 = .ok (.ireturn, 1) := by decide +kernel
theorem dX0_buyFate_0 : decode cX0_buyFate 0 = .ok (.aload_n 0, 1) := by decide +kernel
theorem dX0_buyFate_1 : decode cX0_buyFate 1 = .ok (.iload_n 1, 1) := by decide +kernel
theorem dX0_buyFate_2 : decode cX0_buyFate 2 = .ok (.invokevirtual 64, 3) := by decide +kernel
theorem dX0_buyFate_5 : decode cX0_buyFate 5 = .ok (.aload_n 0, 1) := by decide +kernel
theorem dX0_buyFate_6 : decode cX0_buyFate 6 = .ok (.iload_n 1, 1) := by decide +kernel
theorem dX0_buyFate_7 : decode cX0_buyFate 7 = .ok (.invokevirtual 70, 3) := by decide +kernel
theorem dX0_buyFate_10 : decode cX0_buyFate 10 = .ok (.aload_n 0, 1) := by decide +kernel
theorem dX0_buyFate_11 : decode cX0_buyFate 11 = .ok (.getfield 20, 3) := by decide +kernel
theorem dX0_buyFate_14 : decode cX0_buyFate 14 = .ok (.iload_n 1, 1) := by decide +kernel
theorem dX0_buyFate_15 : decode cX0_buyFate 15 = .ok (.iaload, 1) := by decide +kernel
theorem dX0_buyFate_16 : decode cX0_buyFate 16 = .ok (.bipush 9, 2) := by decide +kernel
theorem dX0_buyFate_18 : decode cX0_buyFate 18 = .ok (.if_icmp .lt 13, 3) := by decide +kernel
theorem dX0_buyFate_21 : decode cX0_buyFate 21 = .ok (.new 52, 3) := by decide +kernel
theorem dX0_buyFate_24 : decode cX0_buyFate 24 = .ok (.dup, 1) := by decide +kernel
theorem dX0_buyFate_25 : decode cX0_buyFate 25 = .ok (.ldc 73, 2) := by decide +kernel
theorem dX0_buyFate_27 : decode cX0_buyFate 27 = .ok (.invokespecial 56, 3) := by decide +kernel
theorem dX0_buyFate_30 : decode cX0_buyFate 30 = .ok (.athrow, 1) := by decide +kernel
theorem dX0_buyFate_31 : decode cX0_buyFate 31 = .ok (.aload_n 0, 1) := by decide +kernel
theorem dX0_buyFate_32 : decode cX0_buyFate 32 = .ok (.iload_n 1, 1) := by decide +kernel
theorem dX0_buyFate_33 : decode cX0_buyFate 33 = .ok (.invokevirtual 75, 3) := by decide +kernel
theorem dX0_buyFate_36 : decode cX0_buyFate 36 = .ok (.istore_n 2, 1) := by decide +kernel
theorem dX0_buyFate_37 : decode cX0_buyFate 37 = .ok (.aload_n 0, 1) := by decide +kernel
theorem dX0_buyFate_38 : decode cX0_buyFate 38 = .ok (.getfield 17, 3) := by decide +kernel
theorem dX0_buyFate_41 : decode cX0_buyFate 41 = .ok (.iload_n 1, 1) := by decide +kernel
theorem dX0_buyFate_42 : decode cX0_buyFate 42 = .ok (.iaload, 1) := by decide +kernel
theorem dX0_buyFate_43 : decode cX0_buyFate 43 = .ok (.iload_n 2, 1) := by decide +kernel
theorem dX0_buyFate_44 : decode cX0_buyFate 44 = .ok (.if_icmp .ge 13, 3) := by decide +kernel
theorem dX0_buyFate_47 : decode cX0_buyFate 47 = .ok (.new 52, 3) := by decide +kernel
theorem dX0_buyFate_50 : decode cX0_buyFate 50 = .ok (.dup, 1) := by decide +kernel
theorem dX0_buyFate_51 : decode cX0_buyFate 51 = .ok (.ldc 79, 2) := by decide +kernel
theorem dX0_buyFate_53 : decode cX0_buyFate 53 = .ok (.invokespecial 56, 3) := by decide +kernel
theorem dX0_buyFate_56 : decode cX0_buyFate 56 = .ok (.athrow, 1) := by decide +kernel
theorem dX0_buyFate_57 : decode cX0_buyFate 57 = .ok (.aload_n 0, 1) := by decide +kernel
theorem dX0_buyFate_58 : decode cX0_buyFate 58 = .ok (.getfield 17, 3) := by decide +kernel
theorem dX0_buyFate_61 : decode cX0_buyFate 61 = .ok (.iload_n 1, 1) := by decide +kernel
theorem dX0_buyFate_62 : decode cX0_buyFate 62 = .ok (.dup2, 1) := by decide +kernel
theorem dX0_buyFate_63 : decode cX0_buyFate 63 = .ok (.iaload, 1) := by decide +kernel
theorem dX0_buyFate_64 : decode cX0_buyFate 64 = .ok (.iload_n 2, 1) := by decide +kernel
theorem dX0_buyFate_65 : decode cX0_buyFate 65 = .ok (.isub, 1) := by decide +kernel
theorem dX0_buyFate_66 : decode cX0_buyFate 66 = .ok (.iastore, 1) := by decide +kernel
theorem dX0_buyFate_67 : decode cX0_buyFate 67 = .ok (.aload_n 0, 1) := by decide +kernel
theorem dX0_buyFate_68 : decode cX0_buyFate 68 = .ok (.dup, 1) := by decide +kernel
theorem dX0_buyFate_69 : decode cX0_buyFate 69 = .ok (.getfield 81, 3) := by decide +kernel
theorem dX0_buyFate_72 : decode cX0_buyFate 72 = .ok (.iload_n 2, 1) := by decide +kernel
theorem dX0_buyFate_73 : decode cX0_buyFate 73 = .ok (.iadd, 1) := by decide +kernel
theorem dX0_buyFate_74 : decode cX0_buyFate 74 = .ok (.putfield 81, 3) := by decide +kernel
theorem dX0_buyFate_77 : decode cX0_buyFate 77 = .ok (.aload_n 0, 1) := by decide +kernel
theorem dX0_buyFate_78 : decode cX0_buyFate 78 = .ok (.getfield 20, 3) := by decide +kernel
theorem dX0_buyFate_81 : decode cX0_buyFate 81 = .ok (.iload_n 1, 1) := by decide +kernel
theorem dX0_buyFate_82 : decode cX0_buyFate 82 = .ok (.dup2, 1) := by decide +kernel
theorem dX0_buyFate_83 : decode cX0_buyFate 83 = .ok (.iaload, 1) := by decide +kernel
theorem dX0_buyFate_84 : decode cX0_buyFate 84 = .ok (.iconst 1, 1) := by decide +kernel
theorem dX0_buyFate_85 : decode cX0_buyFate 85 = .ok (.iadd, 1) := by decide +kernel
theorem dX0_buyFate_86 : decode cX0_buyFate 86 = .ok (.iastore, 1) := by decide +kernel
theorem dX0_buyFate_87 : decode cX0_buyFate 87 = .ok (.iload_n 2, 1) := by decide +kernel
theorem dX0_buyFate_88 : decode cX0_buyFate 88 = .ok (.ireturn, 1) := by decide +kernel
theorem dX0_turnDuty_0 : decode cX0_turnDuty 0 = .ok (.aload_n 0, 1) := by decide +kernel
theorem dX0_turnDuty_1 : decode cX0_turnDuty 1 = .ok (.iload_n 1, 1) := by decide +kernel
theorem dX0_turnDuty_2 : decode cX0_turnDuty 2 = .ok (.invokevirtual 84, 3) := by decide +kernel
theorem dX0_turnDuty_5 : decode cX0_turnDuty 5 = .ok (.aload_n 0, 1) := by decide +kernel
theorem dX0_turnDuty_6 : decode cX0_turnDuty 6 = .ok (.getfield 29, 3) := by decide +kernel
theorem dX0_turnDuty_9 : decode cX0_turnDuty 9 = .ok (.iload_n 1, 1) := by decide +kernel
theorem dX0_turnDuty_10 : decode cX0_turnDuty 10 = .ok (.aload_n 0, 1) := by decide +kernel
theorem dX0_turnDuty_11 : decode cX0_turnDuty 11 = .ok (.getfield 29, 3) := by decide +kernel
theorem dX0_turnDuty_14 : decode cX0_turnDuty 14 = .ok (.iload_n 1, 1) := by decide +kernel
theorem dX0_turnDuty_15 : decode cX0_turnDuty 15 = .ok (.baload, 1) := by decide +kernel
theorem dX0_turnDuty_16 : decode cX0_turnDuty 16 = .ok (.ifCond .ne 7, 3) := by decide +kernel
theorem dX0_turnDuty_19 : decode cX0_turnDuty 19 = .ok (.iconst 1, 1) := by decide +kernel
theorem dX0_turnDuty_20 : decode cX0_turnDuty 20 = .ok (.goto 4, 3) := by decide +kernel
theorem dX0_turnDuty_23 : decode cX0_turnDuty 23 = .ok (.iconst 0, 1) := by decide +kernel
theorem dX0_turnDuty_24 : decode cX0_turnDuty 24 = .ok (.bastore, 1) := by decide +kernel
theorem dX0_turnDuty_25 : decode cX0_turnDuty 25 = .ok (.aload_n 0, 1) := by decide +kernel
theorem dX0_turnDuty_26 : decode cX0_turnDuty 26 = .ok (.getfield 29, 3) := by decide +kernel
theorem dX0_turnDuty_29 : decode cX0_turnDuty 29 = .ok (.iload_n 1, 1) := by decide +kernel
theorem dX0_turnDuty_30 : decode cX0_turnDuty 30 = .ok (.baload, 1) := by decide +kernel
theorem dX0_turnDuty_31 : decode cX0_turnDuty 31 = .ok (.ireturn, 1) := by decide +kernel
theorem dX0_miss_0 : decode cX0_miss 0 = .ok (.aload_n 0, 1) := by decide +kernel
theorem dX0_miss_1 : decode cX0_miss 1 = .ok (.iload_n 1, 1) := by decide +kernel
theorem dX0_miss_2 : decode cX0_miss 2 = .ok (.invokevirtual 64, 3) := by decide +kernel
theorem dX0_miss_5 : decode cX0_miss 5 = .ok (.aload_n 0, 1) := by decide +kernel
theorem dX0_miss_6 : decode cX0_miss 6 = .ok (.iload_n 2, 1) := by decide +kernel
theorem dX0_miss_7 : decode cX0_miss 7 = .ok (.invokevirtual 87, 3) := by decide +kernel
theorem dX0_miss_10 : decode cX0_miss 10 = .ok (.aload_n 0, 1) := by decide +kernel
theorem dX0_miss_11 : decode cX0_miss 11 = .ok (.iload_n 1, 1) := by decide +kernel
theorem dX0_miss_12 : decode cX0_miss 12 = .ok (.invokevirtual 70, 3) := by decide +kernel
theorem dX0_miss_15 : decode cX0_miss 15 = .ok (.aload_n 0, 1) := by decide +kernel
theorem dX0_miss_16 : decode cX0_miss 16 = .ok (.getfield 90, 3) := by decide +kernel
theorem dX0_miss_19 : decode cX0_miss 19 = .ok (.bipush 60, 2) := by decide +kernel
theorem dX0_miss_21 : decode cX0_miss 21 = .ok (.if_icmp .lt 13, 3) := by decide +kernel
theorem dX0_miss_24 : decode cX0_miss 24 = .ok (.new 52, 3) := by decide +kernel
theorem dX0_miss_27 : decode cX0_miss 27 = .ok (.dup, 1) := by decide +kernel
theorem dX0_miss_28 : decode cX0_miss 28 = .ok (.ldc 93, 2) := by decide +kernel
theorem dX0_miss_30 : decode cX0_miss 30 = .ok (.invokespecial 56, 3) := by decide +kernel
theorem dX0_miss_33 : decode cX0_miss 33 = .ok (.athrow, 1) := by decide +kernel
theorem dX0_miss_34 : decode cX0_miss 34 = .ok (.aload_n 0, 1) := by decide +kernel
theorem dX0_miss_35 : decode cX0_miss 35 = .ok (.iload_n 2, 1) := by decide +kernel
theorem dX0_miss_36 : decode cX0_miss 36 = .ok (.invokevirtual 95, 3) := by decide +kernel
theorem dX0_miss_39 : decode cX0_miss 39 = .ok (.istore_n 3, 1) := by decide +kernel
theorem dX0_miss_40 : decode cX0_miss 40 = .ok (.aload_n 0, 1) := by decide +kernel
theorem dX0_miss_41 : decode cX0_miss 41 = .ok (.iload_n 1, 1) := by decide +kernel
theorem dX0_miss_42 : decode cX0_miss 42 = .ok (.iload_n 3, 1) := by decide +kernel
theorem dX0_miss_43 : decode cX0_miss 43 = .ok (.invokevirtual 98, 3) := by decide +kernel
theorem dX0_miss_46 : decode cX0_miss 46 = .ok (.aload_n 0, 1) := by decide +kernel
theorem dX0_miss_47 : decode cX0_miss 47 = .ok (.getfield 13, 3) := by decide +kernel
theorem dX0_miss_50 : decode cX0_miss 50 = .ok (.iload_n 1, 1) := by decide +kernel
theorem dX0_miss_51 : decode cX0_miss 51 = .ok (.iconst 0, 1) := by decide +kernel
theorem dX0_miss_52 : decode cX0_miss 52 = .ok (.aload_n 0, 1) := by decide +kernel
theorem dX0_miss_53 : decode cX0_miss 53 = .ok (.getfield 13, 3) := by decide +kernel
theorem dX0_miss_56 : decode cX0_miss 56 = .ok (.iload_n 1, 1) := by decide +kernel
theorem dX0_miss_57 : decode cX0_miss 57 = .ok (.iaload, 1) := by decide +kernel
theorem dX0_miss_58 : decode cX0_miss 58 = .ok (.bipush 60, 2) := by decide +kernel
theorem dX0_miss_60 : decode cX0_miss 60 = .ok (.iload_n 2, 1) := by decide +kernel
theorem dX0_miss_61 : decode cX0_miss 61 = .ok (.isub, 1) := by decide +kernel
theorem dX0_miss_62 : decode cX0_miss 62 = .ok (.bipush 10, 2) := by decide +kernel
theorem dX0_miss_64 : decode cX0_miss 64 = .ok (.idiv, 1) := by decide +kernel
theorem dX0_miss_65 : decode cX0_miss 65 = .ok (.isub, 1) := by decide +kernel
theorem dX0_miss_66 : decode cX0_miss 66 = .ok (.invokestatic 102, 3) := by decide +kernel
theorem dX0_miss_69 : decode cX0_miss 69 = .ok (.iastore, 1) := by decide +kernel
theorem dX0_miss_70 : decode cX0_miss 70 = .ok (.aload_n 0, 1) := by decide +kernel
theorem dX0_miss_71 : decode cX0_miss 71 = .ok (.iload_n 2, 1) := by decide +kernel
theorem dX0_miss_72 : decode cX0_miss 72 = .ok (.invokestatic 108, 3) := by decide +kernel
theorem dX0_miss_75 : decode cX0_miss 75 = .ok (.invokevirtual 111, 3) := by decide +kernel
theorem dX0_miss_78 : decode cX0_miss 78 = .ok (.aload_n 0, 1) := by decide +kernel
theorem dX0_miss_79 : decode cX0_miss 79 = .ok (.getfield 35, 3) := by decide +kernel
theorem dX0_miss_82 : decode cX0_miss 82 = .ok (.aload_n 0, 1) := by decide +kernel
theorem dX0_miss_83 : decode cX0_miss 83 = .ok (.getfield 90, 3) := by decide +kernel
theorem dX0_miss_86 : decode cX0_miss 86 = .ok (.iload_n 1, 1) := by decide +kernel
theorem dX0_miss_87 : decode cX0_miss 87 = .ok (.iastore, 1) := by decide +kernel
theorem dX0_miss_88 : decode cX0_miss 88 = .ok (.aload_n 0, 1) := by decide +kernel
theorem dX0_miss_89 : decode cX0_miss 89 = .ok (.getfield 38, 3) := by decide +kernel
theorem dX0_miss_92 : decode cX0_miss 92 = .ok (.aload_n 0, 1) := by decide +kernel
theorem dX0_miss_93 : decode cX0_miss 93 = .ok (.getfield 90, 3) := by decide +kernel
theorem dX0_miss_96 : decode cX0_miss 96 = .ok (.iload_n 3, 1) := by decide +kernel
theorem dX0_miss_97 : decode cX0_miss 97 = .ok (.iastore, 1) := by decide +kernel
theorem dX0_miss_98 : decode cX0_miss 98 = .ok (.aload_n 0, 1) := by decide +kernel
theorem dX0_miss_99 : decode cX0_miss 99 = .ok (.dup, 1) := by decide +kernel
theorem dX0_miss_100 : decode cX0_miss 100 = .ok (.getfield 90, 3) := by decide +kernel
theorem dX0_miss_103 : decode cX0_miss 103 = .ok (.iconst 1, 1) := by decide +kernel
theorem dX0_miss_104 : decode cX0_miss 104 = .ok (.iadd, 1) := by decide +kernel
theorem dX0_miss_105 : decode cX0_miss 105 = .ok (.putfield 90, 3) := by decide +kernel
theorem dX0_miss_108 : decode cX0_miss 108 = .ok (.iload_n 3, 1) := by decide +kernel
theorem dX0_miss_109 : decode cX0_miss 109 = .ok (.ireturn, 1) := by decide +kernel
theorem dX0_hit_0 : decode cX0_hit 0 = .ok (.aload_n 0, 1) := by decide +kernel
theorem dX0_hit_1 : decode cX0_hit 1 = .ok (.iload_n 1, 1) := by decide +kernel
theorem dX0_hit_2 : decode cX0_hit 2 = .ok (.invokevirtual 64, 3) := by decide +kernel
theorem dX0_hit_5 : decode cX0_hit 5 = .ok (.aload_n 0, 1) := by decide +kernel
theorem dX0_hit_6 : decode cX0_hit 6 = .ok (.iload_n 1, 1) := by decide +kernel
theorem dX0_hit_7 : decode cX0_hit 7 = .ok (.invokevirtual 70, 3) := by decide +kernel
theorem dX0_hit_10 : decode cX0_hit 10 = .ok (.aload_n 0, 1) := by decide +kernel
theorem dX0_hit_11 : decode cX0_hit 11 = .ok (.getfield 9, 3) := by decide +kernel
theorem dX0_hit_14 : decode cX0_hit 14 = .ok (.iload_n 1, 1) := by decide +kernel
theorem dX0_hit_15 : decode cX0_hit 15 = .ok (.iconst 0, 1) := by decide +kernel
theorem dX0_hit_16 : decode cX0_hit 16 = .ok (.bastore, 1) := by decide +kernel
theorem dX0_hit_17 : decode cX0_hit 17 = .ok (.aload_n 0, 1) := by decide +kernel
theorem dX0_hit_18 : decode cX0_hit 18 = .ok (.iload_n 1, 1) := by decide +kernel
theorem dX0_hit_19 : decode cX0_hit 19 = .ok (.invokevirtual 114, 3) := by decide +kernel
theorem dX0_hit_22 : decode cX0_hit 22 = .ok (.istore_n 2, 1) := by decide +kernel
theorem dX0_hit_23 : decode cX0_hit 23 = .ok (.aload_n 0, 1) := by decide +kernel
theorem dX0_hit_24 : decode cX0_hit 24 = .ok (.iload_n 2, 1) := by decide +kernel
theorem dX0_hit_25 : decode cX0_hit 25 = .ok (.invokevirtual 117, 3) := by decide +kernel
theorem dX0_hit_28 : decode cX0_hit 28 = .ok (.ifCond .eq 47, 3) := by decide +kernel
theorem dX0_hit_31 : decode cX0_hit 31 = .ok (.aload_n 0, 1) := by decide +kernel
theorem dX0_hit_32 : decode cX0_hit 32 = .ok (.getfield 13, 3) := by decide +kernel
theorem dX0_hit_35 : decode cX0_hit 35 = .ok (.iload_n 2, 1) := by decide +kernel
theorem dX0_hit_36 : decode cX0_hit 36 = .ok (.bipush 99, 2) := by decide +kernel
theorem dX0_hit_38 : decode cX0_hit 38 = .ok (.aload_n 0, 1) := by decide +kernel
theorem dX0_hit_39 : decode cX0_hit 39 = .ok (.getfield 13, 3) := by decide +kernel
theorem dX0_hit_42 : decode cX0_hit 42 = .ok (.iload_n 2, 1) := by decide +kernel
theorem dX0_hit_43 : decode cX0_hit 43 = .ok (.iaload, 1) := by decide +kernel
theorem dX0_hit_44 : decode cX0_hit 44 = .ok (.aload_n 0, 1) := by decide +kernel
theorem dX0_hit_45 : decode cX0_hit 45 = .ok (.getfield 13, 3) := by decide +kernel
theorem dX0_hit_48 : decode cX0_hit 48 = .ok (.iload_n 1, 1) := by decide +kernel
theorem dX0_hit_49 : decode cX0_hit 49 = .ok (.iaload, 1) := by decide +kernel
theorem dX0_hit_50 : decode cX0_hit 50 = .ok (.iconst 2, 1) := by decide +kernel
theorem dX0_hit_51 : decode cX0_hit 51 = .ok (.idiv, 1) := by decide +kernel
theorem dX0_hit_52 : decode cX0_hit 52 = .ok (.iadd, 1) := by decide +kernel
theorem dX0_hit_53 : decode cX0_hit 53 = .ok (.invokestatic 121, 3) := by decide +kernel
theorem dX0_hit_56 : decode cX0_hit 56 = .ok (.iastore, 1) := by decide +kernel
theorem dX0_hit_57 : decode cX0_hit 57 = .ok (.aload_n 0, 1) := by decide +kernel
theorem dX0_hit_58 : decode cX0_hit 58 = .ok (.getfield 17, 3) := by decide +kernel
theorem dX0_hit_61 : decode cX0_hit 61 = .ok (.iload_n 2, 1) := by decide +kernel
theorem dX0_hit_62 : decode cX0_hit 62 = .ok (.dup2, 1) := by decide +kernel
theorem dX0_hit_63 : decode cX0_hit 63 = .ok (.iaload, 1) := by decide +kernel
theorem dX0_hit_64 : decode cX0_hit 64 = .ok (.aload_n 0, 1) := by decide +kernel
theorem dX0_hit_65 : decode cX0_hit 65 = .ok (.getfield 17, 3) := by decide +kernel
theorem dX0_hit_68 : decode cX0_hit 68 = .ok (.iload_n 1, 1) := by decide +kernel
theorem dX0_hit_69 : decode cX0_hit 69 = .ok (.iaload, 1) := by decide +kernel
theorem dX0_hit_70 : decode cX0_hit 70 = .ok (.iadd, 1) := by decide +kernel
theorem dX0_hit_71 : decode cX0_hit 71 = .ok (.iastore, 1) := by decide +kernel
theorem dX0_hit_72 : decode cX0_hit 72 = .ok (.goto 18, 3) := by decide +kernel
theorem dX0_hit_75 : decode cX0_hit 75 = .ok (.aload_n 0, 1) := by decide +kernel
theorem dX0_hit_76 : decode cX0_hit 76 = .ok (.dup, 1) := by decide +kernel
theorem dX0_hit_77 : decode cX0_hit 77 = .ok (.getfield 81, 3) := by decide +kernel
theorem dX0_hit_80 : decode cX0_hit 80 = .ok (.aload_n 0, 1) := by decide +kernel
theorem dX0_hit_81 : decode cX0_hit 81 = .ok (.getfield 17, 3) := by decide +kernel
theorem dX0_hit_84 : decode cX0_hit 84 = .ok (.iload_n 1, 1) := by decide +kernel
theorem dX0_hit_85 : decode cX0_hit 85 = .ok (.iaload, 1) := by decide +kernel
theorem dX0_hit_86 : decode cX0_hit 86 = .ok (.iadd, 1) := by decide +kernel
theorem dX0_hit_87 : decode cX0_hit 87 = .ok (.putfield 81, 3) := by decide +kernel
theorem dX0_hit_90 : decode cX0_hit 90 = .ok (.aload_n 0, 1) := by decide +kernel
theorem dX0_hit_91 : decode cX0_hit 91 = .ok (.getfield 17, 3) := by decide +kernel
theorem dX0_hit_94 : decode cX0_hit 94 = .ok (.iload_n 1, 1) := by decide +kernel
theorem dX0_hit_95 : decode cX0_hit 95 = .ok (.iconst 0, 1) := by decide +kernel
theorem dX0_hit_96 : decode cX0_hit 96 = .ok (.iastore, 1) := by decide +kernel
theorem dX0_hit_97 : decode cX0_hit 97 = .ok (.aload_n 0, 1) := by decide +kernel
theorem dX0_hit_98 : decode cX0_hit 98 = .ok (.getfield 20, 3) := by decide +kernel
theorem dX0_hit_101 : decode cX0_hit 101 = .ok (.iload_n 1, 1) := by decide +kernel
theorem dX0_hit_102 : decode cX0_hit 102 = .ok (.iconst 0, 1) := by decide +kernel
theorem dX0_hit_103 : decode cX0_hit 103 = .ok (.iastore, 1) := by decide +kernel
theorem dX0_hit_104 : decode cX0_hit 104 = .ok (.iload_n 2, 1) := by decide +kernel
theorem dX0_hit_105 : decode cX0_hit 105 = .ok (.ireturn, 1) := by decide +kernel
theorem dX0_pass_0 : decode cX0_pass 0 = .ok (.iload_n 1, 1) := by decide +kernel
theorem dX0_pass_1 : decode cX0_pass 1 = .ok (.iconst 1, 1) := by decide +kernel
theorem dX0_pass_2 : decode cX0_pass 2 = .ok (.if_icmp .lt 9, 3) := by decide +kernel
theorem dX0_pass_5 : decode cX0_pass 5 = .ok (.iload_n 1, 1) := by decide +kernel
theorem dX0_pass_6 : decode cX0_pass 6 = .ok (.bipush 30, 2) := by decide +kernel
theorem dX0_pass_8 : decode cX0_pass 8 = .ok (.if_icmp .le 13, 3) := by decide +kernel
theorem dX0_pass_11 : decode cX0_pass 11 = .ok (.new 41, 3) := by decide +kernel
theorem dX0_pass_14 : decode cX0_pass 14 = .ok (.dup, 1) := by decide +kernel
theorem dX0_pass_15 : decode cX0_pass 15 = .ok (.ldc 124, 2) := by decide +kernel
theorem dX0_pass_17 : decode cX0_pass 17 = .ok (.invokespecial 45, 3) := by decide +kernel
theorem dX0_pass_20 : decode cX0_pass 20 = .ok (.athrow, 1) := by decide +kernel
theorem dX0_pass_21 : decode cX0_pass 21 = .ok (.iconst 0, 1) := by decide +kernel
theorem dX0_pass_22 : decode cX0_pass 22 = .ok (.istore_n 2, 1) := by decide +kernel
theorem dX0_pass_23 : decode cX0_pass 23 = .ok (.iload_n 2, 1) := by decide +kernel
theorem dX0_pass_24 : decode cX0_pass 24 = .ok (.iload_n 1, 1) := by decide +kernel
theorem dX0_pass_25 : decode cX0_pass 25 = .ok (.if_icmp .ge 13, 3) := by decide +kernel
theorem dX0_pass_28 : decode cX0_pass 28 = .ok (.aload_n 0, 1) := by decide +kernel
theorem dX0_pass_29 : decode cX0_pass 29 = .ok (.invokevirtual 126, 3) := by decide +kernel
theorem dX0_pass_32 : decode cX0_pass 32 = .ok (.iinc 2 1, 3) := by decide +kernel
theorem dX0_pass_35 : decode cX0_pass 35 = .ok (.goto (-12), 3) := by decide +kernel
theorem dX0_pass_38 : decode cX0_pass 38 = .ok (.aload_n 0, 1) := by decide +kernel
theorem dX0_pass_39 : decode cX0_pass 39 = .ok (.invokevirtual 129, 3) := by decide +kernel
theorem dX0_pass_42 : decode cX0_pass 42 = .ok (.ireturn, 1) := by decide +kernel
theorem dX0_night_0 : decode cX0_night 0 = .ok (.aload_n 0, 1) := by decide +kernel
theorem dX0_night_1 : decode cX0_night 1 = .ok (.getfield 133, 3) := by decide +kernel
theorem dX0_night_4 : decode cX0_night 4 = .ok (.ireturn, 1) := by decide +kernel
theorem dX0_persons_0 : decode cX0_persons 0 = .ok (.aload_n 0, 1) := by decide +kernel
theorem dX0_persons_1 : decode cX0_persons 1 = .ok (.getfield 48, 3) := by decide +kernel
theorem dX0_persons_4 : decode cX0_persons 4 = .ok (.ireturn, 1) := by decide +kernel
theorem dX0_alive_0 : decode cX0_alive 0 = .ok (.iconst 0, 1) := by decide +kernel
theorem dX0_alive_1 : decode cX0_alive 1 = .ok (.istore_n 1, 1) := by decide +kernel
theorem dX0_alive_2 : decode cX0_alive 2 = .ok (.iconst 0, 1) := by decide +kernel
theorem dX0_alive_3 : decode cX0_alive 3 = .ok (.istore_n 2, 1) := by decide +kernel
theorem dX0_alive_4 : decode cX0_alive 4 = .ok (.iload_n 2, 1) := by decide +kernel
theorem dX0_alive_5 : decode cX0_alive 5 = .ok (.aload_n 0, 1) := by decide +kernel
theorem dX0_alive_6 : decode cX0_alive 6 = .ok (.getfield 48, 3) := by decide +kernel
theorem dX0_alive_9 : decode cX0_alive 9 = .ok (.if_icmp .ge 21, 3) := by decide +kernel
theorem dX0_alive_12 : decode cX0_alive 12 = .ok (.aload_n 0, 1) := by decide +kernel
theorem dX0_alive_13 : decode cX0_alive 13 = .ok (.getfield 9, 3) := by decide +kernel
theorem dX0_alive_16 : decode cX0_alive 16 = .ok (.iload_n 2, 1) := by decide +kernel
theorem dX0_alive_17 : decode cX0_alive 17 = .ok (.baload, 1) := by decide +kernel
theorem dX0_alive_18 : decode cX0_alive 18 = .ok (.ifCond .eq 6, 3) := by decide +kernel
theorem dX0_alive_21 : decode cX0_alive 21 = .ok (.iinc 1 1, 3) := by decide +kernel
theorem dX0_alive_24 : decode cX0_alive 24 = .ok (.iinc 2 1, 3) := by decide +kernel
theorem dX0_alive_27 : decode cX0_alive 27 = .ok (.goto (-23), 3) := by decide +kernel
theorem dX0_alive_30 : decode cX0_alive 30 = .ok (.iload_n 1, 1) := by decide +kernel
theorem dX0_alive_31 : decode cX0_alive 31 = .ok (.ireturn, 1) := by decide +kernel
theorem dX0_witnesses_0 : decode cX0_witnesses 0 = .ok (.aload_n 0, 1) := by decide +kernel
theorem dX0_witnesses_1 : decode cX0_witnesses 1 = .ok (.getfield 59, 3) := by decide +kernel
theorem dX0_witnesses_4 : decode cX0_witnesses 4 = .ok (.ireturn, 1) := by decide +kernel
theorem dX0_shaken_0 : decode cX0_shaken 0 = .ok (.iconst 0, 1) := by decide +kernel
theorem dX0_shaken_1 : decode cX0_shaken 1 = .ok (.istore_n 1, 1) := by decide +kernel
theorem dX0_shaken_2 : decode cX0_shaken 2 = .ok (.iconst 0, 1) := by decide +kernel
theorem dX0_shaken_3 : decode cX0_shaken 3 = .ok (.istore_n 2, 1) := by decide +kernel
theorem dX0_shaken_4 : decode cX0_shaken 4 = .ok (.iload_n 2, 1) := by decide +kernel
theorem dX0_shaken_5 : decode cX0_shaken 5 = .ok (.aload_n 0, 1) := by decide +kernel
theorem dX0_shaken_6 : decode cX0_shaken 6 = .ok (.getfield 59, 3) := by decide +kernel
theorem dX0_shaken_9 : decode cX0_shaken 9 = .ok (.if_icmp .ge 20, 3) := by decide +kernel
theorem dX0_shaken_12 : decode cX0_shaken 12 = .ok (.aload_n 0, 1) := by decide +kernel
theorem dX0_shaken_13 : decode cX0_shaken 13 = .ok (.iload_n 2, 1) := by decide +kernel
theorem dX0_shaken_14 : decode cX0_shaken 14 = .ok (.invokevirtual 136, 3) := by decide +kernel
theorem dX0_shaken_17 : decode cX0_shaken 17 = .ok (.ifCond .eq 6, 3) := by decide +kernel
theorem dX0_shaken_20 : decode cX0_shaken 20 = .ok (.iinc 1 1, 3) := by decide +kernel
theorem dX0_shaken_23 : decode cX0_shaken 23 = .ok (.iinc 2 1, 3) := by decide +kernel
theorem dX0_shaken_26 : decode cX0_shaken 26 = .ok (.goto (-22), 3) := by decide +kernel
theorem dX0_shaken_29 : decode cX0_shaken 29 = .ok (.iload_n 1, 1) := by decide +kernel
theorem dX0_shaken_30 : decode cX0_shaken 30 = .ok (.ireturn, 1) := by decide +kernel
theorem dX0_fund_0 : decode cX0_fund 0 = .ok (.aload_n 0, 1) := by decide +kernel
theorem dX0_fund_1 : decode cX0_fund 1 = .ok (.getfield 81, 3) := by decide +kernel
theorem dX0_fund_4 : decode cX0_fund 4 = .ok (.ireturn, 1) := by decide +kernel
theorem dX0_refunded_0 : decode cX0_refunded 0 = .ok (.aload_n 0, 1) := by decide +kernel
theorem dX0_refunded_1 : decode cX0_refunded 1 = .ok (.getfield 139, 3) := by decide +kernel
theorem dX0_refunded_4 : decode cX0_refunded 4 = .ok (.ireturn, 1) := by decide +kernel
theorem dX0_misses_0 : decode cX0_misses 0 = .ok (.aload_n 0, 1) := by decide +kernel
theorem dX0_misses_1 : decode cX0_misses 1 = .ok (.getfield 90, 3) := by decide +kernel
theorem dX0_misses_4 : decode cX0_misses 4 = .ok (.ireturn, 1) := by decide +kernel
theorem dX0_certified_0 : decode cX0_certified 0 = .ok (.iconst 0, 1) := by decide +kernel
theorem dX0_certified_1 : decode cX0_certified 1 = .ok (.istore_n 1, 1) := by decide +kernel
theorem dX0_certified_2 : decode cX0_certified 2 = .ok (.iconst 0, 1) := by decide +kernel
theorem dX0_certified_3 : decode cX0_certified 3 = .ok (.istore_n 2, 1) := by decide +kernel
theorem dX0_certified_4 : decode cX0_certified 4 = .ok (.iload_n 2, 1) := by decide +kernel
theorem dX0_certified_5 : decode cX0_certified 5 = .ok (.aload_n 0, 1) := by decide +kernel
theorem dX0_certified_6 : decode cX0_certified 6 = .ok (.getfield 90, 3) := by decide +kernel
theorem dX0_certified_9 : decode cX0_certified 9 = .ok (.if_icmp .ge 21, 3) := by decide +kernel
theorem dX0_certified_12 : decode cX0_certified 12 = .ok (.aload_n 0, 1) := by decide +kernel
theorem dX0_certified_13 : decode cX0_certified 13 = .ok (.getfield 38, 3) := by decide +kernel
theorem dX0_certified_16 : decode cX0_certified 16 = .ok (.iload_n 2, 1) := by decide +kernel
theorem dX0_certified_17 : decode cX0_certified 17 = .ok (.iaload, 1) := by decide +kernel
theorem dX0_certified_18 : decode cX0_certified 18 = .ok (.ifCond .le 6, 3) := by decide +kernel
theorem dX0_certified_21 : decode cX0_certified 21 = .ok (.iinc 1 1, 3) := by decide +kernel
theorem dX0_certified_24 : decode cX0_certified 24 = .ok (.iinc 2 1, 3) := by decide +kernel
theorem dX0_certified_27 : decode cX0_certified 27 = .ok (.goto (-23), 3) := by decide +kernel
theorem dX0_certified_30 : decode cX0_certified 30 = .ok (.iload_n 1, 1) := by decide +kernel
theorem dX0_certified_31 : decode cX0_certified 31 = .ok (.ireturn, 1) := by decide +kernel
theorem dX0_isAlive_0 : decode cX0_isAlive 0 = .ok (.aload_n 0, 1) := by decide +kernel
theorem dX0_isAlive_1 : decode cX0_isAlive 1 = .ok (.iload_n 1, 1) := by decide +kernel
theorem dX0_isAlive_2 : decode cX0_isAlive 2 = .ok (.invokevirtual 64, 3) := by decide +kernel
theorem dX0_isAlive_5 : decode cX0_isAlive 5 = .ok (.aload_n 0, 1) := by decide +kernel
theorem dX0_isAlive_6 : decode cX0_isAlive 6 = .ok (.getfield 9, 3) := by decide +kernel
theorem dX0_isAlive_9 : decode cX0_isAlive 9 = .ok (.iload_n 1, 1) := by decide +kernel
theorem dX0_isAlive_10 : decode cX0_isAlive 10 = .ok (.baload, 1) := by decide +kernel
theorem dX0_isAlive_11 : decode cX0_isAlive 11 = .ok (.ireturn, 1) := by decide +kernel
theorem dX0_luckOf_0 : decode cX0_luckOf 0 = .ok (.aload_n 0, 1) := by decide +kernel
theorem dX0_luckOf_1 : decode cX0_luckOf 1 = .ok (.iload_n 1, 1) := by decide +kernel
theorem dX0_luckOf_2 : decode cX0_luckOf 2 = .ok (.invokevirtual 64, 3) := by decide +kernel
theorem dX0_luckOf_5 : decode cX0_luckOf 5 = .ok (.aload_n 0, 1) := by decide +kernel
theorem dX0_luckOf_6 : decode cX0_luckOf 6 = .ok (.getfield 13, 3) := by decide +kernel
theorem dX0_luckOf_9 : decode cX0_luckOf 9 = .ok (.iload_n 1, 1) := by decide +kernel
theorem dX0_luckOf_10 : decode cX0_luckOf 10 = .ok (.iaload, 1) := by decide +kernel
theorem dX0_luckOf_11 : decode cX0_luckOf 11 = .ok (.ireturn, 1) := by decide +kernel
theorem dX0_purseOf_0 : decode cX0_purseOf 0 = .ok (.aload_n 0, 1) := by decide +kernel
theorem dX0_purseOf_1 : decode cX0_purseOf 1 = .ok (.iload_n 1, 1) := by decide +kernel
theorem dX0_purseOf_2 : decode cX0_purseOf 2 = .ok (.invokevirtual 64, 3) := by decide +kernel
theorem dX0_purseOf_5 : decode cX0_purseOf 5 = .ok (.aload_n 0, 1) := by decide +kernel
theorem dX0_purseOf_6 : decode cX0_purseOf 6 = .ok (.getfield 17, 3) := by decide +kernel
theorem dX0_purseOf_9 : decode cX0_purseOf 9 = .ok (.iload_n 1, 1) := by decide +kernel
theorem dX0_purseOf_10 : decode cX0_purseOf 10 = .ok (.iaload, 1) := by decide +kernel
theorem dX0_purseOf_11 : decode cX0_purseOf 11 = .ok (.ireturn, 1) := by decide +kernel
theorem dX0_fatesOf_0 : decode cX0_fatesOf 0 = .ok (.aload_n 0, 1) := by decide +kernel
theorem dX0_fatesOf_1 : decode cX0_fatesOf 1 = .ok (.iload_n 1, 1) := by decide +kernel
theorem dX0_fatesOf_2 : decode cX0_fatesOf 2 = .ok (.invokevirtual 64, 3) := by decide +kernel
theorem dX0_fatesOf_5 : decode cX0_fatesOf 5 = .ok (.aload_n 0, 1) := by decide +kernel
theorem dX0_fatesOf_6 : decode cX0_fatesOf 6 = .ok (.getfield 20, 3) := by decide +kernel
theorem dX0_fatesOf_9 : decode cX0_fatesOf 9 = .ok (.iload_n 1, 1) := by decide +kernel
theorem dX0_fatesOf_10 : decode cX0_fatesOf 10 = .ok (.iaload, 1) := by decide +kernel
theorem dX0_fatesOf_11 : decode cX0_fatesOf 11 = .ok (.ireturn, 1) := by decide +kernel
theorem dX0_heirOf_0 : decode cX0_heirOf 0 = .ok (.aload_n 0, 1) := by decide +kernel
theorem dX0_heirOf_1 : decode cX0_heirOf 1 = .ok (.iload_n 1, 1) := by decide +kernel
theorem dX0_heirOf_2 : decode cX0_heirOf 2 = .ok (.invokevirtual 64, 3) := by decide +kernel
theorem dX0_heirOf_5 : decode cX0_heirOf 5 = .ok (.aload_n 0, 1) := by decide +kernel
theorem dX0_heirOf_6 : decode cX0_heirOf 6 = .ok (.getfield 23, 3) := by decide +kernel
theorem dX0_heirOf_9 : decode cX0_heirOf 9 = .ok (.iload_n 1, 1) := by decide +kernel
theorem dX0_heirOf_10 : decode cX0_heirOf 10 = .ok (.iaload, 1) := by decide +kernel
theorem dX0_heirOf_11 : decode cX0_heirOf 11 = .ok (.ireturn, 1) := by decide +kernel
theorem dX0_lastHeirOf_0 : decode cX0_lastHeirOf 0 = .ok (.aload_n 0, 1) := by decide +kernel
theorem dX0_lastHeirOf_1 : decode cX0_lastHeirOf 1 = .ok (.iload_n 1, 1) := by decide +kernel
theorem dX0_lastHeirOf_2 : decode cX0_lastHeirOf 2 = .ok (.invokevirtual 64, 3) := by decide +kernel
theorem dX0_lastHeirOf_5 : decode cX0_lastHeirOf 5 = .ok (.aload_n 0, 1) := by decide +kernel
theorem dX0_lastHeirOf_6 : decode cX0_lastHeirOf 6 = .ok (.iload_n 1, 1) := by decide +kernel
theorem dX0_lastHeirOf_7 : decode cX0_lastHeirOf 7 = .ok (.invokevirtual 114, 3) := by decide +kernel
theorem dX0_lastHeirOf_10 : decode cX0_lastHeirOf 10 = .ok (.ireturn, 1) := by decide +kernel
theorem dX0_priceFor_0 : decode cX0_priceFor 0 = .ok (.aload_n 0, 1) := by decide +kernel
theorem dX0_priceFor_1 : decode cX0_priceFor 1 = .ok (.iload_n 1, 1) := by decide +kernel
theorem dX0_priceFor_2 : decode cX0_priceFor 2 = .ok (.invokevirtual 64, 3) := by decide +kernel
theorem dX0_priceFor_5 : decode cX0_priceFor 5 = .ok (.aload_n 0, 1) := by decide +kernel
theorem dX0_priceFor_6 : decode cX0_priceFor 6 = .ok (.iload_n 1, 1) := by decide +kernel
theorem dX0_priceFor_7 : decode cX0_priceFor 7 = .ok (.invokevirtual 75, 3) := by decide +kernel
theorem dX0_priceFor_10 : decode cX0_priceFor 10 = .ok (.ireturn, 1) := by decide +kernel
theorem dX0_missesOf_0 : decode cX0_missesOf 0 = .ok (.aload_n 0, 1) := by decide +kernel
theorem dX0_missesOf_1 : decode cX0_missesOf 1 = .ok (.iload_n 1, 1) := by decide +kernel
theorem dX0_missesOf_2 : decode cX0_missesOf 2 = .ok (.invokevirtual 64, 3) := by decide +kernel
theorem dX0_missesOf_5 : decode cX0_missesOf 5 = .ok (.iconst 0, 1) := by decide +kernel
theorem dX0_missesOf_6 : decode cX0_missesOf 6 = .ok (.istore_n 2, 1) := by decide +kernel
theorem dX0_missesOf_7 : decode cX0_missesOf 7 = .ok (.iconst 0, 1) := by decide +kernel
theorem dX0_missesOf_8 : decode cX0_missesOf 8 = .ok (.istore_n 3, 1) := by decide +kernel
theorem dX0_missesOf_9 : decode cX0_missesOf 9 = .ok (.iload_n 3, 1) := by decide +kernel
theorem dX0_missesOf_10 : decode cX0_missesOf 10 = .ok (.aload_n 0, 1) := by decide +kernel
theorem dX0_missesOf_11 : decode cX0_missesOf 11 = .ok (.getfield 90, 3) := by decide +kernel
theorem dX0_missesOf_14 : decode cX0_missesOf 14 = .ok (.if_icmp .ge 22, 3) := by decide +kernel
theorem dX0_missesOf_17 : decode cX0_missesOf 17 = .ok (.aload_n 0, 1) := by decide +kernel
theorem dX0_missesOf_18 : decode cX0_missesOf 18 = .ok (.getfield 35, 3) := by decide +kernel
theorem dX0_missesOf_21 : decode cX0_missesOf 21 = .ok (.iload_n 3, 1) := by decide +kernel
theorem dX0_missesOf_22 : decode cX0_missesOf 22 = .ok (.iaload, 1) := by decide +kernel
theorem dX0_missesOf_23 : decode cX0_missesOf 23 = .ok (.iload_n 1, 1) := by decide +kernel
theorem dX0_missesOf_24 : decode cX0_missesOf 24 = .ok (.if_icmp .ne 6, 3) := by decide +kernel
theorem dX0_missesOf_27 : decode cX0_missesOf 27 = .ok (.iinc 2 1, 3) := by decide +kernel
theorem dX0_missesOf_30 : decode cX0_missesOf 30 = .ok (.iinc 3 1, 3) := by decide +kernel
theorem dX0_missesOf_33 : decode cX0_missesOf 33 = .ok (.goto (-24), 3) := by decide +kernel
theorem dX0_missesOf_36 : decode cX0_missesOf 36 = .ok (.iload_n 2, 1) := by decide +kernel
theorem dX0_missesOf_37 : decode cX0_missesOf 37 = .ok (.ireturn, 1) := by decide +kernel
theorem dX0_closestOf_0 : decode cX0_closestOf 0 = .ok (.aload_n 0, 1) := by decide +kernel
theorem dX0_closestOf_1 : decode cX0_closestOf 1 = .ok (.iload_n 1, 1) := by decide +kernel
theorem dX0_closestOf_2 : decode cX0_closestOf 2 = .ok (.invokevirtual 64, 3) := by decide +kernel
theorem dX0_closestOf_5 : decode cX0_closestOf 5 = .ok (.iconst 0, 1) := by decide +kernel
theorem dX0_closestOf_6 : decode cX0_closestOf 6 = .ok (.istore_n 2, 1) := by decide +kernel
theorem dX0_closestOf_7 : decode cX0_closestOf 7 = .ok (.iconst 0, 1) := by decide +kernel
theorem dX0_closestOf_8 : decode cX0_closestOf 8 = .ok (.istore_n 3, 1) := by decide +kernel
theorem dX0_closestOf_9 : decode cX0_closestOf 9 = .ok (.iload_n 3, 1) := by decide +kernel
theorem dX0_closestOf_10 : decode cX0_closestOf 10 = .ok (.aload_n 0, 1) := by decide +kernel
theorem dX0_closestOf_11 : decode cX0_closestOf 11 = .ok (.getfield 90, 3) := by decide +kernel
theorem dX0_closestOf_14 : decode cX0_closestOf 14 = .ok (.if_icmp .ge 45, 3) := by decide +kernel
theorem dX0_closestOf_17 : decode cX0_closestOf 17 = .ok (.aload_n 0, 1) := by decide +kernel
theorem dX0_closestOf_18 : decode cX0_closestOf 18 = .ok (.getfield 38, 3) := by decide +kernel
theorem dX0_closestOf_21 : decode cX0_closestOf 21 = .ok (.iload_n 3, 1) := by decide +kernel
theorem dX0_closestOf_22 : decode cX0_closestOf 22 = .ok (.iaload, 1) := by decide +kernel
theorem dX0_closestOf_23 : decode cX0_closestOf 23 = .ok (.istore 4, 2) := by decide +kernel
theorem dX0_closestOf_25 : decode cX0_closestOf 25 = .ok (.aload_n 0, 1) := by decide +kernel
theorem dX0_closestOf_26 : decode cX0_closestOf 26 = .ok (.getfield 35, 3) := by decide +kernel
theorem dX0_closestOf_29 : decode cX0_closestOf 29 = .ok (.iload_n 3, 1) := by decide +kernel
theorem dX0_closestOf_30 : decode cX0_closestOf 30 = .ok (.iaload, 1) := by decide +kernel
theorem dX0_closestOf_31 : decode cX0_closestOf 31 = .ok (.iload_n 1, 1) := by decide +kernel
theorem dX0_closestOf_32 : decode cX0_closestOf 32 = .ok (.if_icmp .ne 21, 3) := by decide +kernel
theorem dX0_closestOf_35 : decode cX0_closestOf 35 = .ok (.iload 4, 2) := by decide +kernel
theorem dX0_closestOf_37 : decode cX0_closestOf 37 = .ok (.ifCond .le 16, 3) := by decide +kernel
theorem dX0_closestOf_40 : decode cX0_closestOf 40 = .ok (.iload_n 2, 1) := by decide +kernel
theorem dX0_closestOf_41 : decode cX0_closestOf 41 = .ok (.ifCond .eq 9, 3) := by decide +kernel
theorem dX0_closestOf_44 : decode cX0_closestOf 44 = .ok (.iload 4, 2) := by decide +kernel
theorem dX0_closestOf_46 : decode cX0_closestOf 46 = .ok (.iload_n 2, 1) := by decide +kernel
theorem dX0_closestOf_47 : decode cX0_closestOf 47 = .ok (.if_icmp .ge 6, 3) := by decide +kernel
theorem dX0_closestOf_50 : decode cX0_closestOf 50 = .ok (.iload 4, 2) := by decide +kernel
theorem dX0_closestOf_52 : decode cX0_closestOf 52 = .ok (.istore_n 2, 1) := by decide +kernel
theorem dX0_closestOf_53 : decode cX0_closestOf 53 = .ok (.iinc 3 1, 3) := by decide +kernel
theorem dX0_closestOf_56 : decode cX0_closestOf 56 = .ok (.goto (-47), 3) := by decide +kernel
theorem dX0_closestOf_59 : decode cX0_closestOf 59 = .ok (.iload_n 2, 1) := by decide +kernel
theorem dX0_closestOf_60 : decode cX0_closestOf 60 = .ok (.ireturn, 1) := by decide +kernel
theorem dX0_nerveOf_0 : decode cX0_nerveOf 0 = .ok (.aload_n 0, 1) := by decide +kernel
theorem dX0_nerveOf_1 : decode cX0_nerveOf 1 = .ok (.iload_n 1, 1) := by decide +kernel
theorem dX0_nerveOf_2 : decode cX0_nerveOf 2 = .ok (.invokevirtual 84, 3) := by decide +kernel
theorem dX0_nerveOf_5 : decode cX0_nerveOf 5 = .ok (.aload_n 0, 1) := by decide +kernel
theorem dX0_nerveOf_6 : decode cX0_nerveOf 6 = .ok (.getfield 26, 3) := by decide +kernel
theorem dX0_nerveOf_9 : decode cX0_nerveOf 9 = .ok (.iload_n 1, 1) := by decide +kernel
theorem dX0_nerveOf_10 : decode cX0_nerveOf 10 = .ok (.iaload, 1) := by decide +kernel
theorem dX0_nerveOf_11 : decode cX0_nerveOf 11 = .ok (.ireturn, 1) := by decide +kernel
theorem dX0_isOnDuty_0 : decode cX0_isOnDuty 0 = .ok (.aload_n 0, 1) := by decide +kernel
theorem dX0_isOnDuty_1 : decode cX0_isOnDuty 1 = .ok (.iload_n 1, 1) := by decide +kernel
theorem dX0_isOnDuty_2 : decode cX0_isOnDuty 2 = .ok (.invokevirtual 84, 3) := by decide +kernel
theorem dX0_isOnDuty_5 : decode cX0_isOnDuty 5 = .ok (.aload_n 0, 1) := by decide +kernel
theorem dX0_isOnDuty_6 : decode cX0_isOnDuty 6 = .ok (.getfield 29, 3) := by decide +kernel
theorem dX0_isOnDuty_9 : decode cX0_isOnDuty 9 = .ok (.iload_n 1, 1) := by decide +kernel
theorem dX0_isOnDuty_10 : decode cX0_isOnDuty 10 = .ok (.baload, 1) := by decide +kernel
theorem dX0_isOnDuty_11 : decode cX0_isOnDuty 11 = .ok (.ireturn, 1) := by decide +kernel
theorem dX0_wouldTell_0 : decode cX0_wouldTell 0 = .ok (.aload_n 0, 1) := by decide +kernel
theorem dX0_wouldTell_1 : decode cX0_wouldTell 1 = .ok (.iload_n 1, 1) := by decide +kernel
theorem dX0_wouldTell_2 : decode cX0_wouldTell 2 = .ok (.invokevirtual 84, 3) := by decide +kernel
theorem dX0_wouldTell_5 : decode cX0_wouldTell 5 = .ok (.aload_n 0, 1) := by decide +kernel
theorem dX0_wouldTell_6 : decode cX0_wouldTell 6 = .ok (.iload_n 2, 1) := by decide +kernel
theorem dX0_wouldTell_7 : decode cX0_wouldTell 7 = .ok (.invokevirtual 87, 3) := by decide +kernel
theorem dX0_wouldTell_10 : decode cX0_wouldTell 10 = .ok (.aload_n 0, 1) := by decide +kernel
theorem dX0_wouldTell_11 : decode cX0_wouldTell 11 = .ok (.iload_n 1, 1) := by decide +kernel
theorem dX0_wouldTell_12 : decode cX0_wouldTell 12 = .ok (.iload_n 2, 1) := by decide +kernel
theorem dX0_wouldTell_13 : decode cX0_wouldTell 13 = .ok (.invokevirtual 142, 3) := by decide +kernel
theorem dX0_wouldTell_16 : decode cX0_wouldTell 16 = .ok (.ireturn, 1) := by decide +kernel
theorem dX0_personOf_0 : decode cX0_personOf 0 = .ok (.aload_n 0, 1) := by decide +kernel
theorem dX0_personOf_1 : decode cX0_personOf 1 = .ok (.iload_n 1, 1) := by decide +kernel
theorem dX0_personOf_2 : decode cX0_personOf 2 = .ok (.invokevirtual 145, 3) := by decide +kernel
theorem dX0_personOf_5 : decode cX0_personOf 5 = .ok (.aload_n 0, 1) := by decide +kernel
theorem dX0_personOf_6 : decode cX0_personOf 6 = .ok (.getfield 35, 3) := by decide +kernel
theorem dX0_personOf_9 : decode cX0_personOf 9 = .ok (.iload_n 1, 1) := by decide +kernel
theorem dX0_personOf_10 : decode cX0_personOf 10 = .ok (.iaload, 1) := by decide +kernel
theorem dX0_personOf_11 : decode cX0_personOf 11 = .ok (.ireturn, 1) := by decide +kernel
theorem dX0_inchesOf_0 : decode cX0_inchesOf 0 = .ok (.aload_n 0, 1) := by decide +kernel
theorem dX0_inchesOf_1 : decode cX0_inchesOf 1 = .ok (.iload_n 1, 1) := by decide +kernel
theorem dX0_inchesOf_2 : decode cX0_inchesOf 2 = .ok (.invokevirtual 145, 3) := by decide +kernel
theorem dX0_inchesOf_5 : decode cX0_inchesOf 5 = .ok (.aload_n 0, 1) := by decide +kernel
theorem dX0_inchesOf_6 : decode cX0_inchesOf 6 = .ok (.getfield 38, 3) := by decide +kernel
theorem dX0_inchesOf_9 : decode cX0_inchesOf 9 = .ok (.iload_n 1, 1) := by decide +kernel
theorem dX0_inchesOf_10 : decode cX0_inchesOf 10 = .ok (.iaload, 1) := by decide +kernel
theorem dX0_inchesOf_11 : decode cX0_inchesOf 11 = .ok (.ireturn, 1) := by decide +kernel
theorem dX0_sealOf_0 : decode cX0_sealOf 0 = .ok (.aload_n 0, 1) := by decide +kernel
theorem dX0_sealOf_1 : decode cX0_sealOf 1 = .ok (.iload_n 1, 1) := by decide +kernel
theorem dX0_sealOf_2 : decode cX0_sealOf 2 = .ok (.invokevirtual 145, 3) := by decide +kernel
theorem dX0_sealOf_5 : decode cX0_sealOf 5 = .ok (.aload_n 0, 1) := by decide +kernel
theorem dX0_sealOf_6 : decode cX0_sealOf 6 = .ok (.getfield 35, 3) := by decide +kernel
theorem dX0_sealOf_9 : decode cX0_sealOf 9 = .ok (.iload_n 1, 1) := by decide +kernel
theorem dX0_sealOf_10 : decode cX0_sealOf 10 = .ok (.iaload, 1) := by decide +kernel
theorem dX0_sealOf_11 : decode cX0_sealOf 11 = .ok (.aload_n 0, 1) := by decide +kernel
theorem dX0_sealOf_12 : decode cX0_sealOf 12 = .ok (.getfield 38, 3) := by decide +kernel
theorem dX0_sealOf_15 : decode cX0_sealOf 15 = .ok (.iload_n 1, 1) := by decide +kernel
theorem dX0_sealOf_16 : decode cX0_sealOf 16 = .ok (.iaload, 1) := by decide +kernel
theorem dX0_sealOf_17 : decode cX0_sealOf 17 = .ok (.invokestatic 148, 3) := by decide +kernel
theorem dX0_sealOf_20 : decode cX0_sealOf 20 = .ok (.ireturn, 1) := by decide +kernel
theorem dX0_wouldCertify_0 : decode cX0_wouldCertify 0 = .ok (.aload_n 0, 1) := by decide +kernel
theorem dX0_wouldCertify_1 : decode cX0_wouldCertify 1 = .ok (.iload_n 1, 1) := by decide +kernel
theorem dX0_wouldCertify_2 : decode cX0_wouldCertify 2 = .ok (.invokevirtual 87, 3) := by decide +kernel
theorem dX0_wouldCertify_5 : decode cX0_wouldCertify 5 = .ok (.aload_n 0, 1) := by decide +kernel
theorem dX0_wouldCertify_6 : decode cX0_wouldCertify 6 = .ok (.iload_n 1, 1) := by decide +kernel
theorem dX0_wouldCertify_7 : decode cX0_wouldCertify 7 = .ok (.invokevirtual 95, 3) := by decide +kernel
theorem dX0_wouldCertify_10 : decode cX0_wouldCertify 10 = .ok (.ireturn, 1) := by decide +kernel
theorem dX0_wouldRefund_0 : decode cX0_wouldRefund 0 = .ok (.aload_n 0, 1) := by decide +kernel
theorem dX0_wouldRefund_1 : decode cX0_wouldRefund 1 = .ok (.iload_n 1, 1) := by decide +kernel
theorem dX0_wouldRefund_2 : decode cX0_wouldRefund 2 = .ok (.invokevirtual 64, 3) := by decide +kernel
theorem dX0_wouldRefund_5 : decode cX0_wouldRefund 5 = .ok (.aload_n 0, 1) := by decide +kernel
theorem dX0_wouldRefund_6 : decode cX0_wouldRefund 6 = .ok (.iload_n 2, 1) := by decide +kernel
theorem dX0_wouldRefund_7 : decode cX0_wouldRefund 7 = .ok (.invokevirtual 87, 3) := by decide +kernel
theorem dX0_wouldRefund_10 : decode cX0_wouldRefund 10 = .ok (.aload_n 0, 1) := by decide +kernel
theorem dX0_wouldRefund_11 : decode cX0_wouldRefund 11 = .ok (.iload_n 1, 1) := by decide +kernel
theorem dX0_wouldRefund_12 : decode cX0_wouldRefund 12 = .ok (.aload_n 0, 1) := by decide +kernel
theorem dX0_wouldRefund_13 : decode cX0_wouldRefund 13 = .ok (.iload_n 2, 1) := by decide +kernel
theorem dX0_wouldRefund_14 : decode cX0_wouldRefund 14 = .ok (.invokevirtual 95, 3) := by decide +kernel
theorem dX0_wouldRefund_17 : decode cX0_wouldRefund 17 = .ok (.invokevirtual 151, 3) := by decide +kernel
theorem dX0_wouldRefund_20 : decode cX0_wouldRefund 20 = .ok (.ireturn, 1) := by decide +kernel
theorem dX0_missesUntilShaken_0 : decode cX0_missesUntilShaken 0 = .ok (.aload_n 0, 1) := by decide +kernel
theorem dX0_missesUntilShaken_1 : decode cX0_missesUntilShaken 1 = .ok (.iload_n 1, 1) := by decide +kernel
theorem dX0_missesUntilShaken_2 : decode cX0_missesUntilShaken 2 = .ok (.invokevirtual 87, 3) := by decide +kernel
theorem dX0_missesUntilShaken_5 : decode cX0_missesUntilShaken 5 = .ok (.aload_n 0, 1) := by decide +kernel
theorem dX0_missesUntilShaken_6 : decode cX0_missesUntilShaken 6 = .ok (.invokevirtual 154, 3) := by decide +kernel
theorem dX0_missesUntilShaken_9 : decode cX0_missesUntilShaken 9 = .ok (.istore_n 2, 1) := by decide +kernel
theorem dX0_missesUntilShaken_10 : decode cX0_missesUntilShaken 10 = .ok (.aload_n 0, 1) := by decide +kernel
theorem dX0_missesUntilShaken_11 : decode cX0_missesUntilShaken 11 = .ok (.iload_n 2, 1) := by decide +kernel
theorem dX0_missesUntilShaken_12 : decode cX0_missesUntilShaken 12 = .ok (.invokevirtual 157, 3) := by decide +kernel
theorem dX0_missesUntilShaken_15 : decode cX0_missesUntilShaken 15 = .ok (.ifCond .ne 5, 3) := by decide +kernel
theorem dX0_missesUntilShaken_18 : decode cX0_missesUntilShaken 18 = .ok (.iconst 0, 1) := by decide +kernel
theorem dX0_missesUntilShaken_19 : decode cX0_missesUntilShaken 19 = .ok (.ireturn, 1) := by decide +kernel
theorem dX0_missesUntilShaken_20 : decode cX0_missesUntilShaken 20 = .ok (.iload_n 1, 1) := by decide +kernel
theorem dX0_missesUntilShaken_21 : decode cX0_missesUntilShaken 21 = .ok (.invokestatic 108, 3) := by decide +kernel
theorem dX0_missesUntilShaken_24 : decode cX0_missesUntilShaken 24 = .ok (.istore_n 3, 1) := by decide +kernel
theorem dX0_missesUntilShaken_25 : decode cX0_missesUntilShaken 25 = .ok (.iconst 0, 1) := by decide +kernel
theorem dX0_missesUntilShaken_26 : decode cX0_missesUntilShaken 26 = .ok (.istore 4, 2) := by decide +kernel
theorem dX0_missesUntilShaken_28 : decode cX0_missesUntilShaken 28 = .ok (.iload 4, 2) := by decide +kernel
theorem dX0_missesUntilShaken_30 : decode cX0_missesUntilShaken 30 = .ok (.bipush 9, 2) := by decide +kernel
theorem dX0_missesUntilShaken_32 : decode cX0_missesUntilShaken 32 = .ok (.if_icmp .ge 24, 3) := by decide +kernel
theorem dX0_missesUntilShaken_35 : decode cX0_missesUntilShaken 35 = .ok (.aload_n 0, 1) := by decide +kernel
theorem dX0_missesUntilShaken_36 : decode cX0_missesUntilShaken 36 = .ok (.getfield 26, 3) := by decide +kernel
theorem dX0_missesUntilShaken_39 : decode cX0_missesUntilShaken 39 = .ok (.iload_n 2, 1) := by decide +kernel
theorem dX0_missesUntilShaken_40 : decode cX0_missesUntilShaken 40 = .ok (.iaload, 1) := by decide +kernel
theorem dX0_missesUntilShaken_41 : decode cX0_missesUntilShaken 41 = .ok (.iload 4, 2) := by decide +kernel
theorem dX0_missesUntilShaken_43 : decode cX0_missesUntilShaken 43 = .ok (.iload_n 3, 1) := by decide +kernel
theorem dX0_missesUntilShaken_44 : decode cX0_missesUntilShaken 44 = .ok (.imul, 1) := by decide +kernel
theorem dX0_missesUntilShaken_45 : decode cX0_missesUntilShaken 45 = .ok (.isub, 1) := by decide +kernel
theorem dX0_missesUntilShaken_46 : decode cX0_missesUntilShaken 46 = .ok (.iconst 2, 1) := by decide +kernel
theorem dX0_missesUntilShaken_47 : decode cX0_missesUntilShaken 47 = .ok (.if_icmp .le 9, 3) := by decide +kernel
theorem dX0_missesUntilShaken_50 : decode cX0_missesUntilShaken 50 = .ok (.iinc 4 1, 3) := by decide +kernel
theorem dX0_missesUntilShaken_53 : decode cX0_missesUntilShaken 53 = .ok (.goto (-25), 3) := by decide +kernel
theorem dX0_missesUntilShaken_56 : decode cX0_missesUntilShaken 56 = .ok (.iload 4, 2) := by decide +kernel
theorem dX0_missesUntilShaken_58 : decode cX0_missesUntilShaken 58 = .ok (.ireturn, 1) := by decide +kernel
theorem dX0_nightsUntilCalm_0 : decode cX0_nightsUntilCalm 0 = .ok (.iconst 0, 1) := by decide +kernel
theorem dX0_nightsUntilCalm_1 : decode cX0_nightsUntilCalm 1 = .ok (.istore_n 1, 1) := by decide +kernel
theorem dX0_nightsUntilCalm_2 : decode cX0_nightsUntilCalm 2 = .ok (.iconst 0, 1) := by decide +kernel
theorem dX0_nightsUntilCalm_3 : decode cX0_nightsUntilCalm 3 = .ok (.istore_n 2, 1) := by decide +kernel
theorem dX0_nightsUntilCalm_4 : decode cX0_nightsUntilCalm 4 = .ok (.iload_n 2, 1) := by decide +kernel
theorem dX0_nightsUntilCalm_5 : decode cX0_nightsUntilCalm 5 = .ok (.aload_n 0, 1) := by decide +kernel
theorem dX0_nightsUntilCalm_6 : decode cX0_nightsUntilCalm 6 = .ok (.getfield 59, 3) := by decide +kernel
theorem dX0_nightsUntilCalm_9 : decode cX0_nightsUntilCalm 9 = .ok (.if_icmp .ge 19, 3) := by decide +kernel
theorem dX0_nightsUntilCalm_12 : decode cX0_nightsUntilCalm 12 = .ok (.iload_n 1, 1) := by decide +kernel
theorem dX0_nightsUntilCalm_13 : decode cX0_nightsUntilCalm 13 = .ok (.aload_n 0, 1) := by decide +kernel
theorem dX0_nightsUntilCalm_14 : decode cX0_nightsUntilCalm 14 = .ok (.iload_n 2, 1) := by decide +kernel
theorem dX0_nightsUntilCalm_15 : decode cX0_nightsUntilCalm 15 = .ok (.invokevirtual 160, 3) := by decide +kernel
theorem dX0_nightsUntilCalm_18 : decode cX0_nightsUntilCalm 18 = .ok (.invokestatic 102, 3) := by decide +kernel
theorem dX0_nightsUntilCalm_21 : decode cX0_nightsUntilCalm 21 = .ok (.istore_n 1, 1) := by decide +kernel
theorem dX0_nightsUntilCalm_22 : decode cX0_nightsUntilCalm 22 = .ok (.iinc 2 1, 3) := by decide +kernel
theorem dX0_nightsUntilCalm_25 : decode cX0_nightsUntilCalm 25 = .ok (.goto (-21), 3) := by decide +kernel
theorem dX0_nightsUntilCalm_28 : decode cX0_nightsUntilCalm 28 = .ok (.iload_n 1, 1) := by decide +kernel
theorem dX0_nightsUntilCalm_29 : decode cX0_nightsUntilCalm 29 = .ok (.ireturn, 1) := by decide +kernel
theorem dX0_steadiest_0 : decode cX0_steadiest 0 = .ok (.iconst (-1), 1) := by decide +kernel
theorem dX0_steadiest_1 : decode cX0_steadiest 1 = .ok (.istore_n 1, 1) := by decide +kernel
theorem dX0_steadiest_2 : decode cX0_steadiest 2 = .ok (.iconst (-1), 1) := by decide +kernel
theorem dX0_steadiest_3 : decode cX0_steadiest 3 = .ok (.istore_n 2, 1) := by decide +kernel
theorem dX0_steadiest_4 : decode cX0_steadiest 4 = .ok (.iconst 0, 1) := by decide +kernel
theorem dX0_steadiest_5 : decode cX0_steadiest 5 = .ok (.istore_n 3, 1) := by decide +kernel
theorem dX0_steadiest_6 : decode cX0_steadiest 6 = .ok (.iload_n 3, 1) := by decide +kernel
theorem dX0_steadiest_7 : decode cX0_steadiest 7 = .ok (.aload_n 0, 1) := by decide +kernel
theorem dX0_steadiest_8 : decode cX0_steadiest 8 = .ok (.getfield 59, 3) := by decide +kernel
theorem dX0_steadiest_11 : decode cX0_steadiest 11 = .ok (.if_icmp .ge 37, 3) := by decide +kernel
theorem dX0_steadiest_14 : decode cX0_steadiest 14 = .ok (.aload_n 0, 1) := by decide +kernel
theorem dX0_steadiest_15 : decode cX0_steadiest 15 = .ok (.getfield 29, 3) := by decide +kernel
theorem dX0_steadiest_18 : decode cX0_steadiest 18 = .ok (.iload_n 3, 1) := by decide +kernel
theorem dX0_steadiest_19 : decode cX0_steadiest 19 = .ok (.baload, 1) := by decide +kernel
theorem dX0_steadiest_20 : decode cX0_steadiest 20 = .ok (.ifCond .eq 22, 3) := by decide +kernel
theorem dX0_steadiest_23 : decode cX0_steadiest 23 = .ok (.aload_n 0, 1) := by decide +kernel
theorem dX0_steadiest_24 : decode cX0_steadiest 24 = .ok (.getfield 26, 3) := by decide +kernel
theorem dX0_steadiest_27 : decode cX0_steadiest 27 = .ok (.iload_n 3, 1) := by decide +kernel
theorem dX0_steadiest_28 : decode cX0_steadiest 28 = .ok (.iaload, 1) := by decide +kernel
theorem dX0_steadiest_29 : decode cX0_steadiest 29 = .ok (.iload_n 2, 1) := by decide +kernel
theorem dX0_steadiest_30 : decode cX0_steadiest 30 = .ok (.if_icmp .le 12, 3) := by decide +kernel
theorem dX0_steadiest_33 : decode cX0_steadiest 33 = .ok (.iload_n 3, 1) := by decide +kernel
theorem dX0_steadiest_34 : decode cX0_steadiest 34 = .ok (.istore_n 1, 1) := by decide +kernel
theorem dX0_steadiest_35 : decode cX0_steadiest 35 = .ok (.aload_n 0, 1) := by decide +kernel
theorem dX0_steadiest_36 : decode cX0_steadiest 36 = .ok (.getfield 26, 3) := by decide +kernel
theorem dX0_steadiest_39 : decode cX0_steadiest 39 = .ok (.iload_n 3, 1) := by decide +kernel
theorem dX0_steadiest_40 : decode cX0_steadiest 40 = .ok (.iaload, 1) := by decide +kernel
theorem dX0_steadiest_41 : decode cX0_steadiest 41 = .ok (.istore_n 2, 1) := by decide +kernel
theorem dX0_steadiest_42 : decode cX0_steadiest 42 = .ok (.iinc 3 1, 3) := by decide +kernel
theorem dX0_steadiest_45 : decode cX0_steadiest 45 = .ok (.goto (-39), 3) := by decide +kernel
theorem dX0_steadiest_48 : decode cX0_steadiest 48 = .ok (.iload_n 1, 1) := by decide +kernel
theorem dX0_steadiest_49 : decode cX0_steadiest 49 = .ok (.ireturn, 1) := by decide +kernel
theorem dX0_luckiest_0 : decode cX0_luckiest 0 = .ok (.iconst (-1), 1) := by decide +kernel
theorem dX0_luckiest_1 : decode cX0_luckiest 1 = .ok (.istore_n 1, 1) := by decide +kernel
theorem dX0_luckiest_2 : decode cX0_luckiest 2 = .ok (.iconst (-1), 1) := by decide +kernel
theorem dX0_luckiest_3 : decode cX0_luckiest 3 = .ok (.istore_n 2, 1) := by decide +kernel
theorem dX0_luckiest_4 : decode cX0_luckiest 4 = .ok (.iconst 0, 1) := by decide +kernel
theorem dX0_luckiest_5 : decode cX0_luckiest 5 = .ok (.istore_n 3, 1) := by decide +kernel
theorem dX0_luckiest_6 : decode cX0_luckiest 6 = .ok (.iload_n 3, 1) := by decide +kernel
theorem dX0_luckiest_7 : decode cX0_luckiest 7 = .ok (.aload_n 0, 1) := by decide +kernel
theorem dX0_luckiest_8 : decode cX0_luckiest 8 = .ok (.getfield 48, 3) := by decide +kernel
theorem dX0_luckiest_11 : decode cX0_luckiest 11 = .ok (.if_icmp .ge 37, 3) := by decide +kernel
theorem dX0_luckiest_14 : decode cX0_luckiest 14 = .ok (.aload_n 0, 1) := by decide +kernel
theorem dX0_luckiest_15 : decode cX0_luckiest 15 = .ok (.getfield 9, 3) := by decide +kernel
theorem dX0_luckiest_18 : decode cX0_luckiest 18 = .ok (.iload_n 3, 1) := by decide +kernel
theorem dX0_luckiest_19 : decode cX0_luckiest 19 = .ok (.baload, 1) := by decide +kernel
theorem dX0_luckiest_20 : decode cX0_luckiest 20 = .ok (.ifCond .eq 22, 3) := by decide +kernel
theorem dX0_luckiest_23 : decode cX0_luckiest 23 = .ok (.aload_n 0, 1) := by decide +kernel
theorem dX0_luckiest_24 : decode cX0_luckiest 24 = .ok (.getfield 13, 3) := by decide +kernel
theorem dX0_luckiest_27 : decode cX0_luckiest 27 = .ok (.iload_n 3, 1) := by decide +kernel
theorem dX0_luckiest_28 : decode cX0_luckiest 28 = .ok (.iaload, 1) := by decide +kernel
theorem dX0_luckiest_29 : decode cX0_luckiest 29 = .ok (.iload_n 2, 1) := by decide +kernel
theorem dX0_luckiest_30 : decode cX0_luckiest 30 = .ok (.if_icmp .le 12, 3) := by decide +kernel
theorem dX0_luckiest_33 : decode cX0_luckiest 33 = .ok (.iload_n 3, 1) := by decide +kernel
theorem dX0_luckiest_34 : decode cX0_luckiest 34 = .ok (.istore_n 1, 1) := by decide +kernel
theorem dX0_luckiest_35 : decode cX0_luckiest 35 = .ok (.aload_n 0, 1) := by decide +kernel
theorem dX0_luckiest_36 : decode cX0_luckiest 36 = .ok (.getfield 13, 3) := by decide +kernel
theorem dX0_luckiest_39 : decode cX0_luckiest 39 = .ok (.iload_n 3, 1) := by decide +kernel
theorem dX0_luckiest_40 : decode cX0_luckiest 40 = .ok (.iaload, 1) := by decide +kernel
theorem dX0_luckiest_41 : decode cX0_luckiest 41 = .ok (.istore_n 2, 1) := by decide +kernel
theorem dX0_luckiest_42 : decode cX0_luckiest 42 = .ok (.iinc 3 1, 3) := by decide +kernel
theorem dX0_luckiest_45 : decode cX0_luckiest 45 = .ok (.goto (-39), 3) := by decide +kernel
theorem dX0_luckiest_48 : decode cX0_luckiest 48 = .ok (.iload_n 1, 1) := by decide +kernel
theorem dX0_luckiest_49 : decode cX0_luckiest 49 = .ok (.ireturn, 1) := by decide +kernel
theorem dX0_meanLuck_0 : decode cX0_meanLuck 0 = .ok (.iconst 0, 1) := by decide +kernel
theorem dX0_meanLuck_1 : decode cX0_meanLuck 1 = .ok (.istore_n 1, 1) := by decide +kernel
theorem dX0_meanLuck_2 : decode cX0_meanLuck 2 = .ok (.iconst 0, 1) := by decide +kernel
theorem dX0_meanLuck_3 : decode cX0_meanLuck 3 = .ok (.istore_n 2, 1) := by decide +kernel
theorem dX0_meanLuck_4 : decode cX0_meanLuck 4 = .ok (.iconst 0, 1) := by decide +kernel
theorem dX0_meanLuck_5 : decode cX0_meanLuck 5 = .ok (.istore_n 3, 1) := by decide +kernel
theorem dX0_meanLuck_6 : decode cX0_meanLuck 6 = .ok (.iload_n 3, 1) := by decide +kernel
theorem dX0_meanLuck_7 : decode cX0_meanLuck 7 = .ok (.aload_n 0, 1) := by decide +kernel
theorem dX0_meanLuck_8 : decode cX0_meanLuck 8 = .ok (.getfield 48, 3) := by decide +kernel
theorem dX0_meanLuck_11 : decode cX0_meanLuck 11 = .ok (.if_icmp .ge 30, 3) := by decide +kernel
theorem dX0_meanLuck_14 : decode cX0_meanLuck 14 = .ok (.aload_n 0, 1) := by decide +kernel
theorem dX0_meanLuck_15 : decode cX0_meanLuck 15 = .ok (.getfield 9, 3) := by decide +kernel
theorem dX0_meanLuck_18 : decode cX0_meanLuck 18 = .ok (.iload_n 3, 1) := by decide +kernel
theorem dX0_meanLuck_19 : decode cX0_meanLuck 19 = .ok (.baload, 1) := by decide +kernel
theorem dX0_meanLuck_20 : decode cX0_meanLuck 20 = .ok (.ifCond .eq 15, 3) := by decide +kernel
theorem dX0_meanLuck_23 : decode cX0_meanLuck 23 = .ok (.iinc 1 1, 3) := by decide +kernel
theorem dX0_meanLuck_26 : decode cX0_meanLuck 26 = .ok (.iload_n 2, 1) := by decide +kernel
theorem dX0_meanLuck_27 : decode cX0_meanLuck 27 = .ok (.aload_n 0, 1) := by decide +kernel
theorem dX0_meanLuck_28 : decode cX0_meanLuck 28 = .ok (.getfield 13, 3) := by decide +kernel
theorem dX0_meanLuck_31 : decode cX0_meanLuck 31 = .ok (.iload_n 3, 1) := by decide +kernel
theorem dX0_meanLuck_32 : decode cX0_meanLuck 32 = .ok (.iaload, 1) := by decide +kernel
theorem dX0_meanLuck_33 : decode cX0_meanLuck 33 = .ok (.iadd, 1) := by decide +kernel
theorem dX0_meanLuck_34 : decode cX0_meanLuck 34 = .ok (.istore_n 2, 1) := by decide +kernel
theorem dX0_meanLuck_35 : decode cX0_meanLuck 35 = .ok (.iinc 3 1, 3) := by decide +kernel
theorem dX0_meanLuck_38 : decode cX0_meanLuck 38 = .ok (.goto (-32), 3) := by decide +kernel
theorem dX0_meanLuck_41 : decode cX0_meanLuck 41 = .ok (.iload_n 1, 1) := by decide +kernel
theorem dX0_meanLuck_42 : decode cX0_meanLuck 42 = .ok (.ifCond .ne 5, 3) := by decide +kernel
theorem dX0_meanLuck_45 : decode cX0_meanLuck 45 = .ok (.dconst 0, 1) := by decide +kernel
theorem dX0_meanLuck_46 : decode cX0_meanLuck 46 = .ok (.dreturn, 1) := by decide +kernel
theorem dX0_meanLuck_47 : decode cX0_meanLuck 47 = .ok (.iload_n 2, 1) := by decide +kernel
theorem dX0_meanLuck_48 : decode cX0_meanLuck 48 = .ok (.i2d, 1) := by decide +kernel
theorem dX0_meanLuck_49 : decode cX0_meanLuck 49 = .ok (.iload_n 1, 1) := by decide +kernel
theorem dX0_meanLuck_50 : decode cX0_meanLuck 50 = .ok (.i2d, 1) := by decide +kernel
theorem dX0_meanLuck_51 : decode cX0_meanLuck 51 = .ok (.ddiv, 1) := by decide +kernel
theorem dX0_meanLuck_52 : decode cX0_meanLuck 52 = .ok (.dreturn, 1) := by decide +kernel
theorem dX0_digest_0 : decode cX0_digest 0 = .ok (.aload_n 0, 1) := by decide +kernel
theorem dX0_digest_1 : decode cX0_digest 1 = .ok (.ldc2_w 163, 3) := by decide +kernel
theorem dX0_digest_4 : decode cX0_digest 4 = .ok (.invokevirtual 165, 3) := by decide +kernel
theorem dX0_digest_7 : decode cX0_digest 7 = .ok (.lstore_n 1, 1) := by decide +kernel
theorem dX0_digest_8 : decode cX0_digest 8 = .ok (.iconst 0, 1) := by decide +kernel
theorem dX0_digest_9 : decode cX0_digest 9 = .ok (.istore_n 3, 1) := by decide +kernel
theorem dX0_digest_10 : decode cX0_digest 10 = .ok (.iload_n 3, 1) := by decide +kernel
theorem dX0_digest_11 : decode cX0_digest 11 = .ok (.aload_n 0, 1) := by decide +kernel
theorem dX0_digest_12 : decode cX0_digest 12 = .ok (.getfield 48, 3) := by decide +kernel
theorem dX0_digest_15 : decode cX0_digest 15 = .ok (.if_icmp .ge 16, 3) := by decide +kernel
theorem dX0_digest_18 : decode cX0_digest 18 = .ok (.aload_n 0, 1) := by decide +kernel
theorem dX0_digest_19 : decode cX0_digest 19 = .ok (.lload_n 1, 1) := by decide +kernel
theorem dX0_digest_20 : decode cX0_digest 20 = .ok (.iload_n 3, 1) := by decide +kernel
theorem dX0_digest_21 : decode cX0_digest 21 = .ok (.invokevirtual 169, 3) := by decide +kernel
theorem dX0_digest_24 : decode cX0_digest 24 = .ok (.lstore_n 1, 1) := by decide +kernel
theorem dX0_digest_25 : decode cX0_digest 25 = .ok (.iinc 3 1, 3) := by decide +kernel
theorem dX0_digest_28 : decode cX0_digest 28 = .ok (.goto (-18), 3) := by decide +kernel
theorem dX0_digest_31 : decode cX0_digest 31 = .ok (.iconst 0, 1) := by decide +kernel
theorem dX0_digest_32 : decode cX0_digest 32 = .ok (.istore_n 3, 1) := by decide +kernel
theorem dX0_digest_33 : decode cX0_digest 33 = .ok (.iload_n 3, 1) := by decide +kernel
theorem dX0_digest_34 : decode cX0_digest 34 = .ok (.aload_n 0, 1) := by decide +kernel
theorem dX0_digest_35 : decode cX0_digest 35 = .ok (.getfield 59, 3) := by decide +kernel
theorem dX0_digest_38 : decode cX0_digest 38 = .ok (.if_icmp .ge 36, 3) := by decide +kernel
theorem dX0_digest_41 : decode cX0_digest 41 = .ok (.lload_n 1, 1) := by decide +kernel
theorem dX0_digest_42 : decode cX0_digest 42 = .ok (.aload_n 0, 1) := by decide +kernel
theorem dX0_digest_43 : decode cX0_digest 43 = .ok (.getfield 26, 3) := by decide +kernel
theorem dX0_digest_46 : decode cX0_digest 46 = .ok (.iload_n 3, 1) := by decide +kernel
theorem dX0_digest_47 : decode cX0_digest 47 = .ok (.iaload, 1) := by decide +kernel
theorem dX0_digest_48 : decode cX0_digest 48 = .ok (.i2l, 1) := by decide +kernel
theorem dX0_digest_49 : decode cX0_digest 49 = .ok (.invokestatic 173, 3) := by decide +kernel
theorem dX0_digest_52 : decode cX0_digest 52 = .ok (.lstore_n 1, 1) := by decide +kernel
theorem dX0_digest_53 : decode cX0_digest 53 = .ok (.lload_n 1, 1) := by decide +kernel
theorem dX0_digest_54 : decode cX0_digest 54 = .ok (.aload_n 0, 1) := by decide +kernel
theorem dX0_digest_55 : decode cX0_digest 55 = .ok (.getfield 29, 3) := by decide +kernel
theorem dX0_digest_58 : decode cX0_digest 58 = .ok (.iload_n 3, 1) := by decide +kernel
theorem dX0_digest_59 : decode cX0_digest 59 = .ok (.baload, 1) := by decide +kernel
theorem dX0_digest_60 : decode cX0_digest 60 = .ok (.invokestatic 177, 3) := by decide +kernel
theorem dX0_digest_63 : decode cX0_digest 63 = .ok (.i2l, 1) := by decide +kernel
theorem dX0_digest_64 : decode cX0_digest 64 = .ok (.invokestatic 173, 3) := by decide +kernel
theorem dX0_digest_67 : decode cX0_digest 67 = .ok (.lstore_n 1, 1) := by decide +kernel
theorem dX0_digest_68 : decode cX0_digest 68 = .ok (.iinc 3 1, 3) := by decide +kernel
theorem dX0_digest_71 : decode cX0_digest 71 = .ok (.goto (-38), 3) := by decide +kernel
theorem dX0_digest_74 : decode cX0_digest 74 = .ok (.aload_n 0, 1) := by decide +kernel
theorem dX0_digest_75 : decode cX0_digest 75 = .ok (.lload_n 1, 1) := by decide +kernel
theorem dX0_digest_76 : decode cX0_digest 76 = .ok (.invokevirtual 181, 3) := by decide +kernel
theorem dX0_digest_79 : decode cX0_digest 79 = .ok (.lreturn, 1) := by decide +kernel
theorem dX0_isPerson_0 : decode cX0_isPerson 0 = .ok (.iload_n 1, 1) := by decide +kernel
theorem dX0_isPerson_1 : decode cX0_isPerson 1 = .ok (.ifCond .lt 15, 3) := by decide +kernel
theorem dX0_isPerson_4 : decode cX0_isPerson 4 = .ok (.iload_n 1, 1) := by decide +kernel
theorem dX0_isPerson_5 : decode cX0_isPerson 5 = .ok (.aload_n 0, 1) := by decide +kernel
theorem dX0_isPerson_6 : decode cX0_isPerson 6 = .ok (.getfield 48, 3) := by decide +kernel
theorem dX0_isPerson_9 : decode cX0_isPerson 9 = .ok (.if_icmp .ge 7, 3) := by decide +kernel
theorem dX0_isPerson_12 : decode cX0_isPerson 12 = .ok (.iconst 1, 1) := by decide +kernel
theorem dX0_isPerson_13 : decode cX0_isPerson 13 = .ok (.goto 4, 3) := by decide +kernel
theorem dX0_isPerson_16 : decode cX0_isPerson 16 = .ok (.iconst 0, 1) := by decide +kernel
theorem dX0_isPerson_17 : decode cX0_isPerson 17 = .ok (.ireturn, 1) := by decide +kernel
theorem dX0_isWitness_0 : decode cX0_isWitness 0 = .ok (.iload_n 1, 1) := by decide +kernel
theorem dX0_isWitness_1 : decode cX0_isWitness 1 = .ok (.ifCond .lt 15, 3) := by decide +kernel
theorem dX0_isWitness_4 : decode cX0_isWitness 4 = .ok (.iload_n 1, 1) := by decide +kernel
theorem dX0_isWitness_5 : decode cX0_isWitness 5 = .ok (.aload_n 0, 1) := by decide +kernel
theorem dX0_isWitness_6 : decode cX0_isWitness 6 = .ok (.getfield 59, 3) := by decide +kernel
theorem dX0_isWitness_9 : decode cX0_isWitness 9 = .ok (.if_icmp .ge 7, 3) := by decide +kernel
theorem dX0_isWitness_12 : decode cX0_isWitness 12 = .ok (.iconst 1, 1) := by decide +kernel
theorem dX0_isWitness_13 : decode cX0_isWitness 13 = .ok (.goto 4, 3) := by decide +kernel
theorem dX0_isWitness_16 : decode cX0_isWitness 16 = .ok (.iconst 0, 1) := by decide +kernel
theorem dX0_isWitness_17 : decode cX0_isWitness 17 = .ok (.ireturn, 1) := by decide +kernel
theorem dX0_isShaken_0 : decode cX0_isShaken 0 = .ok (.aload_n 0, 1) := by decide +kernel
theorem dX0_isShaken_1 : decode cX0_isShaken 1 = .ok (.getfield 26, 3) := by decide +kernel
theorem dX0_isShaken_4 : decode cX0_isShaken 4 = .ok (.iload_n 1, 1) := by decide +kernel
theorem dX0_isShaken_5 : decode cX0_isShaken 5 = .ok (.iaload, 1) := by decide +kernel
theorem dX0_isShaken_6 : decode cX0_isShaken 6 = .ok (.iconst 2, 1) := by decide +kernel
theorem dX0_isShaken_7 : decode cX0_isShaken 7 = .ok (.if_icmp .gt 7, 3) := by decide +kernel
theorem dX0_isShaken_10 : decode cX0_isShaken 10 = .ok (.iconst 1, 1) := by decide +kernel
theorem dX0_isShaken_11 : decode cX0_isShaken 11 = .ok (.goto 4, 3) := by decide +kernel
theorem dX0_isShaken_14 : decode cX0_isShaken 14 = .ok (.iconst 0, 1) := by decide +kernel
theorem dX0_isShaken_15 : decode cX0_isShaken 15 = .ok (.ireturn, 1) := by decide +kernel
theorem dX0_requirePerson_0 : decode cX0_requirePerson 0 = .ok (.aload_n 0, 1) := by decide +kernel
theorem dX0_requirePerson_1 : decode cX0_requirePerson 1 = .ok (.iload_n 1, 1) := by decide +kernel
theorem dX0_requirePerson_2 : decode cX0_requirePerson 2 = .ok (.invokevirtual 117, 3) := by decide +kernel
theorem dX0_requirePerson_5 : decode cX0_requirePerson 5 = .ok (.ifCond .ne 13, 3) := by decide +kernel
theorem dX0_requirePerson_8 : decode cX0_requirePerson 8 = .ok (.new 184, 3) := by decide +kernel
theorem dX0_requirePerson_11 : decode cX0_requirePerson 11 = .ok (.dup, 1) := by decide +kernel
theorem dX0_requirePerson_12 : decode cX0_requirePerson 12 = .ok (.ldc 186, 2) := by decide +kernel
theorem dX0_requirePerson_14 : decode cX0_requirePerson 14 = .ok (.invokespecial 188, 3) := by decide +kernel
theorem dX0_requirePerson_17 : decode cX0_requirePerson 17 = .ok (.athrow, 1) := by decide +kernel
theorem dX0_requirePerson_18 : decode cX0_requirePerson 18 = .ok (.return_, 1) := by decide +kernel
theorem dX0_requireAlive_0 : decode cX0_requireAlive 0 = .ok (.aload_n 0, 1) := by decide +kernel
theorem dX0_requireAlive_1 : decode cX0_requireAlive 1 = .ok (.getfield 9, 3) := by decide +kernel
theorem dX0_requireAlive_4 : decode cX0_requireAlive 4 = .ok (.iload_n 1, 1) := by decide +kernel
theorem dX0_requireAlive_5 : decode cX0_requireAlive 5 = .ok (.baload, 1) := by decide +kernel
theorem dX0_requireAlive_6 : decode cX0_requireAlive 6 = .ok (.ifCond .ne 13, 3) := by decide +kernel
theorem dX0_requireAlive_9 : decode cX0_requireAlive 9 = .ok (.new 52, 3) := by decide +kernel
theorem dX0_requireAlive_12 : decode cX0_requireAlive 12 = .ok (.dup, 1) := by decide +kernel
theorem dX0_requireAlive_13 : decode cX0_requireAlive 13 = .ok (.ldc 189, 2) := by decide +kernel
theorem dX0_requireAlive_15 : decode cX0_requireAlive 15 = .ok (.invokespecial 56, 3) := by decide +kernel
theorem dX0_requireAlive_18 : decode cX0_requireAlive 18 = .ok (.athrow, 1) := by decide +kernel
theorem dX0_requireAlive_19 : decode cX0_requireAlive 19 = .ok (.return_, 1) := by decide +kernel
theorem dX0_requireWitness_0 : decode cX0_requireWitness 0 = .ok (.aload_n 0, 1) := by decide +kernel
theorem dX0_requireWitness_1 : decode cX0_requireWitness 1 = .ok (.iload_n 1, 1) := by decide +kernel
theorem dX0_requireWitness_2 : decode cX0_requireWitness 2 = .ok (.invokevirtual 157, 3) := by decide +kernel
theorem dX0_requireWitness_5 : decode cX0_requireWitness 5 = .ok (.ifCond .ne 13, 3) := by decide +kernel
theorem dX0_requireWitness_8 : decode cX0_requireWitness 8 = .ok (.new 184, 3) := by decide +kernel
theorem dX0_requireWitness_11 : decode cX0_requireWitness 11 = .ok (.dup, 1) := by decide +kernel
theorem dX0_requireWitness_12 : decode cX0_requireWitness 12 = .ok (.ldc 191, 2) := by decide +kernel
theorem dX0_requireWitness_14 : decode cX0_requireWitness 14 = .ok (.invokespecial 188, 3) := by decide +kernel
theorem dX0_requireWitness_17 : decode cX0_requireWitness 17 = .ok (.athrow, 1) := by decide +kernel
theorem dX0_requireWitness_18 : decode cX0_requireWitness 18 = .ok (.return_, 1) := by decide +kernel
theorem dX0_requireMiss_0 : decode cX0_requireMiss 0 = .ok (.iload_n 1, 1) := by decide +kernel
theorem dX0_requireMiss_1 : decode cX0_requireMiss 1 = .ok (.ifCond .lt 11, 3) := by decide +kernel
theorem dX0_requireMiss_4 : decode cX0_requireMiss 4 = .ok (.iload_n 1, 1) := by decide +kernel
theorem dX0_requireMiss_5 : decode cX0_requireMiss 5 = .ok (.aload_n 0, 1) := by decide +kernel
theorem dX0_requireMiss_6 : decode cX0_requireMiss 6 = .ok (.getfield 90, 3) := by decide +kernel
theorem dX0_requireMiss_9 : decode cX0_requireMiss 9 = .ok (.if_icmp .lt 13, 3) := by decide +kernel
theorem dX0_requireMiss_12 : decode cX0_requireMiss 12 = .ok (.new 184, 3) := by decide +kernel
theorem dX0_requireMiss_15 : decode cX0_requireMiss 15 = .ok (.dup, 1) := by decide +kernel
theorem dX0_requireMiss_16 : decode cX0_requireMiss 16 = .ok (.ldc 193, 2) := by decide +kernel
theorem dX0_requireMiss_18 : decode cX0_requireMiss 18 = .ok (.invokespecial 188, 3) := by decide +kernel
theorem dX0_requireMiss_21 : decode cX0_requireMiss 21 = .ok (.athrow, 1) := by decide +kernel
theorem dX0_requireMiss_22 : decode cX0_requireMiss 22 = .ok (.return_, 1) := by decide +kernel
theorem dX0_requireInches_0 : decode cX0_requireInches 0 = .ok (.iload_n 1, 1) := by decide +kernel
theorem dX0_requireInches_1 : decode cX0_requireInches 1 = .ok (.iconst 1, 1) := by decide +kernel
theorem dX0_requireInches_2 : decode cX0_requireInches 2 = .ok (.if_icmp .lt 9, 3) := by decide +kernel
theorem dX0_requireInches_5 : decode cX0_requireInches 5 = .ok (.iload_n 1, 1) := by decide +kernel
theorem dX0_requireInches_6 : decode cX0_requireInches 6 = .ok (.bipush 60, 2) := by decide +kernel
theorem dX0_requireInches_8 : decode cX0_requireInches 8 = .ok (.if_icmp .le 13, 3) := by decide +kernel
theorem dX0_requireInches_11 : decode cX0_requireInches 11 = .ok (.new 41, 3) := by decide +kernel
theorem dX0_requireInches_14 : decode cX0_requireInches 14 = .ok (.dup, 1) := by decide +kernel
theorem dX0_requireInches_15 : decode cX0_requireInches 15 = .ok (.ldc 195, 2) := by decide +kernel
theorem dX0_requireInches_17 : decode cX0_requireInches 17 = .ok (.invokespecial 45, 3) := by decide +kernel
theorem dX0_requireInches_20 : decode cX0_requireInches 20 = .ok (.athrow, 1) := by decide +kernel
theorem dX0_requireInches_21 : decode cX0_requireInches 21 = .ok (.return_, 1) := by decide +kernel
theorem dX0_fatePrice_0 : decode cX0_fatePrice 0 = .ok (.iconst 5, 1) := by decide +kernel
theorem dX0_fatePrice_1 : decode cX0_fatePrice 1 = .ok (.bipush 99, 2) := by decide +kernel
theorem dX0_fatePrice_3 : decode cX0_fatePrice 3 = .ok (.aload_n 0, 1) := by decide +kernel
theorem dX0_fatePrice_4 : decode cX0_fatePrice 4 = .ok (.getfield 13, 3) := by decide +kernel
theorem dX0_fatePrice_7 : decode cX0_fatePrice 7 = .ok (.iload_n 1, 1) := by decide +kernel
theorem dX0_fatePrice_8 : decode cX0_fatePrice 8 = .ok (.iaload, 1) := by decide +kernel
theorem dX0_fatePrice_9 : decode cX0_fatePrice 9 = .ok (.isub, 1) := by decide +kernel
theorem dX0_fatePrice_10 : decode cX0_fatePrice 10 = .ok (.bipush 10, 2) := by decide +kernel
theorem dX0_fatePrice_12 : decode cX0_fatePrice 12 = .ok (.idiv, 1) := by decide +kernel
theorem dX0_fatePrice_13 : decode cX0_fatePrice 13 = .ok (.iadd, 1) := by decide +kernel
theorem dX0_fatePrice_14 : decode cX0_fatePrice 14 = .ok (.ireturn, 1) := by decide +kernel
theorem dX0_findLastHeir_0 : decode cX0_findLastHeir 0 = .ok (.aload_n 0, 1) := by decide +kernel
theorem dX0_findLastHeir_1 : decode cX0_findLastHeir 1 = .ok (.getfield 23, 3) := by decide +kernel
theorem dX0_findLastHeir_4 : decode cX0_findLastHeir 4 = .ok (.iload_n 1, 1) := by decide +kernel
theorem dX0_findLastHeir_5 : decode cX0_findLastHeir 5 = .ok (.iaload, 1) := by decide +kernel
theorem dX0_findLastHeir_6 : decode cX0_findLastHeir 6 = .ok (.istore_n 2, 1) := by decide +kernel
theorem dX0_findLastHeir_7 : decode cX0_findLastHeir 7 = .ok (.iconst 0, 1) := by decide +kernel
theorem dX0_findLastHeir_8 : decode cX0_findLastHeir 8 = .ok (.istore_n 3, 1) := by decide +kernel
theorem dX0_findLastHeir_9 : decode cX0_findLastHeir 9 = .ok (.iload_n 3, 1) := by decide +kernel
theorem dX0_findLastHeir_10 : decode cX0_findLastHeir 10 = .ok (.aload_n 0, 1) := by decide +kernel
theorem dX0_findLastHeir_11 : decode cX0_findLastHeir 11 = .ok (.getfield 48, 3) := by decide +kernel
theorem dX0_findLastHeir_14 : decode cX0_findLastHeir 14 = .ok (.if_icmp .ge 42, 3) := by decide +kernel
theorem dX0_findLastHeir_17 : decode cX0_findLastHeir 17 = .ok (.aload_n 0, 1) := by decide +kernel
theorem dX0_findLastHeir_18 : decode cX0_findLastHeir 18 = .ok (.iload_n 2, 1) := by decide +kernel
theorem dX0_findLastHeir_19 : decode cX0_findLastHeir 19 = .ok (.invokevirtual 117, 3) := by decide +kernel
theorem dX0_findLastHeir_22 : decode cX0_findLastHeir 22 = .ok (.ifCond .eq 8, 3) := by decide +kernel
theorem dX0_findLastHeir_25 : decode cX0_findLastHeir 25 = .ok (.iload_n 2, 1) := by decide +kernel
theorem dX0_findLastHeir_26 : decode cX0_findLastHeir 26 = .ok (.iload_n 1, 1) := by decide +kernel
theorem dX0_findLastHeir_27 : decode cX0_findLastHeir 27 = .ok (.if_icmp .ne 5, 3) := by decide +kernel
theorem dX0_findLastHeir_30 : decode cX0_findLastHeir 30 = .ok (.iconst (-1), 1) := by decide +kernel
theorem dX0_findLastHeir_31 : decode cX0_findLastHeir 31 = .ok (.ireturn, 1) := by decide +kernel
theorem dX0_findLastHeir_32 : decode cX0_findLastHeir 32 = .ok (.aload_n 0, 1) := by decide +kernel
theorem dX0_findLastHeir_33 : decode cX0_findLastHeir 33 = .ok (.getfield 9, 3) := by decide +kernel
theorem dX0_findLastHeir_36 : decode cX0_findLastHeir 36 = .ok (.iload_n 2, 1) := by decide +kernel
theorem dX0_findLastHeir_37 : decode cX0_findLastHeir 37 = .ok (.baload, 1) := by decide +kernel
theorem dX0_findLastHeir_38 : decode cX0_findLastHeir 38 = .ok (.ifCond .eq 5, 3) := by decide +kernel
theorem dX0_findLastHeir_41 : decode cX0_findLastHeir 41 = .ok (.iload_n 2, 1) := by decide +kernel
theorem dX0_findLastHeir_42 : decode cX0_findLastHeir 42 = .ok (.ireturn, 1) := by decide +kernel
theorem dX0_findLastHeir_43 : decode cX0_findLastHeir 43 = .ok (.aload_n 0, 1) := by decide +kernel
theorem dX0_findLastHeir_44 : decode cX0_findLastHeir 44 = .ok (.getfield 23, 3) := by decide +kernel
theorem dX0_findLastHeir_47 : decode cX0_findLastHeir 47 = .ok (.iload_n 2, 1) := by decide +kernel
theorem dX0_findLastHeir_48 : decode cX0_findLastHeir 48 = .ok (.iaload, 1) := by decide +kernel
theorem dX0_findLastHeir_49 : decode cX0_findLastHeir 49 = .ok (.istore_n 2, 1) := by decide +kernel
theorem dX0_findLastHeir_50 : decode cX0_findLastHeir 50 = .ok (.iinc 3 1, 3) := by decide +kernel
theorem dX0_findLastHeir_53 : decode cX0_findLastHeir 53 = .ok (.goto (-44), 3) := by decide +kernel
theorem dX0_findLastHeir_56 : decode cX0_findLastHeir 56 = .ok (.iconst (-1), 1) := by decide +kernel
theorem dX0_findLastHeir_57 : decode cX0_findLastHeir 57 = .ok (.ireturn, 1) := by decide +kernel
theorem dX0_tale_0 : decode cX0_tale 0 = .ok (.aload_n 0, 1) := by decide +kernel
theorem dX0_tale_1 : decode cX0_tale 1 = .ok (.iload_n 1, 1) := by decide +kernel
theorem dX0_tale_2 : decode cX0_tale 2 = .ok (.invokevirtual 136, 3) := by decide +kernel
theorem dX0_tale_5 : decode cX0_tale 5 = .ok (.ifCond .eq 5, 3) := by decide +kernel
theorem dX0_tale_8 : decode cX0_tale 8 = .ok (.iconst 0, 1) := by decide +kernel
theorem dX0_tale_9 : decode cX0_tale 9 = .ok (.ireturn, 1) := by decide +kernel
theorem dX0_tale_10 : decode cX0_tale 10 = .ok (.iconst 1, 1) := by decide +kernel
theorem dX0_tale_11 : decode cX0_tale 11 = .ok (.iload_n 2, 1) := by decide +kernel
theorem dX0_tale_12 : decode cX0_tale 12 = .ok (.bipush 9, 2) := by decide +kernel
theorem dX0_tale_14 : decode cX0_tale 14 = .ok (.aload_n 0, 1) := by decide +kernel
theorem dX0_tale_15 : decode cX0_tale 15 = .ok (.getfield 26, 3) := by decide +kernel
theorem dX0_tale_18 : decode cX0_tale 18 = .ok (.iload_n 1, 1) := by decide +kernel
theorem dX0_tale_19 : decode cX0_tale 19 = .ok (.iaload, 1) := by decide +kernel
theorem dX0_tale_20 : decode cX0_tale 20 = .ok (.isub, 1) := by decide +kernel
theorem dX0_tale_21 : decode cX0_tale 21 = .ok (.iconst 2, 1) := by decide +kernel
theorem dX0_tale_22 : decode cX0_tale 22 = .ok (.idiv, 1) := by decide +kernel
theorem dX0_tale_23 : decode cX0_tale 23 = .ok (.isub, 1) := by decide +kernel
theorem dX0_tale_24 : decode cX0_tale 24 = .ok (.invokestatic 102, 3) := by decide +kernel
theorem dX0_tale_27 : decode cX0_tale 27 = .ok (.ireturn, 1) := by decide +kernel
theorem dX0_middleTale_0 : decode cX0_middleTale 0 = .ok (.iconst 0, 1) := by decide +kernel
theorem dX0_middleTale_1 : decode cX0_middleTale 1 = .ok (.istore_n 2, 1) := by decide +kernel
theorem dX0_middleTale_2 : decode cX0_middleTale 2 = .ok (.iconst 0, 1) := by decide +kernel
theorem dX0_middleTale_3 : decode cX0_middleTale 3 = .ok (.istore_n 3, 1) := by decide +kernel
theorem dX0_middleTale_4 : decode cX0_middleTale 4 = .ok (.iload_n 3, 1) := by decide +kernel
theorem dX0_middleTale_5 : decode cX0_middleTale 5 = .ok (.aload_n 0, 1) := by decide +kernel
theorem dX0_middleTale_6 : decode cX0_middleTale 6 = .ok (.getfield 59, 3) := by decide +kernel
theorem dX0_middleTale_9 : decode cX0_middleTale 9 = .ok (.if_icmp .ge 40, 3) := by decide +kernel
theorem dX0_middleTale_12 : decode cX0_middleTale 12 = .ok (.aload_n 0, 1) := by decide +kernel
theorem dX0_middleTale_13 : decode cX0_middleTale 13 = .ok (.getfield 29, 3) := by decide +kernel
theorem dX0_middleTale_16 : decode cX0_middleTale 16 = .ok (.iload_n 3, 1) := by decide +kernel
theorem dX0_middleTale_17 : decode cX0_middleTale 17 = .ok (.baload, 1) := by decide +kernel
theorem dX0_middleTale_18 : decode cX0_middleTale 18 = .ok (.ifCond .eq 25, 3) := by decide +kernel
theorem dX0_middleTale_21 : decode cX0_middleTale 21 = .ok (.aload_n 0, 1) := by decide +kernel
theorem dX0_middleTale_22 : decode cX0_middleTale 22 = .ok (.iload_n 3, 1) := by decide +kernel
theorem dX0_middleTale_23 : decode cX0_middleTale 23 = .ok (.invokevirtual 136, 3) := by decide +kernel
theorem dX0_middleTale_26 : decode cX0_middleTale 26 = .ok (.ifCond .ne 17, 3) := by decide +kernel
theorem dX0_middleTale_29 : decode cX0_middleTale 29 = .ok (.aload_n 0, 1) := by decide +kernel
theorem dX0_middleTale_30 : decode cX0_middleTale 30 = .ok (.iload_n 2, 1) := by decide +kernel
theorem dX0_middleTale_31 : decode cX0_middleTale 31 = .ok (.aload_n 0, 1) := by decide +kernel
theorem dX0_middleTale_32 : decode cX0_middleTale 32 = .ok (.iload_n 3, 1) := by decide +kernel
theorem dX0_middleTale_33 : decode cX0_middleTale 33 = .ok (.iload_n 1, 1) := by decide +kernel
theorem dX0_middleTale_34 : decode cX0_middleTale 34 = .ok (.invokevirtual 142, 3) := by decide +kernel
theorem dX0_middleTale_37 : decode cX0_middleTale 37 = .ok (.invokevirtual 197, 3) := by decide +kernel
theorem dX0_middleTale_40 : decode cX0_middleTale 40 = .ok (.iinc 2 1, 3) := by decide +kernel
theorem dX0_middleTale_43 : decode cX0_middleTale 43 = .ok (.iinc 3 1, 3) := by decide +kernel
theorem dX0_middleTale_46 : decode cX0_middleTale 46 = .ok (.goto (-42), 3) := by decide +kernel
theorem dX0_middleTale_49 : decode cX0_middleTale 49 = .ok (.iload_n 2, 1) := by decide +kernel
theorem dX0_middleTale_50 : decode cX0_middleTale 50 = .ok (.ifCond .ne 5, 3) := by decide +kernel
theorem dX0_middleTale_53 : decode cX0_middleTale 53 = .ok (.iconst 0, 1) := by decide +kernel
theorem dX0_middleTale_54 : decode cX0_middleTale 54 = .ok (.ireturn, 1) := by decide +kernel
theorem dX0_middleTale_55 : decode cX0_middleTale 55 = .ok (.aload_n 0, 1) := by decide +kernel
theorem dX0_middleTale_56 : decode cX0_middleTale 56 = .ok (.getfield 32, 3) := by decide +kernel
theorem dX0_middleTale_59 : decode cX0_middleTale 59 = .ok (.iload_n 2, 1) := by decide +kernel
theorem dX0_middleTale_60 : decode cX0_middleTale 60 = .ok (.iconst 1, 1) := by decide +kernel
theorem dX0_middleTale_61 : decode cX0_middleTale 61 = .ok (.isub, 1) := by decide +kernel
theorem dX0_middleTale_62 : decode cX0_middleTale 62 = .ok (.iconst 2, 1) := by decide +kernel
theorem dX0_middleTale_63 : decode cX0_middleTale 63 = .ok (.idiv, 1) := by decide +kernel
theorem dX0_middleTale_64 : decode cX0_middleTale 64 = .ok (.iaload, 1) := by decide +kernel
theorem dX0_middleTale_65 : decode cX0_middleTale 65 = .ok (.ireturn, 1) := by decide +kernel
theorem dX0_insertTale_0 : decode cX0_insertTale 0 = .ok (.iload_n 1, 1) := by decide +kernel
theorem dX0_insertTale_1 : decode cX0_insertTale 1 = .ok (.istore_n 3, 1) := by decide +kernel
theorem dX0_insertTale_2 : decode cX0_insertTale 2 = .ok (.iload_n 3, 1) := by decide +kernel
theorem dX0_insertTale_3 : decode cX0_insertTale 3 = .ok (.ifCond .le 35, 3) := by decide +kernel
theorem dX0_insertTale_6 : decode cX0_insertTale 6 = .ok (.aload_n 0, 1) := by decide +kernel
theorem dX0_insertTale_7 : decode cX0_insertTale 7 = .ok (.getfield 32, 3) := by decide +kernel
theorem dX0_insertTale_10 : decode cX0_insertTale 10 = .ok (.iload_n 3, 1) := by decide +kernel
theorem dX0_insertTale_11 : decode cX0_insertTale 11 = .ok (.iconst 1, 1) := by decide +kernel
theorem dX0_insertTale_12 : decode cX0_insertTale 12 = .ok (.isub, 1) := by decide +kernel
theorem dX0_insertTale_13 : decode cX0_insertTale 13 = .ok (.iaload, 1) := by decide +kernel
theorem dX0_insertTale_14 : decode cX0_insertTale 14 = .ok (.iload_n 2, 1) := by decide +kernel
theorem dX0_insertTale_15 : decode cX0_insertTale 15 = .ok (.if_icmp .le 23, 3) := by decide +kernel
theorem dX0_insertTale_18 : decode cX0_insertTale 18 = .ok (.aload_n 0, 1) := by decide +kernel
theorem dX0_insertTale_19 : decode cX0_insertTale 19 = .ok (.getfield 32, 3) := by decide +kernel
theorem dX0_insertTale_22 : decode cX0_insertTale 22 = .ok (.iload_n 3, 1) := by decide +kernel
theorem dX0_insertTale_23 : decode cX0_insertTale 23 = .ok (.aload_n 0, 1) := by decide +kernel
theorem dX0_insertTale_24 : decode cX0_insertTale 24 = .ok (.getfield 32, 3) := by decide +kernel
theorem dX0_insertTale_27 : decode cX0_insertTale 27 = .ok (.iload_n 3, 1) := by decide +kernel
theorem dX0_insertTale_28 : decode cX0_insertTale 28 = .ok (.iconst 1, 1) := by decide +kernel
theorem dX0_insertTale_29 : decode cX0_insertTale 29 = .ok (.isub, 1) := by decide +kernel
theorem dX0_insertTale_30 : decode cX0_insertTale 30 = .ok (.iaload, 1) := by decide +kernel
theorem dX0_insertTale_31 : decode cX0_insertTale 31 = .ok (.iastore, 1) := by decide +kernel
theorem dX0_insertTale_32 : decode cX0_insertTale 32 = .ok (.iinc 3 (-1), 3) := by decide +kernel
theorem dX0_insertTale_35 : decode cX0_insertTale 35 = .ok (.goto (-33), 3) := by decide +kernel
theorem dX0_insertTale_38 : decode cX0_insertTale 38 = .ok (.aload_n 0, 1) := by decide +kernel
theorem dX0_insertTale_39 : decode cX0_insertTale 39 = .ok (.getfield 32, 3) := by decide +kernel
theorem dX0_insertTale_42 : decode cX0_insertTale 42 = .ok (.iload_n 3, 1) := by decide +kernel
theorem dX0_insertTale_43 : decode cX0_insertTale 43 = .ok (.iload_n 2, 1) := by decide +kernel
theorem dX0_insertTale_44 : decode cX0_insertTale 44 = .ok (.iastore, 1) := by decide +kernel
theorem dX0_insertTale_45 : decode cX0_insertTale 45 = .ok (.return_, 1) := by decide +kernel
theorem dX0_usesFate_0 : decode cX0_usesFate 0 = .ok (.aload_n 0, 1) := by decide +kernel
theorem dX0_usesFate_1 : decode cX0_usesFate 1 = .ok (.getfield 9, 3) := by decide +kernel
theorem dX0_usesFate_4 : decode cX0_usesFate 4 = .ok (.iload_n 1, 1) := by decide +kernel
theorem dX0_usesFate_5 : decode cX0_usesFate 5 = .ok (.baload, 1) := by decide +kernel
theorem dX0_usesFate_6 : decode cX0_usesFate 6 = .ok (.ifCond .eq 26, 3) := by decide +kernel
theorem dX0_usesFate_9 : decode cX0_usesFate 9 = .ok (.aload_n 0, 1) := by decide +kernel
theorem dX0_usesFate_10 : decode cX0_usesFate 10 = .ok (.getfield 20, 3) := by decide +kernel
theorem dX0_usesFate_13 : decode cX0_usesFate 13 = .ok (.iload_n 1, 1) := by decide +kernel
theorem dX0_usesFate_14 : decode cX0_usesFate 14 = .ok (.iaload, 1) := by decide +kernel
theorem dX0_usesFate_15 : decode cX0_usesFate 15 = .ok (.ifCond .le 17, 3) := by decide +kernel
theorem dX0_usesFate_18 : decode cX0_usesFate 18 = .ok (.iload_n 2, 1) := by decide +kernel
theorem dX0_usesFate_19 : decode cX0_usesFate 19 = .ok (.ifCond .le 13, 3) := by decide +kernel
theorem dX0_usesFate_22 : decode cX0_usesFate 22 = .ok (.iload_n 2, 1) := by decide +kernel
theorem dX0_usesFate_23 : decode cX0_usesFate 23 = .ok (.bipush 24, 2) := by decide +kernel
theorem dX0_usesFate_25 : decode cX0_usesFate 25 = .ok (.if_icmp .gt 7, 3) := by decide +kernel
theorem dX0_usesFate_28 : decode cX0_usesFate 28 = .ok (.iconst 1, 1) := by decide +kernel
theorem dX0_usesFate_29 : decode cX0_usesFate 29 = .ok (.goto 4, 3) := by decide +kernel
theorem dX0_usesFate_32 : decode cX0_usesFate 32 = .ok (.iconst 0, 1) := by decide +kernel
theorem dX0_usesFate_33 : decode cX0_usesFate 33 = .ok (.ireturn, 1) := by decide +kernel
theorem dX0_refundCoins_0 : decode cX0_refundCoins 0 = .ok (.aload_n 0, 1) := by decide +kernel
theorem dX0_refundCoins_1 : decode cX0_refundCoins 1 = .ok (.iload_n 1, 1) := by decide +kernel
theorem dX0_refundCoins_2 : decode cX0_refundCoins 2 = .ok (.iload_n 2, 1) := by decide +kernel
theorem dX0_refundCoins_3 : decode cX0_refundCoins 3 = .ok (.invokevirtual 200, 3) := by decide +kernel
theorem dX0_refundCoins_6 : decode cX0_refundCoins 6 = .ok (.ifCond .ne 5, 3) := by decide +kernel
theorem dX0_refundCoins_9 : decode cX0_refundCoins 9 = .ok (.iconst 0, 1) := by decide +kernel
theorem dX0_refundCoins_10 : decode cX0_refundCoins 10 = .ok (.ireturn, 1) := by decide +kernel
theorem dX0_refundCoins_11 : decode cX0_refundCoins 11 = .ok (.aload_n 0, 1) := by decide +kernel
theorem dX0_refundCoins_12 : decode cX0_refundCoins 12 = .ok (.getfield 81, 3) := by decide +kernel
theorem dX0_refundCoins_15 : decode cX0_refundCoins 15 = .ok (.aload_n 0, 1) := by decide +kernel
theorem dX0_refundCoins_16 : decode cX0_refundCoins 16 = .ok (.iload_n 1, 1) := by decide +kernel
theorem dX0_refundCoins_17 : decode cX0_refundCoins 17 = .ok (.invokevirtual 75, 3) := by decide +kernel
theorem dX0_refundCoins_20 : decode cX0_refundCoins 20 = .ok (.bipush 24, 2) := by decide +kernel
theorem dX0_refundCoins_22 : decode cX0_refundCoins 22 = .ok (.iadd, 1) := by decide +kernel
theorem dX0_refundCoins_23 : decode cX0_refundCoins 23 = .ok (.iload_n 2, 1) := by decide +kernel
theorem dX0_refundCoins_24 : decode cX0_refundCoins 24 = .ok (.isub, 1) := by decide +kernel
theorem dX0_refundCoins_25 : decode cX0_refundCoins 25 = .ok (.invokestatic 121, 3) := by decide +kernel
theorem dX0_refundCoins_28 : decode cX0_refundCoins 28 = .ok (.ireturn, 1) := by decide +kernel
theorem dX0_refundFate_0 : decode cX0_refundFate 0 = .ok (.aload_n 0, 1) := by decide +kernel
theorem dX0_refundFate_1 : decode cX0_refundFate 1 = .ok (.iload_n 1, 1) := by decide +kernel
theorem dX0_refundFate_2 : decode cX0_refundFate 2 = .ok (.iload_n 2, 1) := by decide +kernel
theorem dX0_refundFate_3 : decode cX0_refundFate 3 = .ok (.invokevirtual 200, 3) := by decide +kernel
theorem dX0_refundFate_6 : decode cX0_refundFate 6 = .ok (.ifCond .eq 50, 3) := by decide +kernel
theorem dX0_refundFate_9 : decode cX0_refundFate 9 = .ok (.aload_n 0, 1) := by decide +kernel
theorem dX0_refundFate_10 : decode cX0_refundFate 10 = .ok (.iload_n 1, 1) := by decide +kernel
theorem dX0_refundFate_11 : decode cX0_refundFate 11 = .ok (.iload_n 2, 1) := by decide +kernel
theorem dX0_refundFate_12 : decode cX0_refundFate 12 = .ok (.invokevirtual 151, 3) := by decide +kernel
theorem dX0_refundFate_15 : decode cX0_refundFate 15 = .ok (.istore_n 3, 1) := by decide +kernel
theorem dX0_refundFate_16 : decode cX0_refundFate 16 = .ok (.aload_n 0, 1) := by decide +kernel
theorem dX0_refundFate_17 : decode cX0_refundFate 17 = .ok (.getfield 20, 3) := by decide +kernel
theorem dX0_refundFate_20 : decode cX0_refundFate 20 = .ok (.iload_n 1, 1) := by decide +kernel
theorem dX0_refundFate_21 : decode cX0_refundFate 21 = .ok (.dup2, 1) := by decide +kernel
theorem dX0_refundFate_22 : decode cX0_refundFate 22 = .ok (.iaload, 1) := by decide +kernel
theorem dX0_refundFate_23 : decode cX0_refundFate 23 = .ok (.iconst 1, 1) := by decide +kernel
theorem dX0_refundFate_24 : decode cX0_refundFate 24 = .ok (.isub, 1) := by decide +kernel
theorem dX0_refundFate_25 : decode cX0_refundFate 25 = .ok (.iastore, 1) := by decide +kernel
theorem dX0_refundFate_26 : decode cX0_refundFate 26 = .ok (.aload_n 0, 1) := by decide +kernel
theorem dX0_refundFate_27 : decode cX0_refundFate 27 = .ok (.dup, 1) := by decide +kernel
theorem dX0_refundFate_28 : decode cX0_refundFate 28 = .ok (.getfield 81, 3) := by decide +kernel
theorem dX0_refundFate_31 : decode cX0_refundFate 31 = .ok (.iload_n 3, 1) := by decide +kernel
theorem dX0_refundFate_32 : decode cX0_refundFate 32 = .ok (.isub, 1) := by decide +kernel
theorem dX0_refundFate_33 : decode cX0_refundFate 33 = .ok (.putfield 81, 3) := by decide +kernel
theorem dX0_refundFate_36 : decode cX0_refundFate 36 = .ok (.aload_n 0, 1) := by decide +kernel
theorem dX0_refundFate_37 : decode cX0_refundFate 37 = .ok (.getfield 17, 3) := by decide +kernel
theorem dX0_refundFate_40 : decode cX0_refundFate 40 = .ok (.iload_n 1, 1) := by decide +kernel
theorem dX0_refundFate_41 : decode cX0_refundFate 41 = .ok (.dup2, 1) := by decide +kernel
theorem dX0_refundFate_42 : decode cX0_refundFate 42 = .ok (.iaload, 1) := by decide +kernel
theorem dX0_refundFate_43 : decode cX0_refundFate 43 = .ok (.iload_n 3, 1) := by decide +kernel
theorem dX0_refundFate_44 : decode cX0_refundFate 44 = .ok (.iadd, 1) := by decide +kernel
theorem dX0_refundFate_45 : decode cX0_refundFate 45 = .ok (.iastore, 1) := by decide +kernel
theorem dX0_refundFate_46 : decode cX0_refundFate 46 = .ok (.aload_n 0, 1) := by decide +kernel
theorem dX0_refundFate_47 : decode cX0_refundFate 47 = .ok (.dup, 1) := by decide +kernel
theorem dX0_refundFate_48 : decode cX0_refundFate 48 = .ok (.getfield 139, 3) := by decide +kernel
theorem dX0_refundFate_51 : decode cX0_refundFate 51 = .ok (.iload_n 3, 1) := by decide +kernel
theorem dX0_refundFate_52 : decode cX0_refundFate 52 = .ok (.iadd, 1) := by decide +kernel
theorem dX0_refundFate_53 : decode cX0_refundFate 53 = .ok (.putfield 139, 3) := by decide +kernel
theorem dX0_refundFate_56 : decode cX0_refundFate 56 = .ok (.return_, 1) := by decide +kernel
theorem dX0_nerveLoss_0 : decode cX0_nerveLoss 0 = .ok (.iload_n 0, 1) := by decide +kernel
theorem dX0_nerveLoss_1 : decode cX0_nerveLoss 1 = .ok (.iconst 5, 1) := by decide +kernel
theorem dX0_nerveLoss_2 : decode cX0_nerveLoss 2 = .ok (.if_icmp .gt 5, 3) := by decide +kernel
theorem dX0_nerveLoss_5 : decode cX0_nerveLoss 5 = .ok (.iconst 3, 1) := by decide +kernel
theorem dX0_nerveLoss_6 : decode cX0_nerveLoss 6 = .ok (.ireturn, 1) := by decide +kernel
theorem dX0_nerveLoss_7 : decode cX0_nerveLoss 7 = .ok (.iload_n 0, 1) := by decide +kernel
theorem dX0_nerveLoss_8 : decode cX0_nerveLoss 8 = .ok (.bipush 12, 2) := by decide +kernel
theorem dX0_nerveLoss_10 : decode cX0_nerveLoss 10 = .ok (.if_icmp .gt 7, 3) := by decide +kernel
theorem dX0_nerveLoss_13 : decode cX0_nerveLoss 13 = .ok (.iconst 2, 1) := by decide +kernel
theorem dX0_nerveLoss_14 : decode cX0_nerveLoss 14 = .ok (.goto 4, 3) := by decide +kernel
theorem dX0_nerveLoss_17 : decode cX0_nerveLoss 17 = .ok (.iconst 1, 1) := by decide +kernel
theorem dX0_nerveLoss_18 : decode cX0_nerveLoss 18 = .ok (.ireturn, 1) := by decide +kernel
theorem dX0_nerveGain_0 : decode cX0_nerveGain 0 = .ok (.iload_n 0, 1) := by decide +kernel
theorem dX0_nerveGain_1 : decode cX0_nerveGain 1 = .ok (.ifCond .eq 7, 3) := by decide +kernel
theorem dX0_nerveGain_4 : decode cX0_nerveGain 4 = .ok (.iconst 1, 1) := by decide +kernel
theorem dX0_nerveGain_5 : decode cX0_nerveGain 5 = .ok (.goto 4, 3) := by decide +kernel
theorem dX0_nerveGain_8 : decode cX0_nerveGain 8 = .ok (.iconst 2, 1) := by decide +kernel
theorem dX0_nerveGain_9 : decode cX0_nerveGain 9 = .ok (.ireturn, 1) := by decide +kernel
theorem dX0_frightenWitnesses_0 : decode cX0_frightenWitnesses 0 = .ok (.iconst 0, 1) := by decide +kernel
theorem dX0_frightenWitnesses_1 : decode cX0_frightenWitnesses 1 = .ok (.istore_n 2, 1) := by decide +kernel
theorem dX0_frightenWitnesses_2 : decode cX0_frightenWitnesses 2 = .ok (.iload_n 2, 1) := by decide +kernel
theorem dX0_frightenWitnesses_3 : decode cX0_frightenWitnesses 3 = .ok (.aload_n 0, 1) := by decide +kernel
theorem dX0_frightenWitnesses_4 : decode cX0_frightenWitnesses 4 = .ok (.getfield 59, 3) := by decide +kernel
theorem dX0_frightenWitnesses_7 : decode cX0_frightenWitnesses 7 = .ok (.if_icmp .ge 36, 3) := by decide +kernel
theorem dX0_frightenWitnesses_10 : decode cX0_frightenWitnesses 10 = .ok (.aload_n 0, 1) := by decide +kernel
theorem dX0_frightenWitnesses_11 : decode cX0_frightenWitnesses 11 = .ok (.getfield 29, 3) := by decide +kernel
theorem dX0_frightenWitnesses_14 : decode cX0_frightenWitnesses 14 = .ok (.iload_n 2, 1) := by decide +kernel
theorem dX0_frightenWitnesses_15 : decode cX0_frightenWitnesses 15 = .ok (.baload, 1) := by decide +kernel
theorem dX0_frightenWitnesses_16 : decode cX0_frightenWitnesses 16 = .ok (.ifCond .eq 21, 3) := by decide +kernel
theorem dX0_frightenWitnesses_19 : decode cX0_frightenWitnesses 19 = .ok (.aload_n 0, 1) := by decide +kernel
theorem dX0_frightenWitnesses_20 : decode cX0_frightenWitnesses 20 = .ok (.getfield 26, 3) := by decide +kernel
theorem dX0_frightenWitnesses_23 : decode cX0_frightenWitnesses 23 = .ok (.iload_n 2, 1) := by decide +kernel
theorem dX0_frightenWitnesses_24 : decode cX0_frightenWitnesses 24 = .ok (.iconst 0, 1) := by decide +kernel
theorem dX0_frightenWitnesses_25 : decode cX0_frightenWitnesses 25 = .ok (.aload_n 0, 1) := by decide +kernel
theorem dX0_frightenWitnesses_26 : decode cX0_frightenWitnesses 26 = .ok (.getfield 26, 3) := by decide +kernel
theorem dX0_frightenWitnesses_29 : decode cX0_frightenWitnesses 29 = .ok (.iload_n 2, 1) := by decide +kernel
theorem dX0_frightenWitnesses_30 : decode cX0_frightenWitnesses 30 = .ok (.iaload, 1) := by decide +kernel
theorem dX0_frightenWitnesses_31 : decode cX0_frightenWitnesses 31 = .ok (.iload_n 1, 1) := by decide +kernel
theorem dX0_frightenWitnesses_32 : decode cX0_frightenWitnesses 32 = .ok (.isub, 1) := by decide +kernel
theorem dX0_frightenWitnesses_33 : decode cX0_frightenWitnesses 33 = .ok (.invokestatic 102, 3) := by decide +kernel
theorem dX0_frightenWitnesses_36 : decode cX0_frightenWitnesses 36 = .ok (.iastore, 1) := by decide +kernel
theorem dX0_frightenWitnesses_37 : decode cX0_frightenWitnesses 37 = .ok (.iinc 2 1, 3) := by decide +kernel
theorem dX0_frightenWitnesses_40 : decode cX0_frightenWitnesses 40 = .ok (.goto (-38), 3) := by decide +kernel
theorem dX0_frightenWitnesses_43 : decode cX0_frightenWitnesses 43 = .ok (.return_, 1) := by decide +kernel
theorem dX0_passOneNight_0 : decode cX0_passOneNight 0 = .ok (.iconst 0, 1) := by decide +kernel
theorem dX0_passOneNight_1 : decode cX0_passOneNight 1 = .ok (.istore_n 1, 1) := by decide +kernel
theorem dX0_passOneNight_2 : decode cX0_passOneNight 2 = .ok (.iload_n 1, 1) := by decide +kernel
theorem dX0_passOneNight_3 : decode cX0_passOneNight 3 = .ok (.aload_n 0, 1) := by decide +kernel
theorem dX0_passOneNight_4 : decode cX0_passOneNight 4 = .ok (.getfield 59, 3) := by decide +kernel
theorem dX0_passOneNight_7 : decode cX0_passOneNight 7 = .ok (.if_icmp .ge 36, 3) := by decide +kernel
theorem dX0_passOneNight_10 : decode cX0_passOneNight 10 = .ok (.aload_n 0, 1) := by decide +kernel
theorem dX0_passOneNight_11 : decode cX0_passOneNight 11 = .ok (.getfield 26, 3) := by decide +kernel
theorem dX0_passOneNight_14 : decode cX0_passOneNight 14 = .ok (.iload_n 1, 1) := by decide +kernel
theorem dX0_passOneNight_15 : decode cX0_passOneNight 15 = .ok (.bipush 9, 2) := by decide +kernel
theorem dX0_passOneNight_17 : decode cX0_passOneNight 17 = .ok (.aload_n 0, 1) := by decide +kernel
theorem dX0_passOneNight_18 : decode cX0_passOneNight 18 = .ok (.getfield 26, 3) := by decide +kernel
theorem dX0_passOneNight_21 : decode cX0_passOneNight 21 = .ok (.iload_n 1, 1) := by decide +kernel
theorem dX0_passOneNight_22 : decode cX0_passOneNight 22 = .ok (.iaload, 1) := by decide +kernel
theorem dX0_passOneNight_23 : decode cX0_passOneNight 23 = .ok (.aload_n 0, 1) := by decide +kernel
theorem dX0_passOneNight_24 : decode cX0_passOneNight 24 = .ok (.getfield 29, 3) := by decide +kernel
theorem dX0_passOneNight_27 : decode cX0_passOneNight 27 = .ok (.iload_n 1, 1) := by decide +kernel
theorem dX0_passOneNight_28 : decode cX0_passOneNight 28 = .ok (.baload, 1) := by decide +kernel
theorem dX0_passOneNight_29 : decode cX0_passOneNight 29 = .ok (.invokestatic 204, 3) := by decide +kernel
theorem dX0_passOneNight_32 : decode cX0_passOneNight 32 = .ok (.iadd, 1) := by decide +kernel
theorem dX0_passOneNight_33 : decode cX0_passOneNight 33 = .ok (.invokestatic 121, 3) := by decide +kernel
theorem dX0_passOneNight_36 : decode cX0_passOneNight 36 = .ok (.iastore, 1) := by decide +kernel
theorem dX0_passOneNight_37 : decode cX0_passOneNight 37 = .ok (.iinc 1 1, 3) := by decide +kernel
theorem dX0_passOneNight_40 : decode cX0_passOneNight 40 = .ok (.goto (-38), 3) := by decide +kernel
theorem dX0_passOneNight_43 : decode cX0_passOneNight 43 = .ok (.iconst 0, 1) := by decide +kernel
theorem dX0_passOneNight_44 : decode cX0_passOneNight 44 = .ok (.istore_n 1, 1) := by decide +kernel
theorem dX0_passOneNight_45 : decode cX0_passOneNight 45 = .ok (.iload_n 1, 1) := by decide +kernel
theorem dX0_passOneNight_46 : decode cX0_passOneNight 46 = .ok (.aload_n 0, 1) := by decide +kernel
theorem dX0_passOneNight_47 : decode cX0_passOneNight 47 = .ok (.getfield 48, 3) := by decide +kernel
theorem dX0_passOneNight_50 : decode cX0_passOneNight 50 = .ok (.if_icmp .ge 37, 3) := by decide +kernel
theorem dX0_passOneNight_53 : decode cX0_passOneNight 53 = .ok (.aload_n 0, 1) := by decide +kernel
theorem dX0_passOneNight_54 : decode cX0_passOneNight 54 = .ok (.getfield 9, 3) := by decide +kernel
theorem dX0_passOneNight_57 : decode cX0_passOneNight 57 = .ok (.iload_n 1, 1) := by decide +kernel
theorem dX0_passOneNight_58 : decode cX0_passOneNight 58 = .ok (.baload, 1) := by decide +kernel
theorem dX0_passOneNight_59 : decode cX0_passOneNight 59 = .ok (.ifCond .eq 22, 3) := by decide +kernel
theorem dX0_passOneNight_62 : decode cX0_passOneNight 62 = .ok (.aload_n 0, 1) := by decide +kernel
theorem dX0_passOneNight_63 : decode cX0_passOneNight 63 = .ok (.getfield 13, 3) := by decide +kernel
theorem dX0_passOneNight_66 : decode cX0_passOneNight 66 = .ok (.iload_n 1, 1) := by decide +kernel
theorem dX0_passOneNight_67 : decode cX0_passOneNight 67 = .ok (.bipush 99, 2) := by decide +kernel
theorem dX0_passOneNight_69 : decode cX0_passOneNight 69 = .ok (.aload_n 0, 1) := by decide +kernel
theorem dX0_passOneNight_70 : decode cX0_passOneNight 70 = .ok (.getfield 13, 3) := by decide +kernel
theorem dX0_passOneNight_73 : decode cX0_passOneNight 73 = .ok (.iload_n 1, 1) := by decide +kernel
theorem dX0_passOneNight_74 : decode cX0_passOneNight 74 = .ok (.iaload, 1) := by decide +kernel
theorem dX0_passOneNight_75 : decode cX0_passOneNight 75 = .ok (.iconst 1, 1) := by decide +kernel
theorem dX0_passOneNight_76 : decode cX0_passOneNight 76 = .ok (.iadd, 1) := by decide +kernel
theorem dX0_passOneNight_77 : decode cX0_passOneNight 77 = .ok (.invokestatic 121, 3) := by decide +kernel
theorem dX0_passOneNight_80 : decode cX0_passOneNight 80 = .ok (.iastore, 1) := by decide +kernel
theorem dX0_passOneNight_81 : decode cX0_passOneNight 81 = .ok (.iinc 1 1, 3) := by decide +kernel
theorem dX0_passOneNight_84 : decode cX0_passOneNight 84 = .ok (.goto (-39), 3) := by decide +kernel
theorem dX0_passOneNight_87 : decode cX0_passOneNight 87 = .ok (.aload_n 0, 1) := by decide +kernel
theorem dX0_passOneNight_88 : decode cX0_passOneNight 88 = .ok (.dup, 1) := by decide +kernel
theorem dX0_passOneNight_89 : decode cX0_passOneNight 89 = .ok (.getfield 133, 3) := by decide +kernel
theorem dX0_passOneNight_92 : decode cX0_passOneNight 92 = .ok (.iconst 1, 1) := by decide +kernel
theorem dX0_passOneNight_93 : decode cX0_passOneNight 93 = .ok (.iadd, 1) := by decide +kernel
theorem dX0_passOneNight_94 : decode cX0_passOneNight 94 = .ok (.putfield 133, 3) := by decide +kernel
theorem dX0_passOneNight_97 : decode cX0_passOneNight 97 = .ok (.return_, 1) := by decide +kernel
theorem dX0_nightsToCalm_0 : decode cX0_nightsToCalm 0 = .ok (.aload_n 0, 1) := by decide +kernel
theorem dX0_nightsToCalm_1 : decode cX0_nightsToCalm 1 = .ok (.getfield 29, 3) := by decide +kernel
theorem dX0_nightsToCalm_4 : decode cX0_nightsToCalm 4 = .ok (.iload_n 1, 1) := by decide +kernel
theorem dX0_nightsToCalm_5 : decode cX0_nightsToCalm 5 = .ok (.baload, 1) := by decide +kernel
theorem dX0_nightsToCalm_6 : decode cX0_nightsToCalm 6 = .ok (.invokestatic 204, 3) := by decide +kernel
theorem dX0_nightsToCalm_9 : decode cX0_nightsToCalm 9 = .ok (.istore_n 2, 1) := by decide +kernel
theorem dX0_nightsToCalm_10 : decode cX0_nightsToCalm 10 = .ok (.iconst 0, 1) := by decide +kernel
theorem dX0_nightsToCalm_11 : decode cX0_nightsToCalm 11 = .ok (.istore_n 3, 1) := by decide +kernel
theorem dX0_nightsToCalm_12 : decode cX0_nightsToCalm 12 = .ok (.iload_n 3, 1) := by decide +kernel
theorem dX0_nightsToCalm_13 : decode cX0_nightsToCalm 13 = .ok (.bipush 9, 2) := by decide +kernel
theorem dX0_nightsToCalm_15 : decode cX0_nightsToCalm 15 = .ok (.if_icmp .ge 23, 3) := by decide +kernel
theorem dX0_nightsToCalm_18 : decode cX0_nightsToCalm 18 = .ok (.aload_n 0, 1) := by decide +kernel
theorem dX0_nightsToCalm_19 : decode cX0_nightsToCalm 19 = .ok (.getfield 26, 3) := by decide +kernel
theorem dX0_nightsToCalm_22 : decode cX0_nightsToCalm 22 = .ok (.iload_n 1, 1) := by decide +kernel
theorem dX0_nightsToCalm_23 : decode cX0_nightsToCalm 23 = .ok (.iaload, 1) := by decide +kernel
theorem dX0_nightsToCalm_24 : decode cX0_nightsToCalm 24 = .ok (.iload_n 3, 1) := by decide +kernel
theorem dX0_nightsToCalm_25 : decode cX0_nightsToCalm 25 = .ok (.iload_n 2, 1) := by decide +kernel
theorem dX0_nightsToCalm_26 : decode cX0_nightsToCalm 26 = .ok (.imul, 1) := by decide +kernel
theorem dX0_nightsToCalm_27 : decode cX0_nightsToCalm 27 = .ok (.iadd, 1) := by decide +kernel
theorem dX0_nightsToCalm_28 : decode cX0_nightsToCalm 28 = .ok (.iconst 2, 1) := by decide +kernel
theorem dX0_nightsToCalm_29 : decode cX0_nightsToCalm 29 = .ok (.if_icmp .gt 9, 3) := by decide +kernel
theorem dX0_nightsToCalm_32 : decode cX0_nightsToCalm 32 = .ok (.iinc 3 1, 3) := by decide +kernel
theorem dX0_nightsToCalm_35 : decode cX0_nightsToCalm 35 = .ok (.goto (-23), 3) := by decide +kernel
theorem dX0_nightsToCalm_38 : decode cX0_nightsToCalm 38 = .ok (.iload_n 3, 1) := by decide +kernel
theorem dX0_nightsToCalm_39 : decode cX0_nightsToCalm 39 = .ok (.ireturn, 1) := by decide +kernel
theorem dX0_certificateSeal_0 : decode cX0_certificateSeal 0 = .ok (.bipush 7, 2) := by decide +kernel
theorem dX0_certificateSeal_2 : decode cX0_certificateSeal 2 = .ok (.ldc 207, 2) := by decide +kernel
theorem dX0_certificateSeal_4 : decode cX0_certificateSeal 4 = .ok (.invokestatic 209, 3) := by decide +kernel
theorem dX0_certificateSeal_7 : decode cX0_certificateSeal 7 = .ok (.istore_n 2, 1) := by decide +kernel
theorem dX0_certificateSeal_8 : decode cX0_certificateSeal 8 = .ok (.iload_n 2, 1) := by decide +kernel
theorem dX0_certificateSeal_9 : decode cX0_certificateSeal 9 = .ok (.iload_n 0, 1) := by decide +kernel
theorem dX0_certificateSeal_10 : decode cX0_certificateSeal 10 = .ok (.invokestatic 213, 3) := by decide +kernel
theorem dX0_certificateSeal_13 : decode cX0_certificateSeal 13 = .ok (.istore_n 2, 1) := by decide +kernel
theorem dX0_certificateSeal_14 : decode cX0_certificateSeal 14 = .ok (.iload_n 2, 1) := by decide +kernel
theorem dX0_certificateSeal_15 : decode cX0_certificateSeal 15 = .ok (.ldc 216, 2) := by decide +kernel
theorem dX0_certificateSeal_17 : decode cX0_certificateSeal 17 = .ok (.invokestatic 209, 3) := by decide +kernel
theorem dX0_certificateSeal_20 : decode cX0_certificateSeal 20 = .ok (.istore_n 2, 1) := by decide +kernel
theorem dX0_certificateSeal_21 : decode cX0_certificateSeal 21 = .ok (.iload_n 1, 1) := by decide +kernel
theorem dX0_certificateSeal_22 : decode cX0_certificateSeal 22 = .ok (.ifCond .ne 10, 3) := by decide +kernel
theorem dX0_certificateSeal_25 : decode cX0_certificateSeal 25 = .ok (.iload_n 2, 1) := by decide +kernel
theorem dX0_certificateSeal_26 : decode cX0_certificateSeal 26 = .ok (.ldc 218, 2) := by decide +kernel
theorem dX0_certificateSeal_28 : decode cX0_certificateSeal 28 = .ok (.invokestatic 209, 3) := by decide +kernel
theorem dX0_certificateSeal_31 : decode cX0_certificateSeal 31 = .ok (.ireturn, 1) := by decide +kernel
theorem dX0_certificateSeal_32 : decode cX0_certificateSeal 32 = .ok (.iload_n 2, 1) := by decide +kernel
theorem dX0_certificateSeal_33 : decode cX0_certificateSeal 33 = .ok (.iload_n 1, 1) := by decide +kernel
theorem dX0_certificateSeal_34 : decode cX0_certificateSeal 34 = .ok (.invokestatic 213, 3) := by decide +kernel
theorem dX0_certificateSeal_37 : decode cX0_certificateSeal 37 = .ok (.istore_n 2, 1) := by decide +kernel
theorem dX0_certificateSeal_38 : decode cX0_certificateSeal 38 = .ok (.iload_n 2, 1) := by decide +kernel
theorem dX0_certificateSeal_39 : decode cX0_certificateSeal 39 = .ok (.ldc 220, 2) := by decide +kernel
theorem dX0_certificateSeal_41 : decode cX0_certificateSeal 41 = .ok (.invokestatic 209, 3) := by decide +kernel
theorem dX0_certificateSeal_44 : decode cX0_certificateSeal 44 = .ok (.ireturn, 1) := by decide +kernel
theorem dX0_sealText_0 : decode cX0_sealText 0 = .ok (.iconst 0, 1) := by decide +kernel
theorem dX0_sealText_1 : decode cX0_sealText 1 = .ok (.istore_n 2, 1) := by decide +kernel
theorem dX0_sealText_2 : decode cX0_sealText 2 = .ok (.iload_n 2, 1) := by decide +kernel
theorem dX0_sealText_3 : decode cX0_sealText 3 = .ok (.aload_n 1, 1) := by decide +kernel
theorem dX0_sealText_4 : decode cX0_sealText 4 = .ok (.invokevirtual 222, 3) := by decide +kernel
theorem dX0_sealText_7 : decode cX0_sealText 7 = .ok (.if_icmp .ge 20, 3) := by decide +kernel
theorem dX0_sealText_10 : decode cX0_sealText 10 = .ok (.iload_n 0, 1) := by decide +kernel
theorem dX0_sealText_11 : decode cX0_sealText 11 = .ok (.bipush 31, 2) := by decide +kernel
theorem dX0_sealText_13 : decode cX0_sealText 13 = .ok (.imul, 1) := by decide +kernel
theorem dX0_sealText_14 : decode cX0_sealText 14 = .ok (.aload_n 1, 1) := by decide +kernel
theorem dX0_sealText_15 : decode cX0_sealText 15 = .ok (.iload_n 2, 1) := by decide +kernel
theorem dX0_sealText_16 : decode cX0_sealText 16 = .ok (.invokevirtual 227, 3) := by decide +kernel
theorem dX0_sealText_19 : decode cX0_sealText 19 = .ok (.iadd, 1) := by decide +kernel
theorem dX0_sealText_20 : decode cX0_sealText 20 = .ok (.istore_n 0, 1) := by decide +kernel
theorem dX0_sealText_21 : decode cX0_sealText 21 = .ok (.iinc 2 1, 3) := by decide +kernel
theorem dX0_sealText_24 : decode cX0_sealText 24 = .ok (.goto (-22), 3) := by decide +kernel
theorem dX0_sealText_27 : decode cX0_sealText 27 = .ok (.iload_n 0, 1) := by decide +kernel
theorem dX0_sealText_28 : decode cX0_sealText 28 = .ok (.ireturn, 1) := by decide +kernel
theorem dX0_sealNumber_0 : decode cX0_sealNumber 0 = .ok (.iload_n 1, 1) := by decide +kernel
theorem dX0_sealNumber_1 : decode cX0_sealNumber 1 = .ok (.bipush 10, 2) := by decide +kernel
theorem dX0_sealNumber_3 : decode cX0_sealNumber 3 = .ok (.if_icmp .lt 16, 3) := by decide +kernel
theorem dX0_sealNumber_6 : decode cX0_sealNumber 6 = .ok (.iload_n 0, 1) := by decide +kernel
theorem dX0_sealNumber_7 : decode cX0_sealNumber 7 = .ok (.bipush 31, 2) := by decide +kernel
theorem dX0_sealNumber_9 : decode cX0_sealNumber 9 = .ok (.imul, 1) := by decide +kernel
theorem dX0_sealNumber_10 : decode cX0_sealNumber 10 = .ok (.bipush 48, 2) := by decide +kernel
theorem dX0_sealNumber_12 : decode cX0_sealNumber 12 = .ok (.iadd, 1) := by decide +kernel
theorem dX0_sealNumber_13 : decode cX0_sealNumber 13 = .ok (.iload_n 1, 1) := by decide +kernel
theorem dX0_sealNumber_14 : decode cX0_sealNumber 14 = .ok (.bipush 10, 2) := by decide +kernel
theorem dX0_sealNumber_16 : decode cX0_sealNumber 16 = .ok (.idiv, 1) := by decide +kernel
theorem dX0_sealNumber_17 : decode cX0_sealNumber 17 = .ok (.iadd, 1) := by decide +kernel
theorem dX0_sealNumber_18 : decode cX0_sealNumber 18 = .ok (.istore_n 0, 1) := by decide +kernel
theorem dX0_sealNumber_19 : decode cX0_sealNumber 19 = .ok (.iload_n 0, 1) := by decide +kernel
theorem dX0_sealNumber_20 : decode cX0_sealNumber 20 = .ok (.bipush 31, 2) := by decide +kernel
theorem dX0_sealNumber_22 : decode cX0_sealNumber 22 = .ok (.imul, 1) := by decide +kernel
theorem dX0_sealNumber_23 : decode cX0_sealNumber 23 = .ok (.bipush 48, 2) := by decide +kernel
theorem dX0_sealNumber_25 : decode cX0_sealNumber 25 = .ok (.iadd, 1) := by decide +kernel
theorem dX0_sealNumber_26 : decode cX0_sealNumber 26 = .ok (.iload_n 1, 1) := by decide +kernel
theorem dX0_sealNumber_27 : decode cX0_sealNumber 27 = .ok (.bipush 10, 2) := by decide +kernel
theorem dX0_sealNumber_29 : decode cX0_sealNumber 29 = .ok (.irem, 1) := by decide +kernel
theorem dX0_sealNumber_30 : decode cX0_sealNumber 30 = .ok (.iadd, 1) := by decide +kernel
theorem dX0_sealNumber_31 : decode cX0_sealNumber 31 = .ok (.ireturn, 1) := by decide +kernel
theorem dX0_mix_0 : decode cX0_mix 0 = .ok (.lload_n 0, 1) := by decide +kernel
theorem dX0_mix_1 : decode cX0_mix 1 = .ok (.ldc2_w 231, 3) := by decide +kernel
theorem dX0_mix_4 : decode cX0_mix 4 = .ok (.lmul, 1) := by decide +kernel
theorem dX0_mix_5 : decode cX0_mix 5 = .ok (.lload_n 2, 1) := by decide +kernel
theorem dX0_mix_6 : decode cX0_mix 6 = .ok (.ladd, 1) := by decide +kernel
theorem dX0_mix_7 : decode cX0_mix 7 = .ok (.lreturn, 1) := by decide +kernel
theorem dX0_asNumber_0 : decode cX0_asNumber 0 = .ok (.iload_n 0, 1) := by decide +kernel
theorem dX0_asNumber_1 : decode cX0_asNumber 1 = .ok (.ifCond .eq 7, 3) := by decide +kernel
theorem dX0_asNumber_4 : decode cX0_asNumber 4 = .ok (.iconst 1, 1) := by decide +kernel
theorem dX0_asNumber_5 : decode cX0_asNumber 5 = .ok (.goto 4, 3) := by decide +kernel
theorem dX0_asNumber_8 : decode cX0_asNumber 8 = .ok (.iconst 0, 1) := by decide +kernel
theorem dX0_asNumber_9 : decode cX0_asNumber 9 = .ok (.ireturn, 1) := by decide +kernel
theorem dX0_digestRegistry_0 : decode cX0_digestRegistry 0 = .ok (.lload_n 1, 1) := by decide +kernel
theorem dX0_digestRegistry_1 : decode cX0_digestRegistry 1 = .ok (.aload_n 0, 1) := by decide +kernel
theorem dX0_digestRegistry_2 : decode cX0_digestRegistry 2 = .ok (.invokevirtual 233, 3) := by decide +kernel
theorem dX0_digestRegistry_5 : decode cX0_digestRegistry 5 = .ok (.i2l, 1) := by decide +kernel
theorem dX0_digestRegistry_6 : decode cX0_digestRegistry 6 = .ok (.invokestatic 173, 3) := by decide +kernel
theorem dX0_digestRegistry_9 : decode cX0_digestRegistry 9 = .ok (.lstore_n 1, 1) := by decide +kernel
theorem dX0_digestRegistry_10 : decode cX0_digestRegistry 10 = .ok (.lload_n 1, 1) := by decide +kernel
theorem dX0_digestRegistry_11 : decode cX0_digestRegistry 11 = .ok (.aload_n 0, 1) := by decide +kernel
theorem dX0_digestRegistry_12 : decode cX0_digestRegistry 12 = .ok (.invokevirtual 236, 3) := by decide +kernel
theorem dX0_digestRegistry_15 : decode cX0_digestRegistry 15 = .ok (.i2l, 1) := by decide +kernel
theorem dX0_digestRegistry_16 : decode cX0_digestRegistry 16 = .ok (.invokestatic 173, 3) := by decide +kernel
theorem dX0_digestRegistry_19 : decode cX0_digestRegistry 19 = .ok (.lstore_n 1, 1) := by decide +kernel
theorem dX0_digestRegistry_20 : decode cX0_digestRegistry 20 = .ok (.lload_n 1, 1) := by decide +kernel
theorem dX0_digestRegistry_21 : decode cX0_digestRegistry 21 = .ok (.aload_n 0, 1) := by decide +kernel
theorem dX0_digestRegistry_22 : decode cX0_digestRegistry 22 = .ok (.invokevirtual 239, 3) := by decide +kernel
theorem dX0_digestRegistry_25 : decode cX0_digestRegistry 25 = .ok (.i2l, 1) := by decide +kernel
theorem dX0_digestRegistry_26 : decode cX0_digestRegistry 26 = .ok (.invokestatic 173, 3) := by decide +kernel
theorem dX0_digestRegistry_29 : decode cX0_digestRegistry 29 = .ok (.lstore_n 1, 1) := by decide +kernel
theorem dX0_digestRegistry_30 : decode cX0_digestRegistry 30 = .ok (.lload_n 1, 1) := by decide +kernel
theorem dX0_digestRegistry_31 : decode cX0_digestRegistry 31 = .ok (.aload_n 0, 1) := by decide +kernel
theorem dX0_digestRegistry_32 : decode cX0_digestRegistry 32 = .ok (.invokevirtual 242, 3) := by decide +kernel
theorem dX0_digestRegistry_35 : decode cX0_digestRegistry 35 = .ok (.i2l, 1) := by decide +kernel
theorem dX0_digestRegistry_36 : decode cX0_digestRegistry 36 = .ok (.invokestatic 173, 3) := by decide +kernel
theorem dX0_digestRegistry_39 : decode cX0_digestRegistry 39 = .ok (.lstore_n 1, 1) := by decide +kernel
theorem dX0_digestRegistry_40 : decode cX0_digestRegistry 40 = .ok (.lload_n 1, 1) := by decide +kernel
theorem dX0_digestRegistry_41 : decode cX0_digestRegistry 41 = .ok (.aload_n 0, 1) := by decide +kernel
theorem dX0_digestRegistry_42 : decode cX0_digestRegistry 42 = .ok (.invokevirtual 129, 3) := by decide +kernel
theorem dX0_digestRegistry_45 : decode cX0_digestRegistry 45 = .ok (.i2l, 1) := by decide +kernel
theorem dX0_digestRegistry_46 : decode cX0_digestRegistry 46 = .ok (.invokestatic 173, 3) := by decide +kernel
theorem dX0_digestRegistry_49 : decode cX0_digestRegistry 49 = .ok (.lstore_n 1, 1) := by decide +kernel
theorem dX0_digestRegistry_50 : decode cX0_digestRegistry 50 = .ok (.lload_n 1, 1) := by decide +kernel
theorem dX0_digestRegistry_51 : decode cX0_digestRegistry 51 = .ok (.aload_n 0, 1) := by decide +kernel
theorem dX0_digestRegistry_52 : decode cX0_digestRegistry 52 = .ok (.invokevirtual 245, 3) := by decide +kernel
theorem dX0_digestRegistry_55 : decode cX0_digestRegistry 55 = .ok (.i2l, 1) := by decide +kernel
theorem dX0_digestRegistry_56 : decode cX0_digestRegistry 56 = .ok (.invokestatic 173, 3) := by decide +kernel
theorem dX0_digestRegistry_59 : decode cX0_digestRegistry 59 = .ok (.lstore_n 1, 1) := by decide +kernel
theorem dX0_digestRegistry_60 : decode cX0_digestRegistry 60 = .ok (.lload_n 1, 1) := by decide +kernel
theorem dX0_digestRegistry_61 : decode cX0_digestRegistry 61 = .ok (.aload_n 0, 1) := by decide +kernel
theorem dX0_digestRegistry_62 : decode cX0_digestRegistry 62 = .ok (.invokevirtual 248, 3) := by decide +kernel
theorem dX0_digestRegistry_65 : decode cX0_digestRegistry 65 = .ok (.i2l, 1) := by decide +kernel
theorem dX0_digestRegistry_66 : decode cX0_digestRegistry 66 = .ok (.invokestatic 173, 3) := by decide +kernel
theorem dX0_digestRegistry_69 : decode cX0_digestRegistry 69 = .ok (.lstore_n 1, 1) := by decide +kernel
theorem dX0_digestRegistry_70 : decode cX0_digestRegistry 70 = .ok (.lload_n 1, 1) := by decide +kernel
theorem dX0_digestRegistry_71 : decode cX0_digestRegistry 71 = .ok (.aload_n 0, 1) := by decide +kernel
theorem dX0_digestRegistry_72 : decode cX0_digestRegistry 72 = .ok (.invokevirtual 251, 3) := by decide +kernel
theorem dX0_digestRegistry_75 : decode cX0_digestRegistry 75 = .ok (.i2l, 1) := by decide +kernel
theorem dX0_digestRegistry_76 : decode cX0_digestRegistry 76 = .ok (.invokestatic 173, 3) := by decide +kernel
theorem dX0_digestRegistry_79 : decode cX0_digestRegistry 79 = .ok (.lstore_n 1, 1) := by decide +kernel
theorem dX0_digestRegistry_80 : decode cX0_digestRegistry 80 = .ok (.lload_n 1, 1) := by decide +kernel
theorem dX0_digestRegistry_81 : decode cX0_digestRegistry 81 = .ok (.aload_n 0, 1) := by decide +kernel
theorem dX0_digestRegistry_82 : decode cX0_digestRegistry 82 = .ok (.invokevirtual 254, 3) := by decide +kernel
theorem dX0_digestRegistry_85 : decode cX0_digestRegistry 85 = .ok (.i2l, 1) := by decide +kernel
theorem dX0_digestRegistry_86 : decode cX0_digestRegistry 86 = .ok (.invokestatic 173, 3) := by decide +kernel
theorem dX0_digestRegistry_89 : decode cX0_digestRegistry 89 = .ok (.lstore_n 1, 1) := by decide +kernel
theorem dX0_digestRegistry_90 : decode cX0_digestRegistry 90 = .ok (.lload_n 1, 1) := by decide +kernel
theorem dX0_digestRegistry_91 : decode cX0_digestRegistry 91 = .ok (.aload_n 0, 1) := by decide +kernel
theorem dX0_digestRegistry_92 : decode cX0_digestRegistry 92 = .ok (.bipush 20, 2) := by decide +kernel
theorem dX0_digestRegistry_94 : decode cX0_digestRegistry 94 = .ok (.invokevirtual 257, 3) := by decide +kernel
theorem dX0_digestRegistry_97 : decode cX0_digestRegistry 97 = .ok (.i2l, 1) := by decide +kernel
theorem dX0_digestRegistry_98 : decode cX0_digestRegistry 98 = .ok (.invokestatic 173, 3) := by decide +kernel
theorem dX0_digestRegistry_101 : decode cX0_digestRegistry 101 = .ok (.lstore_n 1, 1) := by decide +kernel
theorem dX0_digestRegistry_102 : decode cX0_digestRegistry 102 = .ok (.lload_n 1, 1) := by decide +kernel
theorem dX0_digestRegistry_103 : decode cX0_digestRegistry 103 = .ok (.aload_n 0, 1) := by decide +kernel
theorem dX0_digestRegistry_104 : decode cX0_digestRegistry 104 = .ok (.bipush 10, 2) := by decide +kernel
theorem dX0_digestRegistry_106 : decode cX0_digestRegistry 106 = .ok (.invokevirtual 260, 3) := by decide +kernel
theorem dX0_digestRegistry_109 : decode cX0_digestRegistry 109 = .ok (.i2l, 1) := by decide +kernel
theorem dX0_digestRegistry_110 : decode cX0_digestRegistry 110 = .ok (.invokestatic 173, 3) := by decide +kernel
theorem dX0_digestRegistry_113 : decode cX0_digestRegistry 113 = .ok (.lstore_n 1, 1) := by decide +kernel
theorem dX0_digestRegistry_114 : decode cX0_digestRegistry 114 = .ok (.lload_n 1, 1) := by decide +kernel
theorem dX0_digestRegistry_115 : decode cX0_digestRegistry 115 = .ok (.aload_n 0, 1) := by decide +kernel
theorem dX0_digestRegistry_116 : decode cX0_digestRegistry 116 = .ok (.invokevirtual 263, 3) := by decide +kernel
theorem dX0_digestRegistry_119 : decode cX0_digestRegistry 119 = .ok (.i2l, 1) := by decide +kernel
theorem dX0_digestRegistry_120 : decode cX0_digestRegistry 120 = .ok (.invokestatic 173, 3) := by decide +kernel
theorem dX0_digestRegistry_123 : decode cX0_digestRegistry 123 = .ok (.lstore_n 1, 1) := by decide +kernel
theorem dX0_digestRegistry_124 : decode cX0_digestRegistry 124 = .ok (.lload_n 1, 1) := by decide +kernel
theorem dX0_digestRegistry_125 : decode cX0_digestRegistry 125 = .ok (.aload_n 0, 1) := by decide +kernel
theorem dX0_digestRegistry_126 : decode cX0_digestRegistry 126 = .ok (.invokevirtual 154, 3) := by decide +kernel
theorem dX0_digestRegistry_129 : decode cX0_digestRegistry 129 = .ok (.i2l, 1) := by decide +kernel
theorem dX0_digestRegistry_130 : decode cX0_digestRegistry 130 = .ok (.invokestatic 173, 3) := by decide +kernel
theorem dX0_digestRegistry_133 : decode cX0_digestRegistry 133 = .ok (.lstore_n 1, 1) := by decide +kernel
theorem dX0_digestRegistry_134 : decode cX0_digestRegistry 134 = .ok (.lload_n 1, 1) := by decide +kernel
theorem dX0_digestRegistry_135 : decode cX0_digestRegistry 135 = .ok (.aload_n 0, 1) := by decide +kernel
theorem dX0_digestRegistry_136 : decode cX0_digestRegistry 136 = .ok (.invokevirtual 266, 3) := by decide +kernel
theorem dX0_digestRegistry_139 : decode cX0_digestRegistry 139 = .ok (.i2l, 1) := by decide +kernel
theorem dX0_digestRegistry_140 : decode cX0_digestRegistry 140 = .ok (.invokestatic 173, 3) := by decide +kernel
theorem dX0_digestRegistry_143 : decode cX0_digestRegistry 143 = .ok (.lreturn, 1) := by decide +kernel
theorem dX0_digestPerson_0 : decode cX0_digestPerson 0 = .ok (.lload_n 1, 1) := by decide +kernel
theorem dX0_digestPerson_1 : decode cX0_digestPerson 1 = .ok (.aload_n 0, 1) := by decide +kernel
theorem dX0_digestPerson_2 : decode cX0_digestPerson 2 = .ok (.iload_n 3, 1) := by decide +kernel
theorem dX0_digestPerson_3 : decode cX0_digestPerson 3 = .ok (.invokevirtual 269, 3) := by decide +kernel
theorem dX0_digestPerson_6 : decode cX0_digestPerson 6 = .ok (.invokestatic 177, 3) := by decide +kernel
theorem dX0_digestPerson_9 : decode cX0_digestPerson 9 = .ok (.i2l, 1) := by decide +kernel
theorem dX0_digestPerson_10 : decode cX0_digestPerson 10 = .ok (.invokestatic 173, 3) := by decide +kernel
theorem dX0_digestPerson_13 : decode cX0_digestPerson 13 = .ok (.lstore_n 1, 1) := by decide +kernel
theorem dX0_digestPerson_14 : decode cX0_digestPerson 14 = .ok (.lload_n 1, 1) := by decide +kernel
theorem dX0_digestPerson_15 : decode cX0_digestPerson 15 = .ok (.aload_n 0, 1) := by decide +kernel
theorem dX0_digestPerson_16 : decode cX0_digestPerson 16 = .ok (.iload_n 3, 1) := by decide +kernel
theorem dX0_digestPerson_17 : decode cX0_digestPerson 17 = .ok (.invokevirtual 272, 3) := by decide +kernel
theorem dX0_digestPerson_20 : decode cX0_digestPerson 20 = .ok (.i2l, 1) := by decide +kernel
theorem dX0_digestPerson_21 : decode cX0_digestPerson 21 = .ok (.invokestatic 173, 3) := by decide +kernel
theorem dX0_digestPerson_24 : decode cX0_digestPerson 24 = .ok (.lstore_n 1, 1) := by decide +kernel
theorem dX0_digestPerson_25 : decode cX0_digestPerson 25 = .ok (.lload_n 1, 1) := by decide +kernel
theorem dX0_digestPerson_26 : decode cX0_digestPerson 26 = .ok (.aload_n 0, 1) := by decide +kernel
theorem dX0_digestPerson_27 : decode cX0_digestPerson 27 = .ok (.iload_n 3, 1) := by decide +kernel
theorem dX0_digestPerson_28 : decode cX0_digestPerson 28 = .ok (.invokevirtual 275, 3) := by decide +kernel
theorem dX0_digestPerson_31 : decode cX0_digestPerson 31 = .ok (.i2l, 1) := by decide +kernel
theorem dX0_digestPerson_32 : decode cX0_digestPerson 32 = .ok (.invokestatic 173, 3) := by decide +kernel
theorem dX0_digestPerson_35 : decode cX0_digestPerson 35 = .ok (.lstore_n 1, 1) := by decide +kernel
theorem dX0_digestPerson_36 : decode cX0_digestPerson 36 = .ok (.lload_n 1, 1) := by decide +kernel
theorem dX0_digestPerson_37 : decode cX0_digestPerson 37 = .ok (.aload_n 0, 1) := by decide +kernel
theorem dX0_digestPerson_38 : decode cX0_digestPerson 38 = .ok (.iload_n 3, 1) := by decide +kernel
theorem dX0_digestPerson_39 : decode cX0_digestPerson 39 = .ok (.invokevirtual 278, 3) := by decide +kernel
theorem dX0_digestPerson_42 : decode cX0_digestPerson 42 = .ok (.i2l, 1) := by decide +kernel
theorem dX0_digestPerson_43 : decode cX0_digestPerson 43 = .ok (.invokestatic 173, 3) := by decide +kernel
theorem dX0_digestPerson_46 : decode cX0_digestPerson 46 = .ok (.lstore_n 1, 1) := by decide +kernel
theorem dX0_digestPerson_47 : decode cX0_digestPerson 47 = .ok (.lload_n 1, 1) := by decide +kernel
theorem dX0_digestPerson_48 : decode cX0_digestPerson 48 = .ok (.aload_n 0, 1) := by decide +kernel
theorem dX0_digestPerson_49 : decode cX0_digestPerson 49 = .ok (.iload_n 3, 1) := by decide +kernel
theorem dX0_digestPerson_50 : decode cX0_digestPerson 50 = .ok (.invokevirtual 281, 3) := by decide +kernel
theorem dX0_digestPerson_53 : decode cX0_digestPerson 53 = .ok (.i2l, 1) := by decide +kernel
theorem dX0_digestPerson_54 : decode cX0_digestPerson 54 = .ok (.invokestatic 173, 3) := by decide +kernel
theorem dX0_digestPerson_57 : decode cX0_digestPerson 57 = .ok (.lstore_n 1, 1) := by decide +kernel
theorem dX0_digestPerson_58 : decode cX0_digestPerson 58 = .ok (.lload_n 1, 1) := by decide +kernel
theorem dX0_digestPerson_59 : decode cX0_digestPerson 59 = .ok (.aload_n 0, 1) := by decide +kernel
theorem dX0_digestPerson_60 : decode cX0_digestPerson 60 = .ok (.iload_n 3, 1) := by decide +kernel
theorem dX0_digestPerson_61 : decode cX0_digestPerson 61 = .ok (.invokevirtual 284, 3) := by decide +kernel
theorem dX0_digestPerson_64 : decode cX0_digestPerson 64 = .ok (.i2l, 1) := by decide +kernel
theorem dX0_digestPerson_65 : decode cX0_digestPerson 65 = .ok (.invokestatic 173, 3) := by decide +kernel
theorem dX0_digestPerson_68 : decode cX0_digestPerson 68 = .ok (.lstore_n 1, 1) := by decide +kernel
theorem dX0_digestPerson_69 : decode cX0_digestPerson 69 = .ok (.lload_n 1, 1) := by decide +kernel
theorem dX0_digestPerson_70 : decode cX0_digestPerson 70 = .ok (.aload_n 0, 1) := by decide +kernel
theorem dX0_digestPerson_71 : decode cX0_digestPerson 71 = .ok (.iload_n 3, 1) := by decide +kernel
theorem dX0_digestPerson_72 : decode cX0_digestPerson 72 = .ok (.invokevirtual 287, 3) := by decide +kernel
theorem dX0_digestPerson_75 : decode cX0_digestPerson 75 = .ok (.i2l, 1) := by decide +kernel
theorem dX0_digestPerson_76 : decode cX0_digestPerson 76 = .ok (.invokestatic 173, 3) := by decide +kernel
theorem dX0_digestPerson_79 : decode cX0_digestPerson 79 = .ok (.lstore_n 1, 1) := by decide +kernel
theorem dX0_digestPerson_80 : decode cX0_digestPerson 80 = .ok (.lload_n 1, 1) := by decide +kernel
theorem dX0_digestPerson_81 : decode cX0_digestPerson 81 = .ok (.aload_n 0, 1) := by decide +kernel
theorem dX0_digestPerson_82 : decode cX0_digestPerson 82 = .ok (.iload_n 3, 1) := by decide +kernel
theorem dX0_digestPerson_83 : decode cX0_digestPerson 83 = .ok (.invokevirtual 290, 3) := by decide +kernel
theorem dX0_digestPerson_86 : decode cX0_digestPerson 86 = .ok (.i2l, 1) := by decide +kernel
theorem dX0_digestPerson_87 : decode cX0_digestPerson 87 = .ok (.invokestatic 173, 3) := by decide +kernel
theorem dX0_digestPerson_90 : decode cX0_digestPerson 90 = .ok (.lreturn, 1) := by decide +kernel
theorem dX0_digestLatestMiss_0 : decode cX0_digestLatestMiss 0 = .ok (.aload_n 0, 1) := by decide +kernel
theorem dX0_digestLatestMiss_1 : decode cX0_digestLatestMiss 1 = .ok (.getfield 90, 3) := by decide +kernel
theorem dX0_digestLatestMiss_4 : decode cX0_digestLatestMiss 4 = .ok (.iconst 1, 1) := by decide +kernel
theorem dX0_digestLatestMiss_5 : decode cX0_digestLatestMiss 5 = .ok (.isub, 1) := by decide +kernel
theorem dX0_digestLatestMiss_6 : decode cX0_digestLatestMiss 6 = .ok (.istore_n 3, 1) := by decide +kernel
theorem dX0_digestLatestMiss_7 : decode cX0_digestLatestMiss 7 = .ok (.iload_n 3, 1) := by decide +kernel
theorem dX0_digestLatestMiss_8 : decode cX0_digestLatestMiss 8 = .ok (.ifCond .ge 13, 3) := by decide +kernel
theorem dX0_digestLatestMiss_11 : decode cX0_digestLatestMiss 11 = .ok (.lload_n 1, 1) := by decide +kernel
theorem dX0_digestLatestMiss_12 : decode cX0_digestLatestMiss 12 = .ok (.lconst 0, 1) := by decide +kernel
theorem dX0_digestLatestMiss_13 : decode cX0_digestLatestMiss 13 = .ok (.invokestatic 173, 3) := by decide +kernel
theorem dX0_digestLatestMiss_16 : decode cX0_digestLatestMiss 16 = .ok (.lconst 0, 1) := by decide +kernel
theorem dX0_digestLatestMiss_17 : decode cX0_digestLatestMiss 17 = .ok (.invokestatic 173, 3) := by decide +kernel
theorem dX0_digestLatestMiss_20 : decode cX0_digestLatestMiss 20 = .ok (.lreturn, 1) := by decide +kernel
theorem dX0_digestLatestMiss_21 : decode cX0_digestLatestMiss 21 = .ok (.lload_n 1, 1) := by decide +kernel
theorem dX0_digestLatestMiss_22 : decode cX0_digestLatestMiss 22 = .ok (.aload_n 0, 1) := by decide +kernel
theorem dX0_digestLatestMiss_23 : decode cX0_digestLatestMiss 23 = .ok (.iload_n 3, 1) := by decide +kernel
theorem dX0_digestLatestMiss_24 : decode cX0_digestLatestMiss 24 = .ok (.invokevirtual 293, 3) := by decide +kernel
theorem dX0_digestLatestMiss_27 : decode cX0_digestLatestMiss 27 = .ok (.i2l, 1) := by decide +kernel
theorem dX0_digestLatestMiss_28 : decode cX0_digestLatestMiss 28 = .ok (.invokestatic 173, 3) := by decide +kernel
theorem dX0_digestLatestMiss_31 : decode cX0_digestLatestMiss 31 = .ok (.lstore_n 1, 1) := by decide +kernel
theorem dX0_digestLatestMiss_32 : decode cX0_digestLatestMiss 32 = .ok (.lload_n 1, 1) := by decide +kernel
theorem dX0_digestLatestMiss_33 : decode cX0_digestLatestMiss 33 = .ok (.aload_n 0, 1) := by decide +kernel
theorem dX0_digestLatestMiss_34 : decode cX0_digestLatestMiss 34 = .ok (.iload_n 3, 1) := by decide +kernel
theorem dX0_digestLatestMiss_35 : decode cX0_digestLatestMiss 35 = .ok (.invokevirtual 296, 3) := by decide +kernel
theorem dX0_digestLatestMiss_38 : decode cX0_digestLatestMiss 38 = .ok (.i2l, 1) := by decide +kernel
theorem dX0_digestLatestMiss_39 : decode cX0_digestLatestMiss 39 = .ok (.invokestatic 173, 3) := by decide +kernel
theorem dX0_digestLatestMiss_42 : decode cX0_digestLatestMiss 42 = .ok (.lreturn, 1) := by decide +kernel
theorem dJ9_max_7cf53_0 : decode cJ9_max_7cf53 0 = .ok (.iload_n 0, 1) := by decide +kernel
theorem dJ9_max_7cf53_1 : decode cJ9_max_7cf53 1 = .ok (.iload_n 1, 1) := by decide +kernel
theorem dJ9_max_7cf53_2 : decode cJ9_max_7cf53 2 = .ok (.if_icmp .lt 7, 3) := by decide +kernel
theorem dJ9_max_7cf53_5 : decode cJ9_max_7cf53 5 = .ok (.iload_n 0, 1) := by decide +kernel
theorem dJ9_max_7cf53_6 : decode cJ9_max_7cf53 6 = .ok (.goto 4, 3) := by decide +kernel
theorem dJ9_max_7cf53_9 : decode cJ9_max_7cf53 9 = .ok (.iload_n 1, 1) := by decide +kernel
theorem dJ9_max_7cf53_10 : decode cJ9_max_7cf53 10 = .ok (.ireturn, 1) := by decide +kernel
theorem dJ9_min_7cf53_0 : decode cJ9_min_7cf53 0 = .ok (.iload_n 0, 1) := by decide +kernel
theorem dJ9_min_7cf53_1 : decode cJ9_min_7cf53 1 = .ok (.iload_n 1, 1) := by decide +kernel
theorem dJ9_min_7cf53_2 : decode cJ9_min_7cf53 2 = .ok (.if_icmp .gt 7, 3) := by decide +kernel
theorem dJ9_min_7cf53_5 : decode cJ9_min_7cf53 5 = .ok (.iload_n 0, 1) := by decide +kernel
theorem dJ9_min_7cf53_6 : decode cJ9_min_7cf53 6 = .ok (.goto 4, 3) := by decide +kernel
theorem dJ9_min_7cf53_9 : decode cJ9_min_7cf53 9 = .ok (.iload_n 1, 1) := by decide +kernel
theorem dJ9_min_7cf53_10 : decode cJ9_min_7cf53 10 = .ok (.ireturn, 1) := by decide +kernel
theorem dJ0_length_8abf5_0 : decode cJ0_length_8abf5 0 = .ok (.aload_n 0, 1) := by decide +kernel
theorem dJ0_length_8abf5_1 : decode cJ0_length_8abf5 1 = .ok (.getfield 9, 3) := by decide +kernel
theorem dJ0_length_8abf5_4 : decode cJ0_length_8abf5 4 = .ok (.arraylength, 1) := by decide +kernel
theorem dJ0_length_8abf5_5 : decode cJ0_length_8abf5 5 = .ok (.aload_n 0, 1) := by decide +kernel
theorem dJ0_length_8abf5_6 : decode cJ0_length_8abf5 6 = .ok (.invokevirtual 335, 3) := by decide +kernel
theorem dJ0_length_8abf5_9 : decode cJ0_length_8abf5 9 = .ok (.ishr, 1) := by decide +kernel
theorem dJ0_length_8abf5_10 : decode cJ0_length_8abf5 10 = .ok (.ireturn, 1) := by decide +kernel
theorem dJ0_charAt_5068e_0 : decode cJ0_charAt_5068e 0 = .ok (.aload_n 0, 1) := by decide +kernel
theorem dJ0_charAt_5068e_1 : decode cJ0_charAt_5068e 1 = .ok (.invokevirtual 492, 3) := by decide +kernel
theorem dJ0_charAt_5068e_4 : decode cJ0_charAt_5068e 4 = .ok (.ifCond .eq 12, 3) := by decide +kernel
theorem dJ0_charAt_5068e_7 : decode cJ0_charAt_5068e 7 = .ok (.aload_n 0, 1) := by decide +kernel
theorem dJ0_charAt_5068e_8 : decode cJ0_charAt_5068e 8 = .ok (.getfield 9, 3) := by decide +kernel
theorem dJ0_charAt_5068e_11 : decode cJ0_charAt_5068e 11 = .ok (.iload_n 1, 1) := by decide +kernel
theorem dJ0_charAt_5068e_12 : decode cJ0_charAt_5068e 12 = .ok (.invokestatic 495, 3) := by decide +kernel
theorem dJ0_charAt_5068e_15 : decode cJ0_charAt_5068e 15 = .ok (.ireturn, 1) := by decide +kernel
theorem dJ0_charAt_5068e_16 : decode cJ0_charAt_5068e 16 = .ok (.aload_n 0, 1) := by decide +kernel
theorem dJ0_charAt_5068e_17 : decode cJ0_charAt_5068e 17 = .ok (.getfield 9, 3) := by decide +kernel
theorem dJ0_charAt_5068e_20 : decode cJ0_charAt_5068e 20 = .ok (.iload_n 1, 1) := by decide +kernel
theorem dJ0_charAt_5068e_21 : decode cJ0_charAt_5068e 21 = .ok (.invokestatic 498, 3) := by decide +kernel
theorem dJ0_charAt_5068e_24 : decode cJ0_charAt_5068e 24 = .ok (.ireturn, 1) := by decide +kernel
theorem dJ0_coder_7d493_0 : decode cJ0_coder_7d493 0 = .ok (.getstatic 38, 3) := by decide +kernel
theorem dJ0_coder_7d493_3 : decode cJ0_coder_7d493 3 = .ok (.ifCond .eq 10, 3) := by decide +kernel
theorem dJ0_coder_7d493_6 : decode cJ0_coder_7d493 6 = .ok (.aload_n 0, 1) := by decide +kernel
theorem dJ0_coder_7d493_7 : decode cJ0_coder_7d493 7 = .ok (.getfield 15, 3) := by decide +kernel
theorem dJ0_coder_7d493_10 : decode cJ0_coder_7d493 10 = .ok (.goto 4, 3) := by decide +kernel
theorem dJ0_coder_7d493_13 : decode cJ0_coder_7d493 13 = .ok (.iconst 1, 1) := by decide +kernel
theorem dJ0_coder_7d493_14 : decode cJ0_coder_7d493 14 = .ok (.ireturn, 1) := by decide +kernel
theorem dJ0_isLatin1_aae02_0 : decode cJ0_isLatin1_aae02 0 = .ok (.getstatic 38, 3) := by decide +kernel
theorem dJ0_isLatin1_aae02_3 : decode cJ0_isLatin1_aae02 3 = .ok (.ifCond .eq 14, 3) := by decide +kernel
theorem dJ0_isLatin1_aae02_6 : decode cJ0_isLatin1_aae02 6 = .ok (.aload_n 0, 1) := by decide +kernel
theorem dJ0_isLatin1_aae02_7 : decode cJ0_isLatin1_aae02 7 = .ok (.getfield 15, 3) := by decide +kernel
theorem dJ0_isLatin1_aae02_10 : decode cJ0_isLatin1_aae02 10 = .ok (.ifCond .ne 7, 3) := by decide +kernel
theorem dJ0_isLatin1_aae02_13 : decode cJ0_isLatin1_aae02 13 = .ok (.iconst 1, 1) := by decide +kernel
theorem dJ0_isLatin1_aae02_14 : decode cJ0_isLatin1_aae02 14 = .ok (.goto 4, 3) := by decide +kernel
theorem dJ0_isLatin1_aae02_17 : decode cJ0_isLatin1_aae02 17 = .ok (.iconst 0, 1) := by decide +kernel
theorem dJ0_isLatin1_aae02_18 : decode cJ0_isLatin1_aae02 18 = .ok (.ireturn, 1) := by decide +kernel
theorem dJ0_checkIndex_df160_0 : decode cJ0_checkIndex_df160 0 = .ok (.iload_n 0, 1) := by decide +kernel
theorem dJ0_checkIndex_df160_1 : decode cJ0_checkIndex_df160 1 = .ok (.iload_n 1, 1) := by decide +kernel
theorem dJ0_checkIndex_df160_2 : decode cJ0_checkIndex_df160 2 = .ok (.getstatic 1053, 3) := by decide +kernel
theorem dJ0_checkIndex_df160_5 : decode cJ0_checkIndex_df160 5 = .ok (.invokestatic 1059, 3) := by decide +kernel
theorem dJ0_checkIndex_df160_8 : decode cJ0_checkIndex_df160 8 = .ok (.pop, 1) := by decide +kernel
theorem dJ0_checkIndex_df160_9 : decode cJ0_checkIndex_df160 9 = .ok (.return_, 1) := by decide +kernel
theorem dJ1_charAt_3b067_0 : decode cJ1_charAt_3b067 0 = .ok (.iload_n 1, 1) := by decide +kernel
theorem dJ1_charAt_3b067_1 : decode cJ1_charAt_3b067 1 = .ok (.aload_n 0, 1) := by decide +kernel
theorem dJ1_charAt_3b067_2 : decode cJ1_charAt_3b067 2 = .ok (.arraylength, 1) := by decide +kernel
theorem dJ1_charAt_3b067_3 : decode cJ1_charAt_3b067 3 = .ok (.invokestatic 9, 3) := by decide +kernel
theorem dJ1_charAt_3b067_6 : decode cJ1_charAt_3b067 6 = .ok (.aload_n 0, 1) := by decide +kernel
theorem dJ1_charAt_3b067_7 : decode cJ1_charAt_3b067 7 = .ok (.iload_n 1, 1) := by decide +kernel
theorem dJ1_charAt_3b067_8 : decode cJ1_charAt_3b067 8 = .ok (.baload, 1) := by decide +kernel
theorem dJ1_charAt_3b067_9 : decode cJ1_charAt_3b067 9 = .ok (.sipush 255, 3) := by decide +kernel
theorem dJ1_charAt_3b067_12 : decode cJ1_charAt_3b067 12 = .ok (.iand, 1) := by decide +kernel
theorem dJ1_charAt_3b067_13 : decode cJ1_charAt_3b067 13 = .ok (.i2c, 1) := by decide +kernel
theorem dJ1_charAt_3b067_14 : decode cJ1_charAt_3b067 14 = .ok (.ireturn, 1) := by decide +kernel
theorem dJ2_getChar_3b067_0 : decode cJ2_getChar_3b067 0 = .ok (.getstatic 44, 3) := by decide +kernel
theorem dJ2_getChar_3b067_3 : decode cJ2_getChar_3b067 3 = .ok (.ifCond .ne 25, 3) := by decide +kernel
theorem dJ2_getChar_3b067_6 : decode cJ2_getChar_3b067 6 = .ok (.iload_n 1, 1) := by decide +kernel
theorem dJ2_getChar_3b067_7 : decode cJ2_getChar_3b067 7 = .ok (.ifCond .lt 11, 3) := by decide +kernel
theorem dJ2_getChar_3b067_10 : decode cJ2_getChar_3b067 10 = .ok (.iload_n 1, 1) := by decide +kernel
theorem dJ2_getChar_3b067_11 : decode cJ2_getChar_3b067 11 = .ok (.aload_n 0, 1) := by decide +kernel
theorem dJ2_getChar_3b067_12 : decode cJ2_getChar_3b067 12 = .ok (.invokestatic 48, 3) := by decide +kernel
theorem dJ2_getChar_3b067_15 : decode cJ2_getChar_3b067 15 = .ok (.if_icmp .lt 13, 3) := by decide +kernel
theorem dJ2_getChar_3b067_18 : decode cJ2_getChar_3b067 18 = .ok (.new 52, 3) := by decide +kernel
theorem dJ2_getChar_3b067_21 : decode cJ2_getChar_3b067 21 = .ok (.dup, 1) := by decide +kernel
theorem dJ2_getChar_3b067_22 : decode cJ2_getChar_3b067 22 = .ok (.ldc 54, 2) := by decide +kernel
theorem dJ2_getChar_3b067_24 : decode cJ2_getChar_3b067 24 = .ok (.invokespecial 56, 3) := by decide +kernel
theorem dJ2_getChar_3b067_27 : decode cJ2_getChar_3b067 27 = .ok (.athrow, 1) := by decide +kernel
theorem dJ2_getChar_3b067_28 : decode cJ2_getChar_3b067 28 = .ok (.iload_n 1, 1) := by decide +kernel
theorem dJ2_getChar_3b067_29 : decode cJ2_getChar_3b067 29 = .ok (.iconst 1, 1) := by decide +kernel
theorem dJ2_getChar_3b067_30 : decode cJ2_getChar_3b067 30 = .ok (.ishl, 1) := by decide +kernel
theorem dJ2_getChar_3b067_31 : decode cJ2_getChar_3b067 31 = .ok (.istore_n 1, 1) := by decide +kernel
theorem dJ2_getChar_3b067_32 : decode cJ2_getChar_3b067 32 = .ok (.aload_n 0, 1) := by decide +kernel
theorem dJ2_getChar_3b067_33 : decode cJ2_getChar_3b067 33 = .ok (.iload_n 1, 1) := by decide +kernel
theorem dJ2_getChar_3b067_34 : decode cJ2_getChar_3b067 34 = .ok (.iinc 1 1, 3) := by decide +kernel
theorem dJ2_getChar_3b067_37 : decode cJ2_getChar_3b067 37 = .ok (.baload, 1) := by decide +kernel
theorem dJ2_getChar_3b067_38 : decode cJ2_getChar_3b067 38 = .ok (.sipush 255, 3) := by decide +kernel
theorem dJ2_getChar_3b067_41 : decode cJ2_getChar_3b067 41 = .ok (.iand, 1) := by decide +kernel
theorem dJ2_getChar_3b067_42 : decode cJ2_getChar_3b067 42 = .ok (.getstatic 59, 3) := by decide +kernel
theorem dJ2_getChar_3b067_45 : decode cJ2_getChar_3b067 45 = .ok (.ishl, 1) := by decide +kernel
theorem dJ2_getChar_3b067_46 : decode cJ2_getChar_3b067 46 = .ok (.aload_n 0, 1) := by decide +kernel
theorem dJ2_getChar_3b067_47 : decode cJ2_getChar_3b067 47 = .ok (.iload_n 1, 1) := by decide +kernel
theorem dJ2_getChar_3b067_48 : decode cJ2_getChar_3b067 48 = .ok (.baload, 1) := by decide +kernel
theorem dJ2_getChar_3b067_49 : decode cJ2_getChar_3b067 49 = .ok (.sipush 255, 3) := by decide +kernel
theorem dJ2_getChar_3b067_52 : decode cJ2_getChar_3b067 52 = .ok (.iand, 1) := by decide +kernel
theorem dJ2_getChar_3b067_53 : decode cJ2_getChar_3b067 53 = .ok (.getstatic 63, 3) := by decide +kernel
theorem dJ2_getChar_3b067_56 : decode cJ2_getChar_3b067 56 = .ok (.ishl, 1) := by decide +kernel
theorem dJ2_getChar_3b067_57 : decode cJ2_getChar_3b067 57 = .ok (.ior, 1) := by decide +kernel
theorem dJ2_getChar_3b067_58 : decode cJ2_getChar_3b067 58 = .ok (.i2c, 1) := by decide +kernel
theorem dJ2_getChar_3b067_59 : decode cJ2_getChar_3b067 59 = .ok (.ireturn, 1) := by decide +kernel
theorem dJ2_length_9d52b_0 : decode cJ2_length_9d52b 0 = .ok (.aload_n 0, 1) := by decide +kernel
theorem dJ2_length_9d52b_1 : decode cJ2_length_9d52b 1 = .ok (.arraylength, 1) := by decide +kernel
theorem dJ2_length_9d52b_2 : decode cJ2_length_9d52b 2 = .ok (.iconst 1, 1) := by decide +kernel
theorem dJ2_length_9d52b_3 : decode cJ2_length_9d52b 3 = .ok (.ishr, 1) := by decide +kernel
theorem dJ2_length_9d52b_4 : decode cJ2_length_9d52b 4 = .ok (.ireturn, 1) := by decide +kernel
theorem dJ2_charAt_3b067_0 : decode cJ2_charAt_3b067 0 = .ok (.iload_n 1, 1) := by decide +kernel
theorem dJ2_charAt_3b067_1 : decode cJ2_charAt_3b067 1 = .ok (.aload_n 0, 1) := by decide +kernel
theorem dJ2_charAt_3b067_2 : decode cJ2_charAt_3b067 2 = .ok (.invokestatic 67, 3) := by decide +kernel
theorem dJ2_charAt_3b067_5 : decode cJ2_charAt_3b067 5 = .ok (.aload_n 0, 1) := by decide +kernel
theorem dJ2_charAt_3b067_6 : decode cJ2_charAt_3b067 6 = .ok (.iload_n 1, 1) := by decide +kernel
theorem dJ2_charAt_3b067_7 : decode cJ2_charAt_3b067 7 = .ok (.invokestatic 71, 3) := by decide +kernel
theorem dJ2_charAt_3b067_10 : decode cJ2_charAt_3b067 10 = .ok (.ireturn, 1) := by decide +kernel
theorem dJ2_checkIndex_2214a_0 : decode cJ2_checkIndex_2214a 0 = .ok (.iload_n 0, 1) := by decide +kernel
theorem dJ2_checkIndex_2214a_1 : decode cJ2_checkIndex_2214a 1 = .ok (.aload_n 1, 1) := by decide +kernel
theorem dJ2_checkIndex_2214a_2 : decode cJ2_checkIndex_2214a 2 = .ok (.invokestatic 48, 3) := by decide +kernel
theorem dJ2_checkIndex_2214a_5 : decode cJ2_checkIndex_2214a 5 = .ok (.invokestatic 414, 3) := by decide +kernel
theorem dJ2_checkIndex_2214a_8 : decode cJ2_checkIndex_2214a 8 = .ok (.return_, 1) := by decide +kernel
theorem dJ3_checkIndex_8e157_0 : decode cJ3_checkIndex_8e157 0 = .ok (.iload_n 0, 1) := by decide +kernel
theorem dJ3_checkIndex_8e157_1 : decode cJ3_checkIndex_8e157 1 = .ok (.ifCond .lt 8, 3) := by decide +kernel
theorem dJ3_checkIndex_8e157_4 : decode cJ3_checkIndex_8e157 4 = .ok (.iload_n 0, 1) := by decide +kernel
theorem dJ3_checkIndex_8e157_5 : decode cJ3_checkIndex_8e157 5 = .ok (.iload_n 1, 1) := by decide +kernel
theorem dJ3_checkIndex_8e157_6 : decode cJ3_checkIndex_8e157 6 = .ok (.if_icmp .lt 10, 3) := by decide +kernel
theorem dJ3_checkIndex_8e157_9 : decode cJ3_checkIndex_8e157 9 = .ok (.aload_n 2, 1) := by decide +kernel
theorem dJ3_checkIndex_8e157_10 : decode cJ3_checkIndex_8e157 10 = .ok (.iload_n 0, 1) := by decide +kernel
theorem dJ3_checkIndex_8e157_11 : decode cJ3_checkIndex_8e157 11 = .ok (.iload_n 1, 1) := by decide +kernel
theorem dJ3_checkIndex_8e157_12 : decode cJ3_checkIndex_8e157 12 = .ok (.invokestatic 95, 3) := by decide +kernel
theorem dJ3_checkIndex_8e157_15 : decode cJ3_checkIndex_8e157 15 = .ok (.athrow, 1) := by decide +kernel
theorem dJ3_checkIndex_8e157_16 : decode cJ3_checkIndex_8e157 16 = .ok (.iload_n 0, 1) := by decide +kernel
theorem dJ3_checkIndex_8e157_17 : decode cJ3_checkIndex_8e157 17 = .ok (.ireturn, 1) := by decide +kernel
end
section
/-! decode rows: the reference -/
theorem dX1_init_0 : decode cX1_init 0 = .ok (.aload_n 0, 1) := by decide +kernel
theorem dX1_init_1 : decode cX1_init 1 = .ok (.invokespecial 1, 3) := by decide +kernel
theorem dX1_init_4 : decode cX1_init 4 = .ok (.aload_n 0, 1) := by decide +kernel
theorem dX1_init_5 : decode cX1_init 5 = .ok (.bipush 10, 2) := by decide +kernel
theorem dX1_init_7 : decode cX1_init 7 = .ok (.newarray .boolean, 2) := by decide +kernel
theorem dX1_init_9 : decode cX1_init 9 = .ok (.putfield 9, 3) := by decide +kernel
theorem dX1_init_12 : decode cX1_init 12 = .ok (.aload_n 0, 1) := by decide +kernel
theorem dX1_init_13 : decode cX1_init 13 = .ok (.bipush 10, 2) := by decide +kernel
theorem dX1_init_15 : decode cX1_init 15 = .ok (.newarray .int, 2) := by decide +kernel
theorem dX1_init_17 : decode cX1_init 17 = .ok (.putfield 13, 3) := by decide +kernel
theorem dX1_init_20 : decode cX1_init 20 = .ok (.aload_n 0, 1) := by decide +kernel
theorem dX1_init_21 : decode cX1_init 21 = .ok (.bipush 10, 2) := by decide +kernel
theorem dX1_init_23 : decode cX1_init 23 = .ok (.newarray .int, 2) := by decide +kernel
theorem dX1_init_25 : decode cX1_init 25 = .ok (.putfield 17, 3) := by decide +kernel
theorem dX1_init_28 : decode cX1_init 28 = .ok (.aload_n 0, 1) := by decide +kernel
theorem dX1_init_29 : decode cX1_init 29 = .ok (.bipush 10, 2) := by decide +kernel
theorem dX1_init_31 : decode cX1_init 31 = .ok (.newarray .int, 2) := by decide +kernel
theorem dX1_init_33 : decode cX1_init 33 = .ok (.putfield 20, 3) := by decide +kernel
theorem dX1_init_36 : decode cX1_init 36 = .ok (.aload_n 0, 1) := by decide +kernel
theorem dX1_init_37 : decode cX1_init 37 = .ok (.bipush 10, 2) := by decide +kernel
theorem dX1_init_39 : decode cX1_init 39 = .ok (.newarray .int, 2) := by decide +kernel
theorem dX1_init_41 : decode cX1_init 41 = .ok (.putfield 23, 3) := by decide +kernel
theorem dX1_init_44 : decode cX1_init 44 = .ok (.aload_n 0, 1) := by decide +kernel
theorem dX1_init_45 : decode cX1_init 45 = .ok (.bipush 6, 2) := by decide +kernel
theorem dX1_init_47 : decode cX1_init 47 = .ok (.newarray .int, 2) := by decide +kernel
theorem dX1_init_49 : decode cX1_init 49 = .ok (.putfield 26, 3) := by decide +kernel
theorem dX1_init_52 : decode cX1_init 52 = .ok (.aload_n 0, 1) := by decide +kernel
theorem dX1_init_53 : decode cX1_init 53 = .ok (.bipush 6, 2) := by decide +kernel
theorem dX1_init_55 : decode cX1_init 55 = .ok (.newarray .boolean, 2) := by decide +kernel
theorem dX1_init_57 : decode cX1_init 57 = .ok (.putfield 29, 3) := by decide +kernel
theorem dX1_init_60 : decode cX1_init 60 = .ok (.aload_n 0, 1) := by decide +kernel
theorem dX1_init_61 : decode cX1_init 61 = .ok (.bipush 60, 2) := by decide +kernel
theorem dX1_init_63 : decode cX1_init 63 = .ok (.newarray .int, 2) := by decide +kernel
theorem dX1_init_65 : decode cX1_init 65 = .ok (.putfield 32, 3) := by decide +kernel
theorem dX1_init_68 : decode cX1_init 68 = .ok (.aload_n 0, 1) := by decide +kernel
theorem dX1_init_69 : decode cX1_init 69 = .ok (.bipush 60, 2) := by decide +kernel
theorem dX1_init_71 : decode cX1_init 71 = .ok (.newarray .int, 2) := by decide +kernel
theorem dX1_init_73 : decode cX1_init 73 = .ok (.putfield 35, 3) := by decide +kernel
theorem dX1_init_76 : decode cX1_init 76 = .ok (.return_, 1) := by decide +kernel
theorem dX1_thrown_0 : decode cX1_thrown 0 = .ok (.aload_n 0, 1) := by decide +kernel
theorem dX1_thrown_1 : decode cX1_thrown 1 = .ok (.getfield 38, 3) := by decide +kernel
theorem dX1_thrown_4 : decode cX1_thrown 4 = .ok (.ireturn, 1) := by decide +kernel
theorem dX1_fail_0 : decode cX1_fail 0 = .ok (.aload_n 0, 1) := by decide +kernel
theorem dX1_fail_1 : decode cX1_fail 1 = .ok (.iload_n 1, 1) := by decide +kernel
theorem dX1_fail_2 : decode cX1_fail 2 = .ok (.putfield 38, 3) := by decide +kernel
theorem dX1_fail_5 : decode cX1_fail 5 = .ok (.iconst 0, 1) := by decide +kernel
theorem dX1_fail_6 : decode cX1_fail 6 = .ok (.ireturn, 1) := by decide +kernel
theorem dX1_told_0 : decode cX1_told 0 = .ok (.aload_n 0, 1) := by decide +kernel
theorem dX1_told_1 : decode cX1_told 1 = .ok (.iconst 0, 1) := by decide +kernel
theorem dX1_told_2 : decode cX1_told 2 = .ok (.putfield 38, 3) := by decide +kernel
theorem dX1_told_5 : decode cX1_told 5 = .ok (.iload_n 1, 1) := by decide +kernel
theorem dX1_told_6 : decode cX1_told 6 = .ok (.ireturn, 1) := by decide +kernel
theorem dX1_isIn_0 : decode cX1_isIn 0 = .ok (.iload_n 0, 1) := by decide +kernel
theorem dX1_isIn_1 : decode cX1_isIn 1 = .ok (.iload_n 1, 1) := by decide +kernel
theorem dX1_isIn_2 : decode cX1_isIn 2 = .ok (.if_icmp .lt 12, 3) := by decide +kernel
theorem dX1_isIn_5 : decode cX1_isIn 5 = .ok (.iload_n 0, 1) := by decide +kernel
theorem dX1_isIn_6 : decode cX1_isIn 6 = .ok (.iload_n 2, 1) := by decide +kernel
theorem dX1_isIn_7 : decode cX1_isIn 7 = .ok (.if_icmp .gt 7, 3) := by decide +kernel
theorem dX1_isIn_10 : decode cX1_isIn 10 = .ok (.iconst 1, 1) := by decide +kernel
theorem dX1_isIn_11 : decode cX1_isIn 11 = .ok (.goto 4, 3) := by decide +kernel
theorem dX1_isIn_14 : decode cX1_isIn 14 = .ok (.iconst 0, 1) := by decide +kernel
theorem dX1_isIn_15 : decode cX1_isIn 15 = .ok (.ireturn, 1) := by decide +kernel
theorem dX1_isPerson_0 : decode cX1_isPerson 0 = .ok (.iload_n 1, 1) := by decide +kernel
theorem dX1_isPerson_1 : decode cX1_isPerson 1 = .ok (.iconst 0, 1) := by decide +kernel
theorem dX1_isPerson_2 : decode cX1_isPerson 2 = .ok (.aload_n 0, 1) := by decide +kernel
theorem dX1_isPerson_3 : decode cX1_isPerson 3 = .ok (.getfield 42, 3) := by decide +kernel
theorem dX1_isPerson_6 : decode cX1_isPerson 6 = .ok (.iconst 1, 1) := by decide +kernel
theorem dX1_isPerson_7 : decode cX1_isPerson 7 = .ok (.isub, 1) := by decide +kernel
theorem dX1_isPerson_8 : decode cX1_isPerson 8 = .ok (.invokestatic 45, 3) := by decide +kernel
theorem dX1_isPerson_11 : decode cX1_isPerson 11 = .ok (.ireturn, 1) := by decide +kernel
theorem dX1_isWitness_0 : decode cX1_isWitness 0 = .ok (.iload_n 1, 1) := by decide +kernel
theorem dX1_isWitness_1 : decode cX1_isWitness 1 = .ok (.iconst 0, 1) := by decide +kernel
theorem dX1_isWitness_2 : decode cX1_isWitness 2 = .ok (.aload_n 0, 1) := by decide +kernel
theorem dX1_isWitness_3 : decode cX1_isWitness 3 = .ok (.getfield 49, 3) := by decide +kernel
theorem dX1_isWitness_6 : decode cX1_isWitness 6 = .ok (.iconst 1, 1) := by decide +kernel
theorem dX1_isWitness_7 : decode cX1_isWitness 7 = .ok (.isub, 1) := by decide +kernel
theorem dX1_isWitness_8 : decode cX1_isWitness 8 = .ok (.invokestatic 45, 3) := by decide +kernel
theorem dX1_isWitness_11 : decode cX1_isWitness 11 = .ok (.ireturn, 1) := by decide +kernel
theorem dX1_isMiss_0 : decode cX1_isMiss 0 = .ok (.iload_n 1, 1) := by decide +kernel
theorem dX1_isMiss_1 : decode cX1_isMiss 1 = .ok (.iconst 0, 1) := by decide +kernel
theorem dX1_isMiss_2 : decode cX1_isMiss 2 = .ok (.aload_n 0, 1) := by decide +kernel
theorem dX1_isMiss_3 : decode cX1_isMiss 3 = .ok (.getfield 52, 3) := by decide +kernel
theorem dX1_isMiss_6 : decode cX1_isMiss 6 = .ok (.iconst 1, 1) := by decide +kernel
theorem dX1_isMiss_7 : decode cX1_isMiss 7 = .ok (.isub, 1) := by decide +kernel
theorem dX1_isMiss_8 : decode cX1_isMiss 8 = .ok (.invokestatic 45, 3) := by decide +kernel
theorem dX1_isMiss_11 : decode cX1_isMiss 11 = .ok (.ireturn, 1) := by decide +kernel
theorem dX1_price_0 : decode cX1_price 0 = .ok (.iconst 5, 1) := by decide +kernel
theorem dX1_price_1 : decode cX1_price 1 = .ok (.bipush 99, 2) := by decide +kernel
theorem dX1_price_3 : decode cX1_price 3 = .ok (.aload_n 0, 1) := by decide +kernel
theorem dX1_price_4 : decode cX1_price 4 = .ok (.getfield 13, 3) := by decide +kernel
theorem dX1_price_7 : decode cX1_price 7 = .ok (.iload_n 1, 1) := by decide +kernel
theorem dX1_price_8 : decode cX1_price 8 = .ok (.iaload, 1) := by decide +kernel
theorem dX1_price_9 : decode cX1_price 9 = .ok (.isub, 1) := by decide +kernel
theorem dX1_price_10 : decode cX1_price 10 = .ok (.bipush 10, 2) := by decide +kernel
theorem dX1_price_12 : decode cX1_price 12 = .ok (.idiv, 1) := by decide +kernel
theorem dX1_price_13 : decode cX1_price 13 = .ok (.iadd, 1) := by decide +kernel
theorem dX1_price_14 : decode cX1_price 14 = .ok (.ireturn, 1) := by decide +kernel
theorem dX1_last_0 : decode cX1_last 0 = .ok (.iload_n 1, 1) := by decide +kernel
theorem dX1_last_1 : decode cX1_last 1 = .ok (.istore_n 2, 1) := by decide +kernel
theorem dX1_last_2 : decode cX1_last 2 = .ok (.iconst 0, 1) := by decide +kernel
theorem dX1_last_3 : decode cX1_last 3 = .ok (.istore_n 3, 1) := by decide +kernel
theorem dX1_last_4 : decode cX1_last 4 = .ok (.iload_n 3, 1) := by decide +kernel
theorem dX1_last_5 : decode cX1_last 5 = .ok (.aload_n 0, 1) := by decide +kernel
theorem dX1_last_6 : decode cX1_last 6 = .ok (.getfield 42, 3) := by decide +kernel
theorem dX1_last_9 : decode cX1_last 9 = .ok (.if_icmp .gt 39, 3) := by decide +kernel
theorem dX1_last_12 : decode cX1_last 12 = .ok (.aload_n 0, 1) := by decide +kernel
theorem dX1_last_13 : decode cX1_last 13 = .ok (.getfield 23, 3) := by decide +kernel
theorem dX1_last_16 : decode cX1_last 16 = .ok (.iload_n 2, 1) := by decide +kernel
theorem dX1_last_17 : decode cX1_last 17 = .ok (.iaload, 1) := by decide +kernel
theorem dX1_last_18 : decode cX1_last 18 = .ok (.istore_n 2, 1) := by decide +kernel
theorem dX1_last_19 : decode cX1_last 19 = .ok (.iload_n 2, 1) := by decide +kernel
theorem dX1_last_20 : decode cX1_last 20 = .ok (.iconst (-1), 1) := by decide +kernel
theorem dX1_last_21 : decode cX1_last 21 = .ok (.if_icmp .eq 8, 3) := by decide +kernel
theorem dX1_last_24 : decode cX1_last 24 = .ok (.iload_n 2, 1) := by decide +kernel
theorem dX1_last_25 : decode cX1_last 25 = .ok (.iload_n 1, 1) := by decide +kernel
theorem dX1_last_26 : decode cX1_last 26 = .ok (.if_icmp .ne 5, 3) := by decide +kernel
theorem dX1_last_29 : decode cX1_last 29 = .ok (.iconst (-1), 1) := by decide +kernel
theorem dX1_last_30 : decode cX1_last 30 = .ok (.ireturn, 1) := by decide +kernel
theorem dX1_last_31 : decode cX1_last 31 = .ok (.aload_n 0, 1) := by decide +kernel
theorem dX1_last_32 : decode cX1_last 32 = .ok (.getfield 9, 3) := by decide +kernel
theorem dX1_last_35 : decode cX1_last 35 = .ok (.iload_n 2, 1) := by decide +kernel
theorem dX1_last_36 : decode cX1_last 36 = .ok (.baload, 1) := by decide +kernel
theorem dX1_last_37 : decode cX1_last 37 = .ok (.ifCond .ne 5, 3) := by decide +kernel
theorem dX1_last_40 : decode cX1_last 40 = .ok (.iload_n 2, 1) := by decide +kernel
theorem dX1_last_41 : decode cX1_last 41 = .ok (.ireturn, 1) := by decide +kernel
theorem dX1_last_42 : decode cX1_last 42 = .ok (.iinc 3 1, 3) := by decide +kernel
theorem dX1_last_45 : decode cX1_last 45 = .ok (.goto (-41), 3) := by decide +kernel
theorem dX1_last_48 : decode cX1_last 48 = .ok (.iconst (-1), 1) := by decide +kernel
theorem dX1_last_49 : decode cX1_last 49 = .ok (.ireturn, 1) := by decide +kernel
theorem dX1_tells_0 : decode cX1_tells 0 = .ok (.aload_n 0, 1) := by decide +kernel
theorem dX1_tells_1 : decode cX1_tells 1 = .ok (.getfield 26, 3) := by decide +kernel
theorem dX1_tells_4 : decode cX1_tells 4 = .ok (.iload_n 1, 1) := by decide +kernel
theorem dX1_tells_5 : decode cX1_tells 5 = .ok (.iaload, 1) := by decide +kernel
theorem dX1_tells_6 : decode cX1_tells 6 = .ok (.iconst 2, 1) := by decide +kernel
theorem dX1_tells_7 : decode cX1_tells 7 = .ok (.if_icmp .gt 7, 3) := by decide +kernel
theorem dX1_tells_10 : decode cX1_tells 10 = .ok (.iconst 0, 1) := by decide +kernel
theorem dX1_tells_11 : decode cX1_tells 11 = .ok (.goto 20, 3) := by decide +kernel
theorem dX1_tells_14 : decode cX1_tells 14 = .ok (.iconst 1, 1) := by decide +kernel
theorem dX1_tells_15 : decode cX1_tells 15 = .ok (.iload_n 2, 1) := by decide +kernel
theorem dX1_tells_16 : decode cX1_tells 16 = .ok (.bipush 9, 2) := by decide +kernel
theorem dX1_tells_18 : decode cX1_tells 18 = .ok (.aload_n 0, 1) := by decide +kernel
theorem dX1_tells_19 : decode cX1_tells 19 = .ok (.getfield 26, 3) := by decide +kernel
theorem dX1_tells_22 : decode cX1_tells 22 = .ok (.iload_n 1, 1) := by decide +kernel
theorem dX1_tells_23 : decode cX1_tells 23 = .ok (.iaload, 1) := by decide +kernel
theorem dX1_tells_24 : decode cX1_tells 24 = .ok (.isub, 1) := by decide +kernel
theorem dX1_tells_25 : decode cX1_tells 25 = .ok (.iconst 2, 1) := by decide +kernel
theorem dX1_tells_26 : decode cX1_tells 26 = .ok (.idiv, 1) := by decide +kernel
theorem dX1_tells_27 : decode cX1_tells 27 = .ok (.isub, 1) := by decide +kernel
theorem dX1_tells_28 : decode cX1_tells 28 = .ok (.invokestatic 55, 3) := by decide +kernel
theorem dX1_tells_31 : decode cX1_tells 31 = .ok (.ireturn, 1) := by decide +kernel
theorem dX1_middle_0 : decode cX1_middle 0 = .ok (.iconst 0, 1) := by decide +kernel
theorem dX1_middle_1 : decode cX1_middle 1 = .ok (.istore_n 2, 1) := by decide +kernel
theorem dX1_middle_2 : decode cX1_middle 2 = .ok (.iconst 0, 1) := by decide +kernel
theorem dX1_middle_3 : decode cX1_middle 3 = .ok (.istore_n 3, 1) := by decide +kernel
theorem dX1_middle_4 : decode cX1_middle 4 = .ok (.iload_n 3, 1) := by decide +kernel
theorem dX1_middle_5 : decode cX1_middle 5 = .ok (.aload_n 0, 1) := by decide +kernel
theorem dX1_middle_6 : decode cX1_middle 6 = .ok (.getfield 49, 3) := by decide +kernel
theorem dX1_middle_9 : decode cX1_middle 9 = .ok (.if_icmp .ge 35, 3) := by decide +kernel
theorem dX1_middle_12 : decode cX1_middle 12 = .ok (.iload_n 2, 1) := by decide +kernel
theorem dX1_middle_13 : decode cX1_middle 13 = .ok (.aload_n 0, 1) := by decide +kernel
theorem dX1_middle_14 : decode cX1_middle 14 = .ok (.getfield 29, 3) := by decide +kernel
theorem dX1_middle_17 : decode cX1_middle 17 = .ok (.iload_n 3, 1) := by decide +kernel
theorem dX1_middle_18 : decode cX1_middle 18 = .ok (.baload, 1) := by decide +kernel
theorem dX1_middle_19 : decode cX1_middle 19 = .ok (.ifCond .ne 16, 3) := by decide +kernel
theorem dX1_middle_22 : decode cX1_middle 22 = .ok (.aload_n 0, 1) := by decide +kernel
theorem dX1_middle_23 : decode cX1_middle 23 = .ok (.iload_n 3, 1) := by decide +kernel
theorem dX1_middle_24 : decode cX1_middle 24 = .ok (.iload_n 1, 1) := by decide +kernel
theorem dX1_middle_25 : decode cX1_middle 25 = .ok (.invokevirtual 61, 3) := by decide +kernel
theorem dX1_middle_28 : decode cX1_middle 28 = .ok (.ifCond .le 7, 3) := by decide +kernel
theorem dX1_middle_31 : decode cX1_middle 31 = .ok (.iconst 1, 1) := by decide +kernel
theorem dX1_middle_32 : decode cX1_middle 32 = .ok (.goto 4, 3) := by decide +kernel
theorem dX1_middle_35 : decode cX1_middle 35 = .ok (.iconst 0, 1) := by decide +kernel
theorem dX1_middle_36 : decode cX1_middle 36 = .ok (.iadd, 1) := by decide +kernel
theorem dX1_middle_37 : decode cX1_middle 37 = .ok (.istore_n 2, 1) := by decide +kernel
theorem dX1_middle_38 : decode cX1_middle 38 = .ok (.iinc 3 1, 3) := by decide +kernel
theorem dX1_middle_41 : decode cX1_middle 41 = .ok (.goto (-37), 3) := by decide +kernel
theorem dX1_middle_44 : decode cX1_middle 44 = .ok (.iload_n 2, 1) := by decide +kernel
theorem dX1_middle_45 : decode cX1_middle 45 = .ok (.ifCond .ne 5, 3) := by decide +kernel
theorem dX1_middle_48 : decode cX1_middle 48 = .ok (.iconst 0, 1) := by decide +kernel
theorem dX1_middle_49 : decode cX1_middle 49 = .ok (.ireturn, 1) := by decide +kernel
theorem dX1_middle_50 : decode cX1_middle 50 = .ok (.iconst 0, 1) := by decide +kernel
theorem dX1_middle_51 : decode cX1_middle 51 = .ok (.istore_n 3, 1) := by decide +kernel
theorem dX1_middle_52 : decode cX1_middle 52 = .ok (.iconst 1, 1) := by decide +kernel
theorem dX1_middle_53 : decode cX1_middle 53 = .ok (.istore 4, 2) := by decide +kernel
theorem dX1_middle_55 : decode cX1_middle 55 = .ok (.iload 4, 2) := by decide +kernel
theorem dX1_middle_57 : decode cX1_middle 57 = .ok (.bipush 60, 2) := by decide +kernel
theorem dX1_middle_59 : decode cX1_middle 59 = .ok (.if_icmp .gt 69, 3) := by decide +kernel
theorem dX1_middle_62 : decode cX1_middle 62 = .ok (.iconst 0, 1) := by decide +kernel
theorem dX1_middle_63 : decode cX1_middle 63 = .ok (.istore 5, 2) := by decide +kernel
theorem dX1_middle_65 : decode cX1_middle 65 = .ok (.iload 5, 2) := by decide +kernel
theorem dX1_middle_67 : decode cX1_middle 67 = .ok (.aload_n 0, 1) := by decide +kernel
theorem dX1_middle_68 : decode cX1_middle 68 = .ok (.getfield 49, 3) := by decide +kernel
theorem dX1_middle_71 : decode cX1_middle 71 = .ok (.if_icmp .ge 39, 3) := by decide +kernel
theorem dX1_middle_74 : decode cX1_middle 74 = .ok (.iload_n 3, 1) := by decide +kernel
theorem dX1_middle_75 : decode cX1_middle 75 = .ok (.aload_n 0, 1) := by decide +kernel
theorem dX1_middle_76 : decode cX1_middle 76 = .ok (.getfield 29, 3) := by decide +kernel
theorem dX1_middle_79 : decode cX1_middle 79 = .ok (.iload 5, 2) := by decide +kernel
theorem dX1_middle_81 : decode cX1_middle 81 = .ok (.baload, 1) := by decide +kernel
theorem dX1_middle_82 : decode cX1_middle 82 = .ok (.ifCond .ne 19, 3) := by decide +kernel
theorem dX1_middle_85 : decode cX1_middle 85 = .ok (.aload_n 0, 1) := by decide +kernel
theorem dX1_middle_86 : decode cX1_middle 86 = .ok (.iload 5, 2) := by decide +kernel
theorem dX1_middle_88 : decode cX1_middle 88 = .ok (.iload_n 1, 1) := by decide +kernel
theorem dX1_middle_89 : decode cX1_middle 89 = .ok (.invokevirtual 61, 3) := by decide +kernel
theorem dX1_middle_92 : decode cX1_middle 92 = .ok (.iload 4, 2) := by decide +kernel
theorem dX1_middle_94 : decode cX1_middle 94 = .ok (.if_icmp .ne 7, 3) := by decide +kernel
theorem dX1_middle_97 : decode cX1_middle 97 = .ok (.iconst 1, 1) := by decide +kernel
theorem dX1_middle_98 : decode cX1_middle 98 = .ok (.goto 4, 3) := by decide +kernel
theorem dX1_middle_101 : decode cX1_middle 101 = .ok (.iconst 0, 1) := by decide +kernel
theorem dX1_middle_102 : decode cX1_middle 102 = .ok (.iadd, 1) := by decide +kernel
theorem dX1_middle_103 : decode cX1_middle 103 = .ok (.istore_n 3, 1) := by decide +kernel
theorem dX1_middle_104 : decode cX1_middle 104 = .ok (.iinc 5 1, 3) := by decide +kernel
theorem dX1_middle_107 : decode cX1_middle 107 = .ok (.goto (-42), 3) := by decide +kernel
theorem dX1_middle_110 : decode cX1_middle 110 = .ok (.iload_n 3, 1) := by decide +kernel
theorem dX1_middle_111 : decode cX1_middle 111 = .ok (.iload_n 2, 1) := by decide +kernel
theorem dX1_middle_112 : decode cX1_middle 112 = .ok (.iconst 1, 1) := by decide +kernel
theorem dX1_middle_113 : decode cX1_middle 113 = .ok (.isub, 1) := by decide +kernel
theorem dX1_middle_114 : decode cX1_middle 114 = .ok (.iconst 2, 1) := by decide +kernel
theorem dX1_middle_115 : decode cX1_middle 115 = .ok (.idiv, 1) := by decide +kernel
theorem dX1_middle_116 : decode cX1_middle 116 = .ok (.if_icmp .le 6, 3) := by decide +kernel
theorem dX1_middle_119 : decode cX1_middle 119 = .ok (.iload 4, 2) := by decide +kernel
theorem dX1_middle_121 : decode cX1_middle 121 = .ok (.ireturn, 1) := by decide +kernel
theorem dX1_middle_122 : decode cX1_middle 122 = .ok (.iinc 4 1, 3) := by decide +kernel
theorem dX1_middle_125 : decode cX1_middle 125 = .ok (.goto (-70), 3) := by decide +kernel
theorem dX1_middle_128 : decode cX1_middle 128 = .ok (.iconst 0, 1) := by decide +kernel
theorem dX1_middle_129 : decode cX1_middle 129 = .ok (.ireturn, 1) := by decide +kernel
theorem dX1_refund_0 : decode cX1_refund 0 = .ok (.iload_n 2, 1) := by decide +kernel
theorem dX1_refund_1 : decode cX1_refund 1 = .ok (.ifCond .eq 18, 3) := by decide +kernel
theorem dX1_refund_4 : decode cX1_refund 4 = .ok (.iload_n 2, 1) := by decide +kernel
theorem dX1_refund_5 : decode cX1_refund 5 = .ok (.bipush 24, 2) := by decide +kernel
theorem dX1_refund_7 : decode cX1_refund 7 = .ok (.if_icmp .gt 12, 3) := by decide +kernel
theorem dX1_refund_10 : decode cX1_refund 10 = .ok (.aload_n 0, 1) := by decide +kernel
theorem dX1_refund_11 : decode cX1_refund 11 = .ok (.getfield 20, 3) := by decide +kernel
theorem dX1_refund_14 : decode cX1_refund 14 = .ok (.iload_n 1, 1) := by decide +kernel
theorem dX1_refund_15 : decode cX1_refund 15 = .ok (.iaload, 1) := by decide +kernel
theorem dX1_refund_16 : decode cX1_refund 16 = .ok (.ifCond .ne 5, 3) := by decide +kernel
theorem dX1_refund_19 : decode cX1_refund 19 = .ok (.iconst 0, 1) := by decide +kernel
theorem dX1_refund_20 : decode cX1_refund 20 = .ok (.ireturn, 1) := by decide +kernel
theorem dX1_refund_21 : decode cX1_refund 21 = .ok (.aload_n 0, 1) := by decide +kernel
theorem dX1_refund_22 : decode cX1_refund 22 = .ok (.getfield 64, 3) := by decide +kernel
theorem dX1_refund_25 : decode cX1_refund 25 = .ok (.aload_n 0, 1) := by decide +kernel
theorem dX1_refund_26 : decode cX1_refund 26 = .ok (.iload_n 1, 1) := by decide +kernel
theorem dX1_refund_27 : decode cX1_refund 27 = .ok (.invokevirtual 67, 3) := by decide +kernel
theorem dX1_refund_30 : decode cX1_refund 30 = .ok (.bipush 24, 2) := by decide +kernel
theorem dX1_refund_32 : decode cX1_refund 32 = .ok (.iadd, 1) := by decide +kernel
theorem dX1_refund_33 : decode cX1_refund 33 = .ok (.iload_n 2, 1) := by decide +kernel
theorem dX1_refund_34 : decode cX1_refund 34 = .ok (.isub, 1) := by decide +kernel
theorem dX1_refund_35 : decode cX1_refund 35 = .ok (.invokestatic 71, 3) := by decide +kernel
theorem dX1_refund_38 : decode cX1_refund 38 = .ok (.ireturn, 1) := by decide +kernel
theorem dX1_shock_0 : decode cX1_shock 0 = .ok (.iload_n 0, 1) := by decide +kernel
theorem dX1_shock_1 : decode cX1_shock 1 = .ok (.iconst 5, 1) := by decide +kernel
theorem dX1_shock_2 : decode cX1_shock 2 = .ok (.if_icmp .gt 7, 3) := by decide +kernel
theorem dX1_shock_5 : decode cX1_shock 5 = .ok (.iconst 3, 1) := by decide +kernel
theorem dX1_shock_6 : decode cX1_shock 6 = .ok (.goto 14, 3) := by decide +kernel
theorem dX1_shock_9 : decode cX1_shock 9 = .ok (.iload_n 0, 1) := by decide +kernel
theorem dX1_shock_10 : decode cX1_shock 10 = .ok (.bipush 12, 2) := by decide +kernel
theorem dX1_shock_12 : decode cX1_shock 12 = .ok (.if_icmp .gt 7, 3) := by decide +kernel
theorem dX1_shock_15 : decode cX1_shock 15 = .ok (.iconst 2, 1) := by decide +kernel
theorem dX1_shock_16 : decode cX1_shock 16 = .ok (.goto 4, 3) := by decide +kernel
theorem dX1_shock_19 : decode cX1_shock 19 = .ok (.iconst 1, 1) := by decide +kernel
theorem dX1_shock_20 : decode cX1_shock 20 = .ok (.ireturn, 1) := by decide +kernel
theorem dX1_seal_0 : decode cX1_seal 0 = .ok (.iload_n 0, 1) := by decide +kernel
theorem dX1_seal_1 : decode cX1_seal 1 = .ok (.istore_n 2, 1) := by decide +kernel
theorem dX1_seal_2 : decode cX1_seal 2 = .ok (.iconst 0, 1) := by decide +kernel
theorem dX1_seal_3 : decode cX1_seal 3 = .ok (.istore_n 3, 1) := by decide +kernel
theorem dX1_seal_4 : decode cX1_seal 4 = .ok (.iload_n 3, 1) := by decide +kernel
theorem dX1_seal_5 : decode cX1_seal 5 = .ok (.aload_n 1, 1) := by decide +kernel
theorem dX1_seal_6 : decode cX1_seal 6 = .ok (.invokevirtual 74, 3) := by decide +kernel
theorem dX1_seal_9 : decode cX1_seal 9 = .ok (.if_icmp .ge 20, 3) := by decide +kernel
theorem dX1_seal_12 : decode cX1_seal 12 = .ok (.bipush 31, 2) := by decide +kernel
theorem dX1_seal_14 : decode cX1_seal 14 = .ok (.iload_n 2, 1) := by decide +kernel
theorem dX1_seal_15 : decode cX1_seal 15 = .ok (.imul, 1) := by decide +kernel
theorem dX1_seal_16 : decode cX1_seal 16 = .ok (.aload_n 1, 1) := by decide +kernel
theorem dX1_seal_17 : decode cX1_seal 17 = .ok (.iload_n 3, 1) := by decide +kernel
theorem dX1_seal_18 : decode cX1_seal 18 = .ok (.invokevirtual 80, 3) := by decide +kernel
theorem dX1_seal_21 : decode cX1_seal 21 = .ok (.iadd, 1) := by decide +kernel
theorem dX1_seal_22 : decode cX1_seal 22 = .ok (.istore_n 2, 1) := by decide +kernel
theorem dX1_seal_23 : decode cX1_seal 23 = .ok (.iinc 3 1, 3) := by decide +kernel
theorem dX1_seal_26 : decode cX1_seal 26 = .ok (.goto (-22), 3) := by decide +kernel
theorem dX1_seal_29 : decode cX1_seal 29 = .ok (.iload_n 2, 1) := by decide +kernel
theorem dX1_seal_30 : decode cX1_seal 30 = .ok (.ireturn, 1) := by decide +kernel
theorem dX1_sealOfNumber_0 : decode cX1_sealOfNumber 0 = .ok (.bipush 31, 2) := by decide +kernel
theorem dX1_sealOfNumber_2 : decode cX1_sealOfNumber 2 = .ok (.iload_n 1, 1) := by decide +kernel
theorem dX1_sealOfNumber_3 : decode cX1_sealOfNumber 3 = .ok (.bipush 10, 2) := by decide +kernel
theorem dX1_sealOfNumber_5 : decode cX1_sealOfNumber 5 = .ok (.if_icmp .ge 7, 3) := by decide +kernel
theorem dX1_sealOfNumber_8 : decode cX1_sealOfNumber 8 = .ok (.iload_n 0, 1) := by decide +kernel
theorem dX1_sealOfNumber_9 : decode cX1_sealOfNumber 9 = .ok (.goto 15, 3) := by decide +kernel
theorem dX1_sealOfNumber_12 : decode cX1_sealOfNumber 12 = .ok (.bipush 31, 2) := by decide +kernel
theorem dX1_sealOfNumber_14 : decode cX1_sealOfNumber 14 = .ok (.iload_n 0, 1) := by decide +kernel
theorem dX1_sealOfNumber_15 : decode cX1_sealOfNumber 15 = .ok (.imul, 1) := by decide +kernel
theorem dX1_sealOfNumber_16 : decode cX1_sealOfNumber 16 = .ok (.bipush 48, 2) := by decide +kernel
theorem dX1_sealOfNumber_18 : decode cX1_sealOfNumber 18 = .ok (.iadd, 1) := by decide +kernel
theorem dX1_sealOfNumber_19 : decode cX1_sealOfNumber 19 = .ok (.iload_n 1, 1) := by decide +kernel
theorem dX1_sealOfNumber_20 : decode cX1_sealOfNumber 20 = .ok (.bipush 10, 2) := by decide +kernel
theorem dX1_sealOfNumber_22 : decode cX1_sealOfNumber 22 = .ok (.idiv, 1) := by decide +kernel
theorem dX1_sealOfNumber_23 : decode cX1_sealOfNumber 23 = .ok (.iadd, 1) := by decide +kernel
theorem dX1_sealOfNumber_24 : decode cX1_sealOfNumber 24 = .ok (.imul, 1) := by decide +kernel
theorem dX1_sealOfNumber_25 : decode cX1_sealOfNumber 25 = .ok (.bipush 48, 2) := by decide +kernel
theorem dX1_sealOfNumber_27 : decode cX1_sealOfNumber 27 = .ok (.iadd, 1) := by decide +kernel
theorem dX1_sealOfNumber_28 : decode cX1_sealOfNumber 28 = .ok (.iload_n 1, 1) := by decide +kernel
theorem dX1_sealOfNumber_29 : decode cX1_sealOfNumber 29 = .ok (.bipush 10, 2) := by decide +kernel
theorem dX1_sealOfNumber_31 : decode cX1_sealOfNumber 31 = .ok (.irem, 1) := by decide +kernel
theorem dX1_sealOfNumber_32 : decode cX1_sealOfNumber 32 = .ok (.iadd, 1) := by decide +kernel
theorem dX1_sealOfNumber_33 : decode cX1_sealOfNumber 33 = .ok (.ireturn, 1) := by decide +kernel
theorem dX1_sealAt_0 : decode cX1_sealAt 0 = .ok (.bipush 7, 2) := by decide +kernel
theorem dX1_sealAt_2 : decode cX1_sealAt 2 = .ok (.ldc 84, 2) := by decide +kernel
theorem dX1_sealAt_4 : decode cX1_sealAt 4 = .ok (.invokestatic 86, 3) := by decide +kernel
theorem dX1_sealAt_7 : decode cX1_sealAt 7 = .ok (.aload_n 0, 1) := by decide +kernel
theorem dX1_sealAt_8 : decode cX1_sealAt 8 = .ok (.getfield 32, 3) := by decide +kernel
theorem dX1_sealAt_11 : decode cX1_sealAt 11 = .ok (.iload_n 1, 1) := by decide +kernel
theorem dX1_sealAt_12 : decode cX1_sealAt 12 = .ok (.iaload, 1) := by decide +kernel
theorem dX1_sealAt_13 : decode cX1_sealAt 13 = .ok (.invokestatic 90, 3) := by decide +kernel
theorem dX1_sealAt_16 : decode cX1_sealAt 16 = .ok (.istore_n 2, 1) := by decide +kernel
theorem dX1_sealAt_17 : decode cX1_sealAt 17 = .ok (.bipush 31, 2) := by decide +kernel
theorem dX1_sealAt_19 : decode cX1_sealAt 19 = .ok (.bipush 31, 2) := by decide +kernel
theorem dX1_sealAt_21 : decode cX1_sealAt 21 = .ok (.iload_n 2, 1) := by decide +kernel
theorem dX1_sealAt_22 : decode cX1_sealAt 22 = .ok (.imul, 1) := by decide +kernel
theorem dX1_sealAt_23 : decode cX1_sealAt 23 = .ok (.bipush 58, 2) := by decide +kernel
theorem dX1_sealAt_25 : decode cX1_sealAt 25 = .ok (.iadd, 1) := by decide +kernel
theorem dX1_sealAt_26 : decode cX1_sealAt 26 = .ok (.imul, 1) := by decide +kernel
theorem dX1_sealAt_27 : decode cX1_sealAt 27 = .ok (.bipush 32, 2) := by decide +kernel
theorem dX1_sealAt_29 : decode cX1_sealAt 29 = .ok (.iadd, 1) := by decide +kernel
theorem dX1_sealAt_30 : decode cX1_sealAt 30 = .ok (.istore_n 2, 1) := by decide +kernel
theorem dX1_sealAt_31 : decode cX1_sealAt 31 = .ok (.aload_n 0, 1) := by decide +kernel
theorem dX1_sealAt_32 : decode cX1_sealAt 32 = .ok (.getfield 35, 3) := by decide +kernel
theorem dX1_sealAt_35 : decode cX1_sealAt 35 = .ok (.iload_n 1, 1) := by decide +kernel
theorem dX1_sealAt_36 : decode cX1_sealAt 36 = .ok (.iaload, 1) := by decide +kernel
theorem dX1_sealAt_37 : decode cX1_sealAt 37 = .ok (.ifCond .ne 12, 3) := by decide +kernel
theorem dX1_sealAt_40 : decode cX1_sealAt 40 = .ok (.iload_n 2, 1) := by decide +kernel
theorem dX1_sealAt_41 : decode cX1_sealAt 41 = .ok (.ldc 93, 2) := by decide +kernel
theorem dX1_sealAt_43 : decode cX1_sealAt 43 = .ok (.invokestatic 86, 3) := by decide +kernel
theorem dX1_sealAt_46 : decode cX1_sealAt 46 = .ok (.goto 18, 3) := by decide +kernel
theorem dX1_sealAt_49 : decode cX1_sealAt 49 = .ok (.iload_n 2, 1) := by decide +kernel
theorem dX1_sealAt_50 : decode cX1_sealAt 50 = .ok (.aload_n 0, 1) := by decide +kernel
theorem dX1_sealAt_51 : decode cX1_sealAt 51 = .ok (.getfield 35, 3) := by decide +kernel
theorem dX1_sealAt_54 : decode cX1_sealAt 54 = .ok (.iload_n 1, 1) := by decide +kernel
theorem dX1_sealAt_55 : decode cX1_sealAt 55 = .ok (.iaload, 1) := by decide +kernel
theorem dX1_sealAt_56 : decode cX1_sealAt 56 = .ok (.invokestatic 90, 3) := by decide +kernel
theorem dX1_sealAt_59 : decode cX1_sealAt 59 = .ok (.ldc 95, 2) := by decide +kernel
theorem dX1_sealAt_61 : decode cX1_sealAt 61 = .ok (.invokestatic 86, 3) := by decide +kernel
theorem dX1_sealAt_64 : decode cX1_sealAt 64 = .ok (.ireturn, 1) := by decide +kernel
theorem dX1_addPerson_0 : decode cX1_addPerson 0 = .ok (.aload_n 0, 1) := by decide +kernel
theorem dX1_addPerson_1 : decode cX1_addPerson 1 = .ok (.iconst 0, 1) := by decide +kernel
theorem dX1_addPerson_2 : decode cX1_addPerson 2 = .ok (.putfield 38, 3) := by decide +kernel
theorem dX1_addPerson_5 : decode cX1_addPerson 5 = .ok (.iload_n 1, 1) := by decide +kernel
theorem dX1_addPerson_6 : decode cX1_addPerson 6 = .ok (.iconst 0, 1) := by decide +kernel
theorem dX1_addPerson_7 : decode cX1_addPerson 7 = .ok (.bipush 99, 2) := by decide +kernel
theorem dX1_addPerson_9 : decode cX1_addPerson 9 = .ok (.invokestatic 45, 3) := by decide +kernel
theorem dX1_addPerson_12 : decode cX1_addPerson 12 = .ok (.ifCond .ne 9, 3) := by decide +kernel
theorem dX1_addPerson_15 : decode cX1_addPerson 15 = .ok (.aload_n 0, 1) := by decide +kernel
theorem dX1_addPerson_16 : decode cX1_addPerson 16 = .ok (.iconst 1, 1) := by decide +kernel
theorem dX1_addPerson_17 : decode cX1_addPerson 17 = .ok (.invokevirtual 97, 3) := by decide +kernel
theorem dX1_addPerson_20 : decode cX1_addPerson 20 = .ok (.ireturn, 1) := by decide +kernel
theorem dX1_addPerson_21 : decode cX1_addPerson 21 = .ok (.aload_n 0, 1) := by decide +kernel
theorem dX1_addPerson_22 : decode cX1_addPerson 22 = .ok (.getfield 42, 3) := by decide +kernel
theorem dX1_addPerson_25 : decode cX1_addPerson 25 = .ok (.bipush 10, 2) := by decide +kernel
theorem dX1_addPerson_27 : decode cX1_addPerson 27 = .ok (.if_icmp .ne 9, 3) := by decide +kernel
theorem dX1_addPerson_30 : decode cX1_addPerson 30 = .ok (.aload_n 0, 1) := by decide +kernel
theorem dX1_addPerson_31 : decode cX1_addPerson 31 = .ok (.iconst 2, 1) := by decide +kernel
theorem dX1_addPerson_32 : decode cX1_addPerson 32 = .ok (.invokevirtual 97, 3) := by decide +kernel
theorem dX1_addPerson_35 : decode cX1_addPerson 35 = .ok (.ireturn, 1) := by decide +kernel
theorem dX1_addPerson_36 : decode cX1_addPerson 36 = .ok (.aload_n 0, 1) := by decide +kernel
theorem dX1_addPerson_37 : decode cX1_addPerson 37 = .ok (.getfield 13, 3) := by decide +kernel
theorem dX1_addPerson_40 : decode cX1_addPerson 40 = .ok (.aload_n 0, 1) := by decide +kernel
theorem dX1_addPerson_41 : decode cX1_addPerson 41 = .ok (.getfield 42, 3) := by decide +kernel
theorem dX1_addPerson_44 : decode cX1_addPerson 44 = .ok (.iload_n 1, 1) := by decide +kernel
theorem dX1_addPerson_45 : decode cX1_addPerson 45 = .ok (.iastore, 1) := by decide +kernel
theorem dX1_addPerson_46 : decode cX1_addPerson 46 = .ok (.aload_n 0, 1) := by decide +kernel
theorem dX1_addPerson_47 : decode cX1_addPerson 47 = .ok (.getfield 17, 3) := by decide +kernel
theorem dX1_addPerson_50 : decode cX1_addPerson 50 = .ok (.aload_n 0, 1) := by decide +kernel
theorem dX1_addPerson_51 : decode cX1_addPerson 51 = .ok (.getfield 42, 3) := by decide +kernel
theorem dX1_addPerson_54 : decode cX1_addPerson 54 = .ok (.bipush 100, 2) := by decide +kernel
theorem dX1_addPerson_56 : decode cX1_addPerson 56 = .ok (.iastore, 1) := by decide +kernel
theorem dX1_addPerson_57 : decode cX1_addPerson 57 = .ok (.aload_n 0, 1) := by decide +kernel
theorem dX1_addPerson_58 : decode cX1_addPerson 58 = .ok (.getfield 23, 3) := by decide +kernel
theorem dX1_addPerson_61 : decode cX1_addPerson 61 = .ok (.aload_n 0, 1) := by decide +kernel
theorem dX1_addPerson_62 : decode cX1_addPerson 62 = .ok (.getfield 42, 3) := by decide +kernel
theorem dX1_addPerson_65 : decode cX1_addPerson 65 = .ok (.iconst (-1), 1) := by decide +kernel
theorem dX1_addPerson_66 : decode cX1_addPerson 66 = .ok (.iastore, 1) := by decide +kernel
theorem dX1_addPerson_67 : decode cX1_addPerson 67 = .ok (.aload_n 0, 1) := by decide +kernel
theorem dX1_addPerson_68 : decode cX1_addPerson 68 = .ok (.dup, 1) := by decide +kernel
theorem dX1_addPerson_69 : decode cX1_addPerson 69 = .ok (.getfield 42, 3) := by decide +kernel
theorem dX1_addPerson_72 : decode cX1_addPerson 72 = .ok (.iconst 1, 1) := by decide +kernel
theorem dX1_addPerson_73 : decode cX1_addPerson 73 = .ok (.iadd, 1) := by decide +kernel
theorem dX1_addPerson_74 : decode cX1_addPerson 74 = .ok (.putfield 42, 3) := by decide +kernel
theorem dX1_addPerson_77 : decode cX1_addPerson 77 = .ok (.aload_n 0, 1) := by decide +kernel
theorem dX1_addPerson_78 : decode cX1_addPerson 78 = .ok (.getfield 42, 3) := by decide +kernel
theorem dX1_addPerson_81 : decode cX1_addPerson 81 = .ok (.iconst 1, 1) := by decide +kernel
theorem dX1_addPerson_82 : decode cX1_addPerson 82 = .ok (.isub, 1) := by decide +kernel
theorem dX1_addPerson_83 : decode cX1_addPerson 83 = .ok (.ireturn, 1) := by decide +kernel
theorem dX1_addWitness_0 : decode cX1_addWitness 0 = .ok (.aload_n 0, 1) := by decide +kernel
theorem dX1_addWitness_1 : decode cX1_addWitness 1 = .ok (.iconst 0, 1) := by decide +kernel
theorem dX1_addWitness_2 : decode cX1_addWitness 2 = .ok (.putfield 38, 3) := by decide +kernel
theorem dX1_addWitness_5 : decode cX1_addWitness 5 = .ok (.iload_n 1, 1) := by decide +kernel
theorem dX1_addWitness_6 : decode cX1_addWitness 6 = .ok (.iconst 0, 1) := by decide +kernel
theorem dX1_addWitness_7 : decode cX1_addWitness 7 = .ok (.bipush 9, 2) := by decide +kernel
theorem dX1_addWitness_9 : decode cX1_addWitness 9 = .ok (.invokestatic 45, 3) := by decide +kernel
theorem dX1_addWitness_12 : decode cX1_addWitness 12 = .ok (.ifCond .ne 9, 3) := by decide +kernel
theorem dX1_addWitness_15 : decode cX1_addWitness 15 = .ok (.aload_n 0, 1) := by decide +kernel
theorem dX1_addWitness_16 : decode cX1_addWitness 16 = .ok (.iconst 1, 1) := by decide +kernel
theorem dX1_addWitness_17 : decode cX1_addWitness 17 = .ok (.invokevirtual 97, 3) := by decide +kernel
theorem dX1_addWitness_20 : decode cX1_addWitness 20 = .ok (.ireturn, 1) := by decide +kernel
theorem dX1_addWitness_21 : decode cX1_addWitness 21 = .ok (.aload_n 0, 1) := by decide +kernel
theorem dX1_addWitness_22 : decode cX1_addWitness 22 = .ok (.getfield 49, 3) := by decide +kernel
theorem dX1_addWitness_25 : decode cX1_addWitness 25 = .ok (.bipush 6, 2) := by decide +kernel
theorem dX1_addWitness_27 : decode cX1_addWitness 27 = .ok (.if_icmp .ne 9, 3) := by decide +kernel
theorem dX1_addWitness_30 : decode cX1_addWitness 30 = .ok (.aload_n 0, 1) := by decide +kernel
theorem dX1_addWitness_31 : decode cX1_addWitness 31 = .ok (.iconst 2, 1) := by decide +kernel
theorem dX1_addWitness_32 : decode cX1_addWitness 32 = .ok (.invokevirtual 97, 3) := by decide +kernel
theorem dX1_addWitness_35 : decode cX1_addWitness 35 = .ok (.ireturn, 1) := by decide +kernel
theorem dX1_addWitness_36 : decode cX1_addWitness 36 = .ok (.aload_n 0, 1) := by decide +kernel
theorem dX1_addWitness_37 : decode cX1_addWitness 37 = .ok (.getfield 26, 3) := by decide +kernel
theorem dX1_addWitness_40 : decode cX1_addWitness 40 = .ok (.aload_n 0, 1) := by decide +kernel
theorem dX1_addWitness_41 : decode cX1_addWitness 41 = .ok (.getfield 49, 3) := by decide +kernel
theorem dX1_addWitness_44 : decode cX1_addWitness 44 = .ok (.iload_n 1, 1) := by decide +kernel
theorem dX1_addWitness_45 : decode cX1_addWitness 45 = .ok (.iastore, 1) := by decide +kernel
theorem dX1_addWitness_46 : decode cX1_addWitness 46 = .ok (.aload_n 0, 1) := by decide +kernel
theorem dX1_addWitness_47 : decode cX1_addWitness 47 = .ok (.dup, 1) := by decide +kernel
theorem dX1_addWitness_48 : decode cX1_addWitness 48 = .ok (.getfield 49, 3) := by decide +kernel
theorem dX1_addWitness_51 : decode cX1_addWitness 51 = .ok (.iconst 1, 1) := by decide +kernel
theorem dX1_addWitness_52 : decode cX1_addWitness 52 = .ok (.iadd, 1) := by decide +kernel
theorem dX1_addWitness_53 : decode cX1_addWitness 53 = .ok (.putfield 49, 3) := by decide +kernel
theorem dX1_addWitness_56 : decode cX1_addWitness 56 = .ok (.aload_n 0, 1) := by decide +kernel
theorem dX1_addWitness_57 : decode cX1_addWitness 57 = .ok (.getfield 49, 3) := by decide +kernel
theorem dX1_addWitness_60 : decode cX1_addWitness 60 = .ok (.iconst 1, 1) := by decide +kernel
theorem dX1_addWitness_61 : decode cX1_addWitness 61 = .ok (.isub, 1) := by decide +kernel
theorem dX1_addWitness_62 : decode cX1_addWitness 62 = .ok (.ireturn, 1) := by decide +kernel
theorem dX1_setHeir_0 : decode cX1_setHeir 0 = .ok (.aload_n 0, 1) := by decide +kernel
theorem dX1_setHeir_1 : decode cX1_setHeir 1 = .ok (.iconst 0, 1) := by decide +kernel
theorem dX1_setHeir_2 : decode cX1_setHeir 2 = .ok (.putfield 38, 3) := by decide +kernel
theorem dX1_setHeir_5 : decode cX1_setHeir 5 = .ok (.aload_n 0, 1) := by decide +kernel
theorem dX1_setHeir_6 : decode cX1_setHeir 6 = .ok (.iload_n 1, 1) := by decide +kernel
theorem dX1_setHeir_7 : decode cX1_setHeir 7 = .ok (.invokevirtual 100, 3) := by decide +kernel
theorem dX1_setHeir_10 : decode cX1_setHeir 10 = .ok (.ifCond .eq 16, 3) := by decide +kernel
theorem dX1_setHeir_13 : decode cX1_setHeir 13 = .ok (.iload_n 2, 1) := by decide +kernel
theorem dX1_setHeir_14 : decode cX1_setHeir 14 = .ok (.iconst (-1), 1) := by decide +kernel
theorem dX1_setHeir_15 : decode cX1_setHeir 15 = .ok (.if_icmp .eq 17, 3) := by decide +kernel
theorem dX1_setHeir_18 : decode cX1_setHeir 18 = .ok (.aload_n 0, 1) := by decide +kernel
theorem dX1_setHeir_19 : decode cX1_setHeir 19 = .ok (.iload_n 2, 1) := by decide +kernel
theorem dX1_setHeir_20 : decode cX1_setHeir 20 = .ok (.invokevirtual 100, 3) := by decide +kernel
theorem dX1_setHeir_23 : decode cX1_setHeir 23 = .ok (.ifCond .ne 9, 3) := by decide +kernel
theorem dX1_setHeir_26 : decode cX1_setHeir 26 = .ok (.aload_n 0, 1) := by decide +kernel
theorem dX1_setHeir_27 : decode cX1_setHeir 27 = .ok (.iconst 1, 1) := by decide +kernel
theorem dX1_setHeir_28 : decode cX1_setHeir 28 = .ok (.invokevirtual 97, 3) := by decide +kernel
theorem dX1_setHeir_31 : decode cX1_setHeir 31 = .ok (.ireturn, 1) := by decide +kernel
theorem dX1_setHeir_32 : decode cX1_setHeir 32 = .ok (.iload_n 1, 1) := by decide +kernel
theorem dX1_setHeir_33 : decode cX1_setHeir 33 = .ok (.iload_n 2, 1) := by decide +kernel
theorem dX1_setHeir_34 : decode cX1_setHeir 34 = .ok (.if_icmp .ne 9, 3) := by decide +kernel
theorem dX1_setHeir_37 : decode cX1_setHeir 37 = .ok (.aload_n 0, 1) := by decide +kernel
theorem dX1_setHeir_38 : decode cX1_setHeir 38 = .ok (.iconst 2, 1) := by decide +kernel
theorem dX1_setHeir_39 : decode cX1_setHeir 39 = .ok (.invokevirtual 97, 3) := by decide +kernel
theorem dX1_setHeir_42 : decode cX1_setHeir 42 = .ok (.ireturn, 1) := by decide +kernel
theorem dX1_setHeir_43 : decode cX1_setHeir 43 = .ok (.aload_n 0, 1) := by decide +kernel
theorem dX1_setHeir_44 : decode cX1_setHeir 44 = .ok (.getfield 9, 3) := by decide +kernel
theorem dX1_setHeir_47 : decode cX1_setHeir 47 = .ok (.iload_n 1, 1) := by decide +kernel
theorem dX1_setHeir_48 : decode cX1_setHeir 48 = .ok (.baload, 1) := by decide +kernel
theorem dX1_setHeir_49 : decode cX1_setHeir 49 = .ok (.ifCond .eq 9, 3) := by decide +kernel
theorem dX1_setHeir_52 : decode cX1_setHeir 52 = .ok (.aload_n 0, 1) := by decide +kernel
theorem dX1_setHeir_53 : decode cX1_setHeir 53 = .ok (.iconst 3, 1) := by decide +kernel
theorem dX1_setHeir_54 : decode cX1_setHeir 54 = .ok (.invokevirtual 97, 3) := by decide +kernel
theorem dX1_setHeir_57 : decode cX1_setHeir 57 = .ok (.ireturn, 1) := by decide +kernel
theorem dX1_setHeir_58 : decode cX1_setHeir 58 = .ok (.aload_n 0, 1) := by decide +kernel
theorem dX1_setHeir_59 : decode cX1_setHeir 59 = .ok (.getfield 23, 3) := by decide +kernel
theorem dX1_setHeir_62 : decode cX1_setHeir 62 = .ok (.iload_n 1, 1) := by decide +kernel
theorem dX1_setHeir_63 : decode cX1_setHeir 63 = .ok (.iaload, 1) := by decide +kernel
theorem dX1_setHeir_64 : decode cX1_setHeir 64 = .ok (.istore_n 3, 1) := by decide +kernel
theorem dX1_setHeir_65 : decode cX1_setHeir 65 = .ok (.aload_n 0, 1) := by decide +kernel
theorem dX1_setHeir_66 : decode cX1_setHeir 66 = .ok (.getfield 23, 3) := by decide +kernel
theorem dX1_setHeir_69 : decode cX1_setHeir 69 = .ok (.iload_n 1, 1) := by decide +kernel
theorem dX1_setHeir_70 : decode cX1_setHeir 70 = .ok (.iload_n 2, 1) := by decide +kernel
theorem dX1_setHeir_71 : decode cX1_setHeir 71 = .ok (.iastore, 1) := by decide +kernel
theorem dX1_setHeir_72 : decode cX1_setHeir 72 = .ok (.iload_n 3, 1) := by decide +kernel
theorem dX1_setHeir_73 : decode cX1_setHeir 73 = .ok (.ireturn, 1) := by decide +kernel
theorem dX1_buyFate_0 : decode cX1_buyFate 0 = .ok (.aload_n 0, 1) := by decide +kernel
theorem dX1_buyFate_1 : decode cX1_buyFate 1 = .ok (.iconst 0, 1) := by decide +kernel
theorem dX1_buyFate_2 : decode cX1_buyFate 2 = .ok (.putfield 38, 3) := by decide +kernel
theorem dX1_buyFate_5 : decode cX1_buyFate 5 = .ok (.aload_n 0, 1) := by decide +kernel
theorem dX1_buyFate_6 : decode cX1_buyFate 6 = .ok (.iload_n 1, 1) := by decide +kernel
theorem dX1_buyFate_7 : decode cX1_buyFate 7 = .ok (.invokevirtual 100, 3) := by decide +kernel
theorem dX1_buyFate_10 : decode cX1_buyFate 10 = .ok (.ifCond .ne 9, 3) := by decide +kernel
theorem dX1_buyFate_13 : decode cX1_buyFate 13 = .ok (.aload_n 0, 1) := by decide +kernel
theorem dX1_buyFate_14 : decode cX1_buyFate 14 = .ok (.iconst 1, 1) := by decide +kernel
theorem dX1_buyFate_15 : decode cX1_buyFate 15 = .ok (.invokevirtual 97, 3) := by decide +kernel
theorem dX1_buyFate_18 : decode cX1_buyFate 18 = .ok (.ireturn, 1) := by decide +kernel
theorem dX1_buyFate_19 : decode cX1_buyFate 19 = .ok (.aload_n 0, 1) := by decide +kernel
theorem dX1_buyFate_20 : decode cX1_buyFate 20 = .ok (.getfield 9, 3) := by decide +kernel
theorem dX1_buyFate_23 : decode cX1_buyFate 23 = .ok (.iload_n 1, 1) := by decide +kernel
theorem dX1_buyFate_24 : decode cX1_buyFate 24 = .ok (.baload, 1) := by decide +kernel
theorem dX1_buyFate_25 : decode cX1_buyFate 25 = .ok (.ifCond .ne 28, 3) := by decide +kernel
theorem dX1_buyFate_28 : decode cX1_buyFate 28 = .ok (.aload_n 0, 1) := by decide +kernel
theorem dX1_buyFate_29 : decode cX1_buyFate 29 = .ok (.getfield 20, 3) := by decide +kernel
theorem dX1_buyFate_32 : decode cX1_buyFate 32 = .ok (.iload_n 1, 1) := by decide +kernel
theorem dX1_buyFate_33 : decode cX1_buyFate 33 = .ok (.iaload, 1) := by decide +kernel
theorem dX1_buyFate_34 : decode cX1_buyFate 34 = .ok (.bipush 9, 2) := by decide +kernel
theorem dX1_buyFate_36 : decode cX1_buyFate 36 = .ok (.if_icmp .eq 17, 3) := by decide +kernel
theorem dX1_buyFate_39 : decode cX1_buyFate 39 = .ok (.aload_n 0, 1) := by decide +kernel
theorem dX1_buyFate_40 : decode cX1_buyFate 40 = .ok (.getfield 17, 3) := by decide +kernel
theorem dX1_buyFate_43 : decode cX1_buyFate 43 = .ok (.iload_n 1, 1) := by decide +kernel
theorem dX1_buyFate_44 : decode cX1_buyFate 44 = .ok (.iaload, 1) := by decide +kernel
theorem dX1_buyFate_45 : decode cX1_buyFate 45 = .ok (.aload_n 0, 1) := by decide +kernel
theorem dX1_buyFate_46 : decode cX1_buyFate 46 = .ok (.iload_n 1, 1) := by decide +kernel
theorem dX1_buyFate_47 : decode cX1_buyFate 47 = .ok (.invokevirtual 67, 3) := by decide +kernel
theorem dX1_buyFate_50 : decode cX1_buyFate 50 = .ok (.if_icmp .ge 9, 3) := by decide +kernel
theorem dX1_buyFate_53 : decode cX1_buyFate 53 = .ok (.aload_n 0, 1) := by decide +kernel
theorem dX1_buyFate_54 : decode cX1_buyFate 54 = .ok (.iconst 2, 1) := by decide +kernel
theorem dX1_buyFate_55 : decode cX1_buyFate 55 = .ok (.invokevirtual 97, 3) := by decide +kernel
theorem dX1_buyFate_58 : decode cX1_buyFate 58 = .ok (.ireturn, 1) := by decide +kernel
theorem dX1_buyFate_59 : decode cX1_buyFate 59 = .ok (.aload_n 0, 1) := by decide +kernel
theorem dX1_buyFate_60 : decode cX1_buyFate 60 = .ok (.getfield 17, 3) := by decide +kernel
theorem dX1_buyFate_63 : decode cX1_buyFate 63 = .ok (.iload_n 1, 1) := by decide +kernel
theorem dX1_buyFate_64 : decode cX1_buyFate 64 = .ok (.dup2, 1) := by decide +kernel
theorem dX1_buyFate_65 : decode cX1_buyFate 65 = .ok (.iaload, 1) := by decide +kernel
theorem dX1_buyFate_66 : decode cX1_buyFate 66 = .ok (.aload_n 0, 1) := by decide +kernel
theorem dX1_buyFate_67 : decode cX1_buyFate 67 = .ok (.iload_n 1, 1) := by decide +kernel
theorem dX1_buyFate_68 : decode cX1_buyFate 68 = .ok (.invokevirtual 67, 3) := by decide +kernel
theorem dX1_buyFate_71 : decode cX1_buyFate 71 = .ok (.isub, 1) := by decide +kernel
theorem dX1_buyFate_72 : decode cX1_buyFate 72 = .ok (.iastore, 1) := by decide +kernel
theorem dX1_buyFate_73 : decode cX1_buyFate 73 = .ok (.aload_n 0, 1) := by decide +kernel
theorem dX1_buyFate_74 : decode cX1_buyFate 74 = .ok (.dup, 1) := by decide +kernel
theorem dX1_buyFate_75 : decode cX1_buyFate 75 = .ok (.getfield 64, 3) := by decide +kernel
theorem dX1_buyFate_78 : decode cX1_buyFate 78 = .ok (.aload_n 0, 1) := by decide +kernel
theorem dX1_buyFate_79 : decode cX1_buyFate 79 = .ok (.iload_n 1, 1) := by decide +kernel
theorem dX1_buyFate_80 : decode cX1_buyFate 80 = .ok (.invokevirtual 67, 3) := by decide +kernel
theorem dX1_buyFate_83 : decode cX1_buyFate 83 = .ok (.iadd, 1) := by decide +kernel
theorem dX1_buyFate_84 : decode cX1_buyFate 84 = .ok (.putfield 64, 3) := by decide +kernel
theorem dX1_buyFate_87 : decode cX1_buyFate 87 = .ok (.aload_n 0, 1) := by decide +kernel
theorem dX1_buyFate_88 : decode cX1_buyFate 88 = .ok (.getfield 20, 3) := by decide +kernel
theorem dX1_buyFate_91 : decode cX1_buyFate 91 = .ok (.iload_n 1, 1) := by decide +kernel
theorem dX1_buyFate_92 : decode cX1_buyFate 92 = .ok (.dup2, 1) := by decide +kernel
theorem dX1_buyFate_93 : decode cX1_buyFate 93 = .ok (.iaload, 1) := by decide +kernel
theorem dX1_buyFate_94 : decode cX1_buyFate 94 = .ok (.iconst 1, 1) := by decide +kernel
theorem dX1_buyFate_95 : decode cX1_buyFate 95 = .ok (.iadd, 1) := by decide +kernel
theorem dX1_buyFate_96 : decode cX1_buyFate 96 = .ok (.iastore, 1) := by decide +kernel
theorem dX1_buyFate_97 : decode cX1_buyFate 97 = .ok (.aload_n 0, 1) := by decide +kernel
theorem dX1_buyFate_98 : decode cX1_buyFate 98 = .ok (.iload_n 1, 1) := by decide +kernel
theorem dX1_buyFate_99 : decode cX1_buyFate 99 = .ok (.invokevirtual 67, 3) := by decide +kernel
theorem dX1_buyFate_102 : decode cX1_buyFate 102 = .ok (.ireturn, 1) := by decide +kernel
theorem dX1_turnDuty_0 : decode cX1_turnDuty 0 = .ok (.aload_n 0, 1) := by decide +kernel
theorem dX1_turnDuty_1 : decode cX1_turnDuty 1 = .ok (.aload_n 0, 1) := by decide +kernel
theorem dX1_turnDuty_2 : decode cX1_turnDuty 2 = .ok (.iload_n 1, 1) := by decide +kernel
theorem dX1_turnDuty_3 : decode cX1_turnDuty 3 = .ok (.invokevirtual 104, 3) := by decide +kernel
theorem dX1_turnDuty_6 : decode cX1_turnDuty 6 = .ok (.ifCond .eq 7, 3) := by decide +kernel
theorem dX1_turnDuty_9 : decode cX1_turnDuty 9 = .ok (.iconst 0, 1) := by decide +kernel
theorem dX1_turnDuty_10 : decode cX1_turnDuty 10 = .ok (.goto 4, 3) := by decide +kernel
theorem dX1_turnDuty_13 : decode cX1_turnDuty 13 = .ok (.iconst 1, 1) := by decide +kernel
theorem dX1_turnDuty_14 : decode cX1_turnDuty 14 = .ok (.putfield 38, 3) := by decide +kernel
theorem dX1_turnDuty_17 : decode cX1_turnDuty 17 = .ok (.aload_n 0, 1) := by decide +kernel
theorem dX1_turnDuty_18 : decode cX1_turnDuty 18 = .ok (.getfield 38, 3) := by decide +kernel
theorem dX1_turnDuty_21 : decode cX1_turnDuty 21 = .ok (.ifCond .le 5, 3) := by decide +kernel
theorem dX1_turnDuty_24 : decode cX1_turnDuty 24 = .ok (.iconst 0, 1) := by decide +kernel
theorem dX1_turnDuty_25 : decode cX1_turnDuty 25 = .ok (.ireturn, 1) := by decide +kernel
theorem dX1_turnDuty_26 : decode cX1_turnDuty 26 = .ok (.aload_n 0, 1) := by decide +kernel
theorem dX1_turnDuty_27 : decode cX1_turnDuty 27 = .ok (.getfield 29, 3) := by decide +kernel
theorem dX1_turnDuty_30 : decode cX1_turnDuty 30 = .ok (.iload_n 1, 1) := by decide +kernel
theorem dX1_turnDuty_31 : decode cX1_turnDuty 31 = .ok (.aload_n 0, 1) := by decide +kernel
theorem dX1_turnDuty_32 : decode cX1_turnDuty 32 = .ok (.getfield 29, 3) := by decide +kernel
theorem dX1_turnDuty_35 : decode cX1_turnDuty 35 = .ok (.iload_n 1, 1) := by decide +kernel
theorem dX1_turnDuty_36 : decode cX1_turnDuty 36 = .ok (.baload, 1) := by decide +kernel
theorem dX1_turnDuty_37 : decode cX1_turnDuty 37 = .ok (.ifCond .ne 7, 3) := by decide +kernel
theorem dX1_turnDuty_40 : decode cX1_turnDuty 40 = .ok (.iconst 1, 1) := by decide +kernel
theorem dX1_turnDuty_41 : decode cX1_turnDuty 41 = .ok (.goto 4, 3) := by decide +kernel
theorem dX1_turnDuty_44 : decode cX1_turnDuty 44 = .ok (.iconst 0, 1) := by decide +kernel
theorem dX1_turnDuty_45 : decode cX1_turnDuty 45 = .ok (.bastore, 1) := by decide +kernel
theorem dX1_turnDuty_46 : decode cX1_turnDuty 46 = .ok (.aload_n 0, 1) := by decide +kernel
theorem dX1_turnDuty_47 : decode cX1_turnDuty 47 = .ok (.getfield 29, 3) := by decide +kernel
theorem dX1_turnDuty_50 : decode cX1_turnDuty 50 = .ok (.iload_n 1, 1) := by decide +kernel
theorem dX1_turnDuty_51 : decode cX1_turnDuty 51 = .ok (.baload, 1) := by decide +kernel
theorem dX1_turnDuty_52 : decode cX1_turnDuty 52 = .ok (.ifCond .ne 7, 3) := by decide +kernel
theorem dX1_turnDuty_55 : decode cX1_turnDuty 55 = .ok (.iconst 1, 1) := by decide +kernel
theorem dX1_turnDuty_56 : decode cX1_turnDuty 56 = .ok (.goto 4, 3) := by decide +kernel
theorem dX1_turnDuty_59 : decode cX1_turnDuty 59 = .ok (.iconst 0, 1) := by decide +kernel
theorem dX1_turnDuty_60 : decode cX1_turnDuty 60 = .ok (.ireturn, 1) := by decide +kernel
theorem dX1_miss_0 : decode cX1_miss 0 = .ok (.aload_n 0, 1) := by decide +kernel
theorem dX1_miss_1 : decode cX1_miss 1 = .ok (.iconst 0, 1) := by decide +kernel
theorem dX1_miss_2 : decode cX1_miss 2 = .ok (.putfield 38, 3) := by decide +kernel
theorem dX1_miss_5 : decode cX1_miss 5 = .ok (.aload_n 0, 1) := by decide +kernel
theorem dX1_miss_6 : decode cX1_miss 6 = .ok (.iload_n 1, 1) := by decide +kernel
theorem dX1_miss_7 : decode cX1_miss 7 = .ok (.invokevirtual 100, 3) := by decide +kernel
theorem dX1_miss_10 : decode cX1_miss 10 = .ok (.ifCond .ne 9, 3) := by decide +kernel
theorem dX1_miss_13 : decode cX1_miss 13 = .ok (.aload_n 0, 1) := by decide +kernel
theorem dX1_miss_14 : decode cX1_miss 14 = .ok (.iconst 1, 1) := by decide +kernel
theorem dX1_miss_15 : decode cX1_miss 15 = .ok (.invokevirtual 97, 3) := by decide +kernel
theorem dX1_miss_18 : decode cX1_miss 18 = .ok (.ireturn, 1) := by decide +kernel
theorem dX1_miss_19 : decode cX1_miss 19 = .ok (.iload_n 2, 1) := by decide +kernel
theorem dX1_miss_20 : decode cX1_miss 20 = .ok (.iconst 1, 1) := by decide +kernel
theorem dX1_miss_21 : decode cX1_miss 21 = .ok (.bipush 60, 2) := by decide +kernel
theorem dX1_miss_23 : decode cX1_miss 23 = .ok (.invokestatic 45, 3) := by decide +kernel
theorem dX1_miss_26 : decode cX1_miss 26 = .ok (.ifCond .ne 9, 3) := by decide +kernel
theorem dX1_miss_29 : decode cX1_miss 29 = .ok (.aload_n 0, 1) := by decide +kernel
theorem dX1_miss_30 : decode cX1_miss 30 = .ok (.iconst 2, 1) := by decide +kernel
theorem dX1_miss_31 : decode cX1_miss 31 = .ok (.invokevirtual 97, 3) := by decide +kernel
theorem dX1_miss_34 : decode cX1_miss 34 = .ok (.ireturn, 1) := by decide +kernel
theorem dX1_miss_35 : decode cX1_miss 35 = .ok (.aload_n 0, 1) := by decide +kernel
theorem dX1_miss_36 : decode cX1_miss 36 = .ok (.getfield 9, 3) := by decide +kernel
theorem dX1_miss_39 : decode cX1_miss 39 = .ok (.iload_n 1, 1) := by decide +kernel
theorem dX1_miss_40 : decode cX1_miss 40 = .ok (.baload, 1) := by decide +kernel
theorem dX1_miss_41 : decode cX1_miss 41 = .ok (.ifCond .ne 12, 3) := by decide +kernel
theorem dX1_miss_44 : decode cX1_miss 44 = .ok (.aload_n 0, 1) := by decide +kernel
theorem dX1_miss_45 : decode cX1_miss 45 = .ok (.getfield 52, 3) := by decide +kernel
theorem dX1_miss_48 : decode cX1_miss 48 = .ok (.bipush 60, 2) := by decide +kernel
theorem dX1_miss_50 : decode cX1_miss 50 = .ok (.if_icmp .ne 9, 3) := by decide +kernel
theorem dX1_miss_53 : decode cX1_miss 53 = .ok (.aload_n 0, 1) := by decide +kernel
theorem dX1_miss_54 : decode cX1_miss 54 = .ok (.iconst 3, 1) := by decide +kernel
theorem dX1_miss_55 : decode cX1_miss 55 = .ok (.invokevirtual 97, 3) := by decide +kernel
theorem dX1_miss_58 : decode cX1_miss 58 = .ok (.ireturn, 1) := by decide +kernel
theorem dX1_miss_59 : decode cX1_miss 59 = .ok (.aload_n 0, 1) := by decide +kernel
theorem dX1_miss_60 : decode cX1_miss 60 = .ok (.iload_n 2, 1) := by decide +kernel
theorem dX1_miss_61 : decode cX1_miss 61 = .ok (.invokevirtual 107, 3) := by decide +kernel
theorem dX1_miss_64 : decode cX1_miss 64 = .ok (.istore_n 3, 1) := by decide +kernel
theorem dX1_miss_65 : decode cX1_miss 65 = .ok (.iload_n 3, 1) := by decide +kernel
theorem dX1_miss_66 : decode cX1_miss 66 = .ok (.ifCond .le 69, 3) := by decide +kernel
theorem dX1_miss_69 : decode cX1_miss 69 = .ok (.iload_n 3, 1) := by decide +kernel
theorem dX1_miss_70 : decode cX1_miss 70 = .ok (.bipush 24, 2) := by decide +kernel
theorem dX1_miss_72 : decode cX1_miss 72 = .ok (.if_icmp .gt 63, 3) := by decide +kernel
theorem dX1_miss_75 : decode cX1_miss 75 = .ok (.aload_n 0, 1) := by decide +kernel
theorem dX1_miss_76 : decode cX1_miss 76 = .ok (.getfield 20, 3) := by decide +kernel
theorem dX1_miss_79 : decode cX1_miss 79 = .ok (.iload_n 1, 1) := by decide +kernel
theorem dX1_miss_80 : decode cX1_miss 80 = .ok (.iaload, 1) := by decide +kernel
theorem dX1_miss_81 : decode cX1_miss 81 = .ok (.ifCond .le 54, 3) := by decide +kernel
theorem dX1_miss_84 : decode cX1_miss 84 = .ok (.aload_n 0, 1) := by decide +kernel
theorem dX1_miss_85 : decode cX1_miss 85 = .ok (.iload_n 1, 1) := by decide +kernel
theorem dX1_miss_86 : decode cX1_miss 86 = .ok (.iload_n 3, 1) := by decide +kernel
theorem dX1_miss_87 : decode cX1_miss 87 = .ok (.invokevirtual 110, 3) := by decide +kernel
theorem dX1_miss_90 : decode cX1_miss 90 = .ok (.istore 4, 2) := by decide +kernel
theorem dX1_miss_92 : decode cX1_miss 92 = .ok (.aload_n 0, 1) := by decide +kernel
theorem dX1_miss_93 : decode cX1_miss 93 = .ok (.getfield 20, 3) := by decide +kernel
theorem dX1_miss_96 : decode cX1_miss 96 = .ok (.iload_n 1, 1) := by decide +kernel
theorem dX1_miss_97 : decode cX1_miss 97 = .ok (.dup2, 1) := by decide +kernel
theorem dX1_miss_98 : decode cX1_miss 98 = .ok (.iaload, 1) := by decide +kernel
theorem dX1_miss_99 : decode cX1_miss 99 = .ok (.iconst 1, 1) := by decide +kernel
theorem dX1_miss_100 : decode cX1_miss 100 = .ok (.isub, 1) := by decide +kernel
theorem dX1_miss_101 : decode cX1_miss 101 = .ok (.iastore, 1) := by decide +kernel
theorem dX1_miss_102 : decode cX1_miss 102 = .ok (.aload_n 0, 1) := by decide +kernel
theorem dX1_miss_103 : decode cX1_miss 103 = .ok (.dup, 1) := by decide +kernel
theorem dX1_miss_104 : decode cX1_miss 104 = .ok (.getfield 64, 3) := by decide +kernel
theorem dX1_miss_107 : decode cX1_miss 107 = .ok (.iload 4, 2) := by decide +kernel
theorem dX1_miss_109 : decode cX1_miss 109 = .ok (.isub, 1) := by decide +kernel
theorem dX1_miss_110 : decode cX1_miss 110 = .ok (.putfield 64, 3) := by decide +kernel
theorem dX1_miss_113 : decode cX1_miss 113 = .ok (.aload_n 0, 1) := by decide +kernel
theorem dX1_miss_114 : decode cX1_miss 114 = .ok (.getfield 17, 3) := by decide +kernel
theorem dX1_miss_117 : decode cX1_miss 117 = .ok (.iload_n 1, 1) := by decide +kernel
theorem dX1_miss_118 : decode cX1_miss 118 = .ok (.dup2, 1) := by decide +kernel
theorem dX1_miss_119 : decode cX1_miss 119 = .ok (.iaload, 1) := by decide +kernel
theorem dX1_miss_120 : decode cX1_miss 120 = .ok (.iload 4, 2) := by decide +kernel
theorem dX1_miss_122 : decode cX1_miss 122 = .ok (.iadd, 1) := by decide +kernel
theorem dX1_miss_123 : decode cX1_miss 123 = .ok (.iastore, 1) := by decide +kernel
theorem dX1_miss_124 : decode cX1_miss 124 = .ok (.aload_n 0, 1) := by decide +kernel
theorem dX1_miss_125 : decode cX1_miss 125 = .ok (.dup, 1) := by decide +kernel
theorem dX1_miss_126 : decode cX1_miss 126 = .ok (.getfield 113, 3) := by decide +kernel
theorem dX1_miss_129 : decode cX1_miss 129 = .ok (.iload 4, 2) := by decide +kernel
theorem dX1_miss_131 : decode cX1_miss 131 = .ok (.iadd, 1) := by decide +kernel
theorem dX1_miss_132 : decode cX1_miss 132 = .ok (.putfield 113, 3) := by decide +kernel
theorem dX1_miss_135 : decode cX1_miss 135 = .ok (.aload_n 0, 1) := by decide +kernel
theorem dX1_miss_136 : decode cX1_miss 136 = .ok (.getfield 13, 3) := by decide +kernel
theorem dX1_miss_139 : decode cX1_miss 139 = .ok (.iload_n 1, 1) := by decide +kernel
theorem dX1_miss_140 : decode cX1_miss 140 = .ok (.iconst 0, 1) := by decide +kernel
theorem dX1_miss_141 : decode cX1_miss 141 = .ok (.aload_n 0, 1) := by decide +kernel
theorem dX1_miss_142 : decode cX1_miss 142 = .ok (.getfield 13, 3) := by decide +kernel
theorem dX1_miss_145 : decode cX1_miss 145 = .ok (.iload_n 1, 1) := by decide +kernel
theorem dX1_miss_146 : decode cX1_miss 146 = .ok (.iaload, 1) := by decide +kernel
theorem dX1_miss_147 : decode cX1_miss 147 = .ok (.bipush 60, 2) := by decide +kernel
theorem dX1_miss_149 : decode cX1_miss 149 = .ok (.iload_n 2, 1) := by decide +kernel
theorem dX1_miss_150 : decode cX1_miss 150 = .ok (.isub, 1) := by decide +kernel
theorem dX1_miss_151 : decode cX1_miss 151 = .ok (.bipush 10, 2) := by decide +kernel
theorem dX1_miss_153 : decode cX1_miss 153 = .ok (.idiv, 1) := by decide +kernel
theorem dX1_miss_154 : decode cX1_miss 154 = .ok (.isub, 1) := by decide +kernel
theorem dX1_miss_155 : decode cX1_miss 155 = .ok (.invokestatic 55, 3) := by decide +kernel
theorem dX1_miss_158 : decode cX1_miss 158 = .ok (.iastore, 1) := by decide +kernel
theorem dX1_miss_159 : decode cX1_miss 159 = .ok (.iconst 0, 1) := by decide +kernel
theorem dX1_miss_160 : decode cX1_miss 160 = .ok (.istore 4, 2) := by decide +kernel
theorem dX1_miss_162 : decode cX1_miss 162 = .ok (.iload 4, 2) := by decide +kernel
theorem dX1_miss_164 : decode cX1_miss 164 = .ok (.aload_n 0, 1) := by decide +kernel
theorem dX1_miss_165 : decode cX1_miss 165 = .ok (.getfield 49, 3) := by decide +kernel
theorem dX1_miss_168 : decode cX1_miss 168 = .ok (.if_icmp .ge 42, 3) := by decide +kernel
theorem dX1_miss_171 : decode cX1_miss 171 = .ok (.aload_n 0, 1) := by decide +kernel
theorem dX1_miss_172 : decode cX1_miss 172 = .ok (.getfield 29, 3) := by decide +kernel
theorem dX1_miss_175 : decode cX1_miss 175 = .ok (.iload 4, 2) := by decide +kernel
theorem dX1_miss_177 : decode cX1_miss 177 = .ok (.baload, 1) := by decide +kernel
theorem dX1_miss_178 : decode cX1_miss 178 = .ok (.ifCond .ne 26, 3) := by decide +kernel
theorem dX1_miss_181 : decode cX1_miss 181 = .ok (.aload_n 0, 1) := by decide +kernel
theorem dX1_miss_182 : decode cX1_miss 182 = .ok (.getfield 26, 3) := by decide +kernel
theorem dX1_miss_185 : decode cX1_miss 185 = .ok (.iload 4, 2) := by decide +kernel
theorem dX1_miss_187 : decode cX1_miss 187 = .ok (.iconst 0, 1) := by decide +kernel
theorem dX1_miss_188 : decode cX1_miss 188 = .ok (.aload_n 0, 1) := by decide +kernel
theorem dX1_miss_189 : decode cX1_miss 189 = .ok (.getfield 26, 3) := by decide +kernel
theorem dX1_miss_192 : decode cX1_miss 192 = .ok (.iload 4, 2) := by decide +kernel
theorem dX1_miss_194 : decode cX1_miss 194 = .ok (.iaload, 1) := by decide +kernel
theorem dX1_miss_195 : decode cX1_miss 195 = .ok (.iload_n 2, 1) := by decide +kernel
theorem dX1_miss_196 : decode cX1_miss 196 = .ok (.invokestatic 116, 3) := by decide +kernel
theorem dX1_miss_199 : decode cX1_miss 199 = .ok (.isub, 1) := by decide +kernel
theorem dX1_miss_200 : decode cX1_miss 200 = .ok (.invokestatic 55, 3) := by decide +kernel
theorem dX1_miss_203 : decode cX1_miss 203 = .ok (.iastore, 1) := by decide +kernel
theorem dX1_miss_204 : decode cX1_miss 204 = .ok (.iinc 4 1, 3) := by decide +kernel
theorem dX1_miss_207 : decode cX1_miss 207 = .ok (.goto (-45), 3) := by decide +kernel
theorem dX1_miss_210 : decode cX1_miss 210 = .ok (.aload_n 0, 1) := by decide +kernel
theorem dX1_miss_211 : decode cX1_miss 211 = .ok (.getfield 32, 3) := by decide +kernel
theorem dX1_miss_214 : decode cX1_miss 214 = .ok (.aload_n 0, 1) := by decide +kernel
theorem dX1_miss_215 : decode cX1_miss 215 = .ok (.getfield 52, 3) := by decide +kernel
theorem dX1_miss_218 : decode cX1_miss 218 = .ok (.iload_n 1, 1) := by decide +kernel
theorem dX1_miss_219 : decode cX1_miss 219 = .ok (.iastore, 1) := by decide +kernel
theorem dX1_miss_220 : decode cX1_miss 220 = .ok (.aload_n 0, 1) := by decide +kernel
theorem dX1_miss_221 : decode cX1_miss 221 = .ok (.getfield 35, 3) := by decide +kernel
theorem dX1_miss_224 : decode cX1_miss 224 = .ok (.aload_n 0, 1) := by decide +kernel
theorem dX1_miss_225 : decode cX1_miss 225 = .ok (.getfield 52, 3) := by decide +kernel
theorem dX1_miss_228 : decode cX1_miss 228 = .ok (.iload_n 3, 1) := by decide +kernel
theorem dX1_miss_229 : decode cX1_miss 229 = .ok (.iastore, 1) := by decide +kernel
theorem dX1_miss_230 : decode cX1_miss 230 = .ok (.aload_n 0, 1) := by decide +kernel
theorem dX1_miss_231 : decode cX1_miss 231 = .ok (.dup, 1) := by decide +kernel
theorem dX1_miss_232 : decode cX1_miss 232 = .ok (.getfield 52, 3) := by decide +kernel
theorem dX1_miss_235 : decode cX1_miss 235 = .ok (.iconst 1, 1) := by decide +kernel
theorem dX1_miss_236 : decode cX1_miss 236 = .ok (.iadd, 1) := by decide +kernel
theorem dX1_miss_237 : decode cX1_miss 237 = .ok (.putfield 52, 3) := by decide +kernel
theorem dX1_miss_240 : decode cX1_miss 240 = .ok (.iload_n 3, 1) := by decide +kernel
theorem dX1_miss_241 : decode cX1_miss 241 = .ok (.ireturn, 1) := by decide +kernel
theorem dX1_hit_0 : decode cX1_hit 0 = .ok (.aload_n 0, 1) := by decide +kernel
theorem dX1_hit_1 : decode cX1_hit 1 = .ok (.iconst 0, 1) := by decide +kernel
theorem dX1_hit_2 : decode cX1_hit 2 = .ok (.putfield 38, 3) := by decide +kernel
theorem dX1_hit_5 : decode cX1_hit 5 = .ok (.aload_n 0, 1) := by decide +kernel
theorem dX1_hit_6 : decode cX1_hit 6 = .ok (.iload_n 1, 1) := by decide +kernel
theorem dX1_hit_7 : decode cX1_hit 7 = .ok (.invokevirtual 100, 3) := by decide +kernel
theorem dX1_hit_10 : decode cX1_hit 10 = .ok (.ifCond .ne 9, 3) := by decide +kernel
theorem dX1_hit_13 : decode cX1_hit 13 = .ok (.aload_n 0, 1) := by decide +kernel
theorem dX1_hit_14 : decode cX1_hit 14 = .ok (.iconst 1, 1) := by decide +kernel
theorem dX1_hit_15 : decode cX1_hit 15 = .ok (.invokevirtual 97, 3) := by decide +kernel
theorem dX1_hit_18 : decode cX1_hit 18 = .ok (.ireturn, 1) := by decide +kernel
theorem dX1_hit_19 : decode cX1_hit 19 = .ok (.aload_n 0, 1) := by decide +kernel
theorem dX1_hit_20 : decode cX1_hit 20 = .ok (.getfield 9, 3) := by decide +kernel
theorem dX1_hit_23 : decode cX1_hit 23 = .ok (.iload_n 1, 1) := by decide +kernel
theorem dX1_hit_24 : decode cX1_hit 24 = .ok (.baload, 1) := by decide +kernel
theorem dX1_hit_25 : decode cX1_hit 25 = .ok (.ifCond .eq 9, 3) := by decide +kernel
theorem dX1_hit_28 : decode cX1_hit 28 = .ok (.aload_n 0, 1) := by decide +kernel
theorem dX1_hit_29 : decode cX1_hit 29 = .ok (.iconst 2, 1) := by decide +kernel
theorem dX1_hit_30 : decode cX1_hit 30 = .ok (.invokevirtual 97, 3) := by decide +kernel
theorem dX1_hit_33 : decode cX1_hit 33 = .ok (.ireturn, 1) := by decide +kernel
theorem dX1_hit_34 : decode cX1_hit 34 = .ok (.aload_n 0, 1) := by decide +kernel
theorem dX1_hit_35 : decode cX1_hit 35 = .ok (.iload_n 1, 1) := by decide +kernel
theorem dX1_hit_36 : decode cX1_hit 36 = .ok (.invokevirtual 119, 3) := by decide +kernel
theorem dX1_hit_39 : decode cX1_hit 39 = .ok (.istore_n 2, 1) := by decide +kernel
theorem dX1_hit_40 : decode cX1_hit 40 = .ok (.aload_n 0, 1) := by decide +kernel
theorem dX1_hit_41 : decode cX1_hit 41 = .ok (.getfield 9, 3) := by decide +kernel
theorem dX1_hit_44 : decode cX1_hit 44 = .ok (.iload_n 1, 1) := by decide +kernel
theorem dX1_hit_45 : decode cX1_hit 45 = .ok (.iconst 1, 1) := by decide +kernel
theorem dX1_hit_46 : decode cX1_hit 46 = .ok (.bastore, 1) := by decide +kernel
theorem dX1_hit_47 : decode cX1_hit 47 = .ok (.iload_n 2, 1) := by decide +kernel
theorem dX1_hit_48 : decode cX1_hit 48 = .ok (.iconst (-1), 1) := by decide +kernel
theorem dX1_hit_49 : decode cX1_hit 49 = .ok (.if_icmp .ne 21, 3) := by decide +kernel
theorem dX1_hit_52 : decode cX1_hit 52 = .ok (.aload_n 0, 1) := by decide +kernel
theorem dX1_hit_53 : decode cX1_hit 53 = .ok (.dup, 1) := by decide +kernel
theorem dX1_hit_54 : decode cX1_hit 54 = .ok (.getfield 64, 3) := by decide +kernel
theorem dX1_hit_57 : decode cX1_hit 57 = .ok (.aload_n 0, 1) := by decide +kernel
theorem dX1_hit_58 : decode cX1_hit 58 = .ok (.getfield 17, 3) := by decide +kernel
theorem dX1_hit_61 : decode cX1_hit 61 = .ok (.iload_n 1, 1) := by decide +kernel
theorem dX1_hit_62 : decode cX1_hit 62 = .ok (.iaload, 1) := by decide +kernel
theorem dX1_hit_63 : decode cX1_hit 63 = .ok (.iadd, 1) := by decide +kernel
theorem dX1_hit_64 : decode cX1_hit 64 = .ok (.putfield 64, 3) := by decide +kernel
theorem dX1_hit_67 : decode cX1_hit 67 = .ok (.goto 44, 3) := by decide +kernel
theorem dX1_hit_70 : decode cX1_hit 70 = .ok (.aload_n 0, 1) := by decide +kernel
theorem dX1_hit_71 : decode cX1_hit 71 = .ok (.getfield 13, 3) := by decide +kernel
theorem dX1_hit_74 : decode cX1_hit 74 = .ok (.iload_n 2, 1) := by decide +kernel
theorem dX1_hit_75 : decode cX1_hit 75 = .ok (.bipush 99, 2) := by decide +kernel
theorem dX1_hit_77 : decode cX1_hit 77 = .ok (.aload_n 0, 1) := by decide +kernel
theorem dX1_hit_78 : decode cX1_hit 78 = .ok (.getfield 13, 3) := by decide +kernel
theorem dX1_hit_81 : decode cX1_hit 81 = .ok (.iload_n 2, 1) := by decide +kernel
theorem dX1_hit_82 : decode cX1_hit 82 = .ok (.iaload, 1) := by decide +kernel
theorem dX1_hit_83 : decode cX1_hit 83 = .ok (.aload_n 0, 1) := by decide +kernel
theorem dX1_hit_84 : decode cX1_hit 84 = .ok (.getfield 13, 3) := by decide +kernel
theorem dX1_hit_87 : decode cX1_hit 87 = .ok (.iload_n 1, 1) := by decide +kernel
theorem dX1_hit_88 : decode cX1_hit 88 = .ok (.iaload, 1) := by decide +kernel
theorem dX1_hit_89 : decode cX1_hit 89 = .ok (.iconst 2, 1) := by decide +kernel
theorem dX1_hit_90 : decode cX1_hit 90 = .ok (.idiv, 1) := by decide +kernel
theorem dX1_hit_91 : decode cX1_hit 91 = .ok (.iadd, 1) := by decide +kernel
theorem dX1_hit_92 : decode cX1_hit 92 = .ok (.invokestatic 71, 3) := by decide +kernel
theorem dX1_hit_95 : decode cX1_hit 95 = .ok (.iastore, 1) := by decide +kernel
theorem dX1_hit_96 : decode cX1_hit 96 = .ok (.aload_n 0, 1) := by decide +kernel
theorem dX1_hit_97 : decode cX1_hit 97 = .ok (.getfield 17, 3) := by decide +kernel
theorem dX1_hit_100 : decode cX1_hit 100 = .ok (.iload_n 2, 1) := by decide +kernel
theorem dX1_hit_101 : decode cX1_hit 101 = .ok (.dup2, 1) := by decide +kernel
theorem dX1_hit_102 : decode cX1_hit 102 = .ok (.iaload, 1) := by decide +kernel
theorem dX1_hit_103 : decode cX1_hit 103 = .ok (.aload_n 0, 1) := by decide +kernel
theorem dX1_hit_104 : decode cX1_hit 104 = .ok (.getfield 17, 3) := by decide +kernel
theorem dX1_hit_107 : decode cX1_hit 107 = .ok (.iload_n 1, 1) := by decide +kernel
theorem dX1_hit_108 : decode cX1_hit 108 = .ok (.iaload, 1) := by decide +kernel
theorem dX1_hit_109 : decode cX1_hit 109 = .ok (.iadd, 1) := by decide +kernel
theorem dX1_hit_110 : decode cX1_hit 110 = .ok (.iastore, 1) := by decide +kernel
theorem dX1_hit_111 : decode cX1_hit 111 = .ok (.aload_n 0, 1) := by decide +kernel
theorem dX1_hit_112 : decode cX1_hit 112 = .ok (.getfield 17, 3) := by decide +kernel
theorem dX1_hit_115 : decode cX1_hit 115 = .ok (.iload_n 1, 1) := by decide +kernel
theorem dX1_hit_116 : decode cX1_hit 116 = .ok (.iconst 0, 1) := by decide +kernel
theorem dX1_hit_117 : decode cX1_hit 117 = .ok (.iastore, 1) := by decide +kernel
theorem dX1_hit_118 : decode cX1_hit 118 = .ok (.aload_n 0, 1) := by decide +kernel
theorem dX1_hit_119 : decode cX1_hit 119 = .ok (.getfield 20, 3) := by decide +kernel
theorem dX1_hit_122 : decode cX1_hit 122 = .ok (.iload_n 1, 1) := by decide +kernel
theorem dX1_hit_123 : decode cX1_hit 123 = .ok (.iconst 0, 1) := by decide +kernel
theorem dX1_hit_124 : decode cX1_hit 124 = .ok (.iastore, 1) := by decide +kernel
theorem dX1_hit_125 : decode cX1_hit 125 = .ok (.iload_n 2, 1) := by decide +kernel
theorem dX1_hit_126 : decode cX1_hit 126 = .ok (.ireturn, 1) := by decide +kernel
theorem dX1_shakenNow_0 : decode cX1_shakenNow 0 = .ok (.iconst 0, 1) := by decide +kernel
theorem dX1_shakenNow_1 : decode cX1_shakenNow 1 = .ok (.istore_n 1, 1) := by decide +kernel
theorem dX1_shakenNow_2 : decode cX1_shakenNow 2 = .ok (.iconst 0, 1) := by decide +kernel
theorem dX1_shakenNow_3 : decode cX1_shakenNow 3 = .ok (.istore_n 2, 1) := by decide +kernel
theorem dX1_shakenNow_4 : decode cX1_shakenNow 4 = .ok (.iload_n 2, 1) := by decide +kernel
theorem dX1_shakenNow_5 : decode cX1_shakenNow 5 = .ok (.aload_n 0, 1) := by decide +kernel
theorem dX1_shakenNow_6 : decode cX1_shakenNow 6 = .ok (.getfield 49, 3) := by decide +kernel
theorem dX1_shakenNow_9 : decode cX1_shakenNow 9 = .ok (.if_icmp .ge 27, 3) := by decide +kernel
theorem dX1_shakenNow_12 : decode cX1_shakenNow 12 = .ok (.iload_n 1, 1) := by decide +kernel
theorem dX1_shakenNow_13 : decode cX1_shakenNow 13 = .ok (.aload_n 0, 1) := by decide +kernel
theorem dX1_shakenNow_14 : decode cX1_shakenNow 14 = .ok (.getfield 26, 3) := by decide +kernel
theorem dX1_shakenNow_17 : decode cX1_shakenNow 17 = .ok (.iload_n 2, 1) := by decide +kernel
theorem dX1_shakenNow_18 : decode cX1_shakenNow 18 = .ok (.iaload, 1) := by decide +kernel
theorem dX1_shakenNow_19 : decode cX1_shakenNow 19 = .ok (.iconst 2, 1) := by decide +kernel
theorem dX1_shakenNow_20 : decode cX1_shakenNow 20 = .ok (.if_icmp .gt 7, 3) := by decide +kernel
theorem dX1_shakenNow_23 : decode cX1_shakenNow 23 = .ok (.iconst 1, 1) := by decide +kernel
theorem dX1_shakenNow_24 : decode cX1_shakenNow 24 = .ok (.goto 4, 3) := by decide +kernel
theorem dX1_shakenNow_27 : decode cX1_shakenNow 27 = .ok (.iconst 0, 1) := by decide +kernel
theorem dX1_shakenNow_28 : decode cX1_shakenNow 28 = .ok (.iadd, 1) := by decide +kernel
theorem dX1_shakenNow_29 : decode cX1_shakenNow 29 = .ok (.istore_n 1, 1) := by decide +kernel
theorem dX1_shakenNow_30 : decode cX1_shakenNow 30 = .ok (.iinc 2 1, 3) := by decide +kernel
theorem dX1_shakenNow_33 : decode cX1_shakenNow 33 = .ok (.goto (-29), 3) := by decide +kernel
theorem dX1_shakenNow_36 : decode cX1_shakenNow 36 = .ok (.iload_n 1, 1) := by decide +kernel
theorem dX1_shakenNow_37 : decode cX1_shakenNow 37 = .ok (.ireturn, 1) := by decide +kernel
theorem dX1_pass_0 : decode cX1_pass 0 = .ok (.aload_n 0, 1) := by decide +kernel
theorem dX1_pass_1 : decode cX1_pass 1 = .ok (.iconst 0, 1) := by decide +kernel
theorem dX1_pass_2 : decode cX1_pass 2 = .ok (.putfield 38, 3) := by decide +kernel
theorem dX1_pass_5 : decode cX1_pass 5 = .ok (.iload_n 1, 1) := by decide +kernel
theorem dX1_pass_6 : decode cX1_pass 6 = .ok (.iconst 1, 1) := by decide +kernel
theorem dX1_pass_7 : decode cX1_pass 7 = .ok (.bipush 30, 2) := by decide +kernel
theorem dX1_pass_9 : decode cX1_pass 9 = .ok (.invokestatic 45, 3) := by decide +kernel
theorem dX1_pass_12 : decode cX1_pass 12 = .ok (.ifCond .ne 9, 3) := by decide +kernel
theorem dX1_pass_15 : decode cX1_pass 15 = .ok (.aload_n 0, 1) := by decide +kernel
theorem dX1_pass_16 : decode cX1_pass 16 = .ok (.iconst 1, 1) := by decide +kernel
theorem dX1_pass_17 : decode cX1_pass 17 = .ok (.invokevirtual 97, 3) := by decide +kernel
theorem dX1_pass_20 : decode cX1_pass 20 = .ok (.ireturn, 1) := by decide +kernel
theorem dX1_pass_21 : decode cX1_pass 21 = .ok (.iconst 0, 1) := by decide +kernel
theorem dX1_pass_22 : decode cX1_pass 22 = .ok (.istore_n 2, 1) := by decide +kernel
theorem dX1_pass_23 : decode cX1_pass 23 = .ok (.iload_n 2, 1) := by decide +kernel
theorem dX1_pass_24 : decode cX1_pass 24 = .ok (.aload_n 0, 1) := by decide +kernel
theorem dX1_pass_25 : decode cX1_pass 25 = .ok (.getfield 49, 3) := by decide +kernel
theorem dX1_pass_28 : decode cX1_pass 28 = .ok (.if_icmp .ge 43, 3) := by decide +kernel
theorem dX1_pass_31 : decode cX1_pass 31 = .ok (.aload_n 0, 1) := by decide +kernel
theorem dX1_pass_32 : decode cX1_pass 32 = .ok (.getfield 26, 3) := by decide +kernel
theorem dX1_pass_35 : decode cX1_pass 35 = .ok (.iload_n 2, 1) := by decide +kernel
theorem dX1_pass_36 : decode cX1_pass 36 = .ok (.bipush 9, 2) := by decide +kernel
theorem dX1_pass_38 : decode cX1_pass 38 = .ok (.aload_n 0, 1) := by decide +kernel
theorem dX1_pass_39 : decode cX1_pass 39 = .ok (.getfield 26, 3) := by decide +kernel
theorem dX1_pass_42 : decode cX1_pass 42 = .ok (.iload_n 2, 1) := by decide +kernel
theorem dX1_pass_43 : decode cX1_pass 43 = .ok (.iaload, 1) := by decide +kernel
theorem dX1_pass_44 : decode cX1_pass 44 = .ok (.iload_n 1, 1) := by decide +kernel
theorem dX1_pass_45 : decode cX1_pass 45 = .ok (.aload_n 0, 1) := by decide +kernel
theorem dX1_pass_46 : decode cX1_pass 46 = .ok (.getfield 29, 3) := by decide +kernel
theorem dX1_pass_49 : decode cX1_pass 49 = .ok (.iload_n 2, 1) := by decide +kernel
theorem dX1_pass_50 : decode cX1_pass 50 = .ok (.baload, 1) := by decide +kernel
theorem dX1_pass_51 : decode cX1_pass 51 = .ok (.ifCond .eq 7, 3) := by decide +kernel
theorem dX1_pass_54 : decode cX1_pass 54 = .ok (.iconst 2, 1) := by decide +kernel
theorem dX1_pass_55 : decode cX1_pass 55 = .ok (.goto 4, 3) := by decide +kernel
theorem dX1_pass_58 : decode cX1_pass 58 = .ok (.iconst 1, 1) := by decide +kernel
theorem dX1_pass_59 : decode cX1_pass 59 = .ok (.imul, 1) := by decide +kernel
theorem dX1_pass_60 : decode cX1_pass 60 = .ok (.iadd, 1) := by decide +kernel
theorem dX1_pass_61 : decode cX1_pass 61 = .ok (.invokestatic 71, 3) := by decide +kernel
theorem dX1_pass_64 : decode cX1_pass 64 = .ok (.iastore, 1) := by decide +kernel
theorem dX1_pass_65 : decode cX1_pass 65 = .ok (.iinc 2 1, 3) := by decide +kernel
theorem dX1_pass_68 : decode cX1_pass 68 = .ok (.goto (-45), 3) := by decide +kernel
theorem dX1_pass_71 : decode cX1_pass 71 = .ok (.iconst 0, 1) := by decide +kernel
theorem dX1_pass_72 : decode cX1_pass 72 = .ok (.istore_n 2, 1) := by decide +kernel
theorem dX1_pass_73 : decode cX1_pass 73 = .ok (.iload_n 2, 1) := by decide +kernel
theorem dX1_pass_74 : decode cX1_pass 74 = .ok (.aload_n 0, 1) := by decide +kernel
theorem dX1_pass_75 : decode cX1_pass 75 = .ok (.getfield 42, 3) := by decide +kernel
theorem dX1_pass_78 : decode cX1_pass 78 = .ok (.if_icmp .ge 37, 3) := by decide +kernel
theorem dX1_pass_81 : decode cX1_pass 81 = .ok (.aload_n 0, 1) := by decide +kernel
theorem dX1_pass_82 : decode cX1_pass 82 = .ok (.getfield 9, 3) := by decide +kernel
theorem dX1_pass_85 : decode cX1_pass 85 = .ok (.iload_n 2, 1) := by decide +kernel
theorem dX1_pass_86 : decode cX1_pass 86 = .ok (.baload, 1) := by decide +kernel
theorem dX1_pass_87 : decode cX1_pass 87 = .ok (.ifCond .ne 22, 3) := by decide +kernel
theorem dX1_pass_90 : decode cX1_pass 90 = .ok (.aload_n 0, 1) := by decide +kernel
theorem dX1_pass_91 : decode cX1_pass 91 = .ok (.getfield 13, 3) := by decide +kernel
theorem dX1_pass_94 : decode cX1_pass 94 = .ok (.iload_n 2, 1) := by decide +kernel
theorem dX1_pass_95 : decode cX1_pass 95 = .ok (.bipush 99, 2) := by decide +kernel
theorem dX1_pass_97 : decode cX1_pass 97 = .ok (.aload_n 0, 1) := by decide +kernel
theorem dX1_pass_98 : decode cX1_pass 98 = .ok (.getfield 13, 3) := by decide +kernel
theorem dX1_pass_101 : decode cX1_pass 101 = .ok (.iload_n 2, 1) := by decide +kernel
theorem dX1_pass_102 : decode cX1_pass 102 = .ok (.iaload, 1) := by decide +kernel
theorem dX1_pass_103 : decode cX1_pass 103 = .ok (.iload_n 1, 1) := by decide +kernel
theorem dX1_pass_104 : decode cX1_pass 104 = .ok (.iadd, 1) := by decide +kernel
theorem dX1_pass_105 : decode cX1_pass 105 = .ok (.invokestatic 71, 3) := by decide +kernel
theorem dX1_pass_108 : decode cX1_pass 108 = .ok (.iastore, 1) := by decide +kernel
theorem dX1_pass_109 : decode cX1_pass 109 = .ok (.iinc 2 1, 3) := by decide +kernel
theorem dX1_pass_112 : decode cX1_pass 112 = .ok (.goto (-39), 3) := by decide +kernel
theorem dX1_pass_115 : decode cX1_pass 115 = .ok (.aload_n 0, 1) := by decide +kernel
theorem dX1_pass_116 : decode cX1_pass 116 = .ok (.dup, 1) := by decide +kernel
theorem dX1_pass_117 : decode cX1_pass 117 = .ok (.getfield 122, 3) := by decide +kernel
theorem dX1_pass_120 : decode cX1_pass 120 = .ok (.iload_n 1, 1) := by decide +kernel
theorem dX1_pass_121 : decode cX1_pass 121 = .ok (.iadd, 1) := by decide +kernel
theorem dX1_pass_122 : decode cX1_pass 122 = .ok (.putfield 122, 3) := by decide +kernel
theorem dX1_pass_125 : decode cX1_pass 125 = .ok (.aload_n 0, 1) := by decide +kernel
theorem dX1_pass_126 : decode cX1_pass 126 = .ok (.invokevirtual 125, 3) := by decide +kernel
theorem dX1_pass_129 : decode cX1_pass 129 = .ok (.ireturn, 1) := by decide +kernel
theorem dX1_night_0 : decode cX1_night 0 = .ok (.aload_n 0, 1) := by decide +kernel
theorem dX1_night_1 : decode cX1_night 1 = .ok (.aload_n 0, 1) := by decide +kernel
theorem dX1_night_2 : decode cX1_night 2 = .ok (.getfield 122, 3) := by decide +kernel
theorem dX1_night_5 : decode cX1_night 5 = .ok (.invokevirtual 128, 3) := by decide +kernel
theorem dX1_night_8 : decode cX1_night 8 = .ok (.ireturn, 1) := by decide +kernel
theorem dX1_persons_0 : decode cX1_persons 0 = .ok (.aload_n 0, 1) := by decide +kernel
theorem dX1_persons_1 : decode cX1_persons 1 = .ok (.aload_n 0, 1) := by decide +kernel
theorem dX1_persons_2 : decode cX1_persons 2 = .ok (.getfield 42, 3) := by decide +kernel
theorem dX1_persons_5 : decode cX1_persons 5 = .ok (.invokevirtual 128, 3) := by decide +kernel
theorem dX1_persons_8 : decode cX1_persons 8 = .ok (.ireturn, 1) := by decide +kernel
theorem dX1_living_0 : decode cX1_living 0 = .ok (.iconst 0, 1) := by decide +kernel
theorem dX1_living_1 : decode cX1_living 1 = .ok (.istore_n 1, 1) := by decide +kernel
theorem dX1_living_2 : decode cX1_living 2 = .ok (.iconst 0, 1) := by decide +kernel
theorem dX1_living_3 : decode cX1_living 3 = .ok (.istore_n 2, 1) := by decide +kernel
theorem dX1_living_4 : decode cX1_living 4 = .ok (.iload_n 2, 1) := by decide +kernel
theorem dX1_living_5 : decode cX1_living 5 = .ok (.aload_n 0, 1) := by decide +kernel
theorem dX1_living_6 : decode cX1_living 6 = .ok (.getfield 42, 3) := by decide +kernel
theorem dX1_living_9 : decode cX1_living 9 = .ok (.if_icmp .ge 26, 3) := by decide +kernel
theorem dX1_living_12 : decode cX1_living 12 = .ok (.iload_n 1, 1) := by decide +kernel
theorem dX1_living_13 : decode cX1_living 13 = .ok (.aload_n 0, 1) := by decide +kernel
theorem dX1_living_14 : decode cX1_living 14 = .ok (.getfield 9, 3) := by decide +kernel
theorem dX1_living_17 : decode cX1_living 17 = .ok (.iload_n 2, 1) := by decide +kernel
theorem dX1_living_18 : decode cX1_living 18 = .ok (.baload, 1) := by decide +kernel
theorem dX1_living_19 : decode cX1_living 19 = .ok (.ifCond .eq 7, 3) := by decide +kernel
theorem dX1_living_22 : decode cX1_living 22 = .ok (.iconst 0, 1) := by decide +kernel
theorem dX1_living_23 : decode cX1_living 23 = .ok (.goto 4, 3) := by decide +kernel
theorem dX1_living_26 : decode cX1_living 26 = .ok (.iconst 1, 1) := by decide +kernel
theorem dX1_living_27 : decode cX1_living 27 = .ok (.iadd, 1) := by decide +kernel
theorem dX1_living_28 : decode cX1_living 28 = .ok (.istore_n 1, 1) := by decide +kernel
theorem dX1_living_29 : decode cX1_living 29 = .ok (.iinc 2 1, 3) := by decide +kernel
theorem dX1_living_32 : decode cX1_living 32 = .ok (.goto (-28), 3) := by decide +kernel
theorem dX1_living_35 : decode cX1_living 35 = .ok (.iload_n 1, 1) := by decide +kernel
theorem dX1_living_36 : decode cX1_living 36 = .ok (.ireturn, 1) := by decide +kernel
theorem dX1_alive_0 : decode cX1_alive 0 = .ok (.aload_n 0, 1) := by decide +kernel
theorem dX1_alive_1 : decode cX1_alive 1 = .ok (.aload_n 0, 1) := by decide +kernel
theorem dX1_alive_2 : decode cX1_alive 2 = .ok (.invokevirtual 131, 3) := by decide +kernel
theorem dX1_alive_5 : decode cX1_alive 5 = .ok (.invokevirtual 128, 3) := by decide +kernel
theorem dX1_alive_8 : decode cX1_alive 8 = .ok (.ireturn, 1) := by decide +kernel
theorem dX1_witnesses_0 : decode cX1_witnesses 0 = .ok (.aload_n 0, 1) := by decide +kernel
theorem dX1_witnesses_1 : decode cX1_witnesses 1 = .ok (.aload_n 0, 1) := by decide +kernel
theorem dX1_witnesses_2 : decode cX1_witnesses 2 = .ok (.getfield 49, 3) := by decide +kernel
theorem dX1_witnesses_5 : decode cX1_witnesses 5 = .ok (.invokevirtual 128, 3) := by decide +kernel
theorem dX1_witnesses_8 : decode cX1_witnesses 8 = .ok (.ireturn, 1) := by decide +kernel
theorem dX1_shaken_0 : decode cX1_shaken 0 = .ok (.aload_n 0, 1) := by decide +kernel
theorem dX1_shaken_1 : decode cX1_shaken 1 = .ok (.aload_n 0, 1) := by decide +kernel
theorem dX1_shaken_2 : decode cX1_shaken 2 = .ok (.invokevirtual 125, 3) := by decide +kernel
theorem dX1_shaken_5 : decode cX1_shaken 5 = .ok (.invokevirtual 128, 3) := by decide +kernel
theorem dX1_shaken_8 : decode cX1_shaken 8 = .ok (.ireturn, 1) := by decide +kernel
theorem dX1_fund_0 : decode cX1_fund 0 = .ok (.aload_n 0, 1) := by decide +kernel
theorem dX1_fund_1 : decode cX1_fund 1 = .ok (.aload_n 0, 1) := by decide +kernel
theorem dX1_fund_2 : decode cX1_fund 2 = .ok (.getfield 64, 3) := by decide +kernel
theorem dX1_fund_5 : decode cX1_fund 5 = .ok (.invokevirtual 128, 3) := by decide +kernel
theorem dX1_fund_8 : decode cX1_fund 8 = .ok (.ireturn, 1) := by decide +kernel
theorem dX1_refunded_0 : decode cX1_refunded 0 = .ok (.aload_n 0, 1) := by decide +kernel
theorem dX1_refunded_1 : decode cX1_refunded 1 = .ok (.aload_n 0, 1) := by decide +kernel
theorem dX1_refunded_2 : decode cX1_refunded 2 = .ok (.getfield 113, 3) := by decide +kernel
theorem dX1_refunded_5 : decode cX1_refunded 5 = .ok (.invokevirtual 128, 3) := by decide +kernel
theorem dX1_refunded_8 : decode cX1_refunded 8 = .ok (.ireturn, 1) := by decide +kernel
theorem dX1_misses_0 : decode cX1_misses 0 = .ok (.aload_n 0, 1) := by decide +kernel
theorem dX1_misses_1 : decode cX1_misses 1 = .ok (.aload_n 0, 1) := by decide +kernel
theorem dX1_misses_2 : decode cX1_misses 2 = .ok (.getfield 52, 3) := by decide +kernel
theorem dX1_misses_5 : decode cX1_misses 5 = .ok (.invokevirtual 128, 3) := by decide +kernel
theorem dX1_misses_8 : decode cX1_misses 8 = .ok (.ireturn, 1) := by decide +kernel
theorem dX1_sealed_0 : decode cX1_sealed 0 = .ok (.iconst 0, 1) := by decide +kernel
theorem dX1_sealed_1 : decode cX1_sealed 1 = .ok (.istore_n 1, 1) := by decide +kernel
theorem dX1_sealed_2 : decode cX1_sealed 2 = .ok (.iconst 0, 1) := by decide +kernel
theorem dX1_sealed_3 : decode cX1_sealed 3 = .ok (.istore_n 2, 1) := by decide +kernel
theorem dX1_sealed_4 : decode cX1_sealed 4 = .ok (.iload_n 2, 1) := by decide +kernel
theorem dX1_sealed_5 : decode cX1_sealed 5 = .ok (.aload_n 0, 1) := by decide +kernel
theorem dX1_sealed_6 : decode cX1_sealed 6 = .ok (.getfield 52, 3) := by decide +kernel
theorem dX1_sealed_9 : decode cX1_sealed 9 = .ok (.if_icmp .ge 26, 3) := by decide +kernel
theorem dX1_sealed_12 : decode cX1_sealed 12 = .ok (.iload_n 1, 1) := by decide +kernel
theorem dX1_sealed_13 : decode cX1_sealed 13 = .ok (.aload_n 0, 1) := by decide +kernel
theorem dX1_sealed_14 : decode cX1_sealed 14 = .ok (.getfield 35, 3) := by decide +kernel
theorem dX1_sealed_17 : decode cX1_sealed 17 = .ok (.iload_n 2, 1) := by decide +kernel
theorem dX1_sealed_18 : decode cX1_sealed 18 = .ok (.iaload, 1) := by decide +kernel
theorem dX1_sealed_19 : decode cX1_sealed 19 = .ok (.ifCond .le 7, 3) := by decide +kernel
theorem dX1_sealed_22 : decode cX1_sealed 22 = .ok (.iconst 1, 1) := by decide +kernel
theorem dX1_sealed_23 : decode cX1_sealed 23 = .ok (.goto 4, 3) := by decide +kernel
theorem dX1_sealed_26 : decode cX1_sealed 26 = .ok (.iconst 0, 1) := by decide +kernel
theorem dX1_sealed_27 : decode cX1_sealed 27 = .ok (.iadd, 1) := by decide +kernel
theorem dX1_sealed_28 : decode cX1_sealed 28 = .ok (.istore_n 1, 1) := by decide +kernel
theorem dX1_sealed_29 : decode cX1_sealed 29 = .ok (.iinc 2 1, 3) := by decide +kernel
theorem dX1_sealed_32 : decode cX1_sealed 32 = .ok (.goto (-28), 3) := by decide +kernel
theorem dX1_sealed_35 : decode cX1_sealed 35 = .ok (.iload_n 1, 1) := by decide +kernel
theorem dX1_sealed_36 : decode cX1_sealed 36 = .ok (.ireturn, 1) := by decide +kernel
theorem dX1_certified_0 : decode cX1_certified 0 = .ok (.aload_n 0, 1) := by decide +kernel
theorem dX1_certified_1 : decode cX1_certified 1 = .ok (.aload_n 0, 1) := by decide +kernel
theorem dX1_certified_2 : decode cX1_certified 2 = .ok (.invokevirtual 134, 3) := by decide +kernel
theorem dX1_certified_5 : decode cX1_certified 5 = .ok (.invokevirtual 128, 3) := by decide +kernel
theorem dX1_certified_8 : decode cX1_certified 8 = .ok (.ireturn, 1) := by decide +kernel
theorem dX1_isAlive_0 : decode cX1_isAlive 0 = .ok (.aload_n 0, 1) := by decide +kernel
theorem dX1_isAlive_1 : decode cX1_isAlive 1 = .ok (.aload_n 0, 1) := by decide +kernel
theorem dX1_isAlive_2 : decode cX1_isAlive 2 = .ok (.iload_n 1, 1) := by decide +kernel
theorem dX1_isAlive_3 : decode cX1_isAlive 3 = .ok (.invokevirtual 100, 3) := by decide +kernel
theorem dX1_isAlive_6 : decode cX1_isAlive 6 = .ok (.ifCond .eq 7, 3) := by decide +kernel
theorem dX1_isAlive_9 : decode cX1_isAlive 9 = .ok (.iconst 0, 1) := by decide +kernel
theorem dX1_isAlive_10 : decode cX1_isAlive 10 = .ok (.goto 4, 3) := by decide +kernel
theorem dX1_isAlive_13 : decode cX1_isAlive 13 = .ok (.iconst 1, 1) := by decide +kernel
theorem dX1_isAlive_14 : decode cX1_isAlive 14 = .ok (.putfield 38, 3) := by decide +kernel
theorem dX1_isAlive_17 : decode cX1_isAlive 17 = .ok (.aload_n 0, 1) := by decide +kernel
theorem dX1_isAlive_18 : decode cX1_isAlive 18 = .ok (.getfield 38, 3) := by decide +kernel
theorem dX1_isAlive_21 : decode cX1_isAlive 21 = .ok (.ifCond .ne 16, 3) := by decide +kernel
theorem dX1_isAlive_24 : decode cX1_isAlive 24 = .ok (.aload_n 0, 1) := by decide +kernel
theorem dX1_isAlive_25 : decode cX1_isAlive 25 = .ok (.getfield 9, 3) := by decide +kernel
theorem dX1_isAlive_28 : decode cX1_isAlive 28 = .ok (.iload_n 1, 1) := by decide +kernel
theorem dX1_isAlive_29 : decode cX1_isAlive 29 = .ok (.baload, 1) := by decide +kernel
theorem dX1_isAlive_30 : decode cX1_isAlive 30 = .ok (.ifCond .ne 7, 3) := by decide +kernel
theorem dX1_isAlive_33 : decode cX1_isAlive 33 = .ok (.iconst 1, 1) := by decide +kernel
theorem dX1_isAlive_34 : decode cX1_isAlive 34 = .ok (.goto 4, 3) := by decide +kernel
theorem dX1_isAlive_37 : decode cX1_isAlive 37 = .ok (.iconst 0, 1) := by decide +kernel
theorem dX1_isAlive_38 : decode cX1_isAlive 38 = .ok (.ireturn, 1) := by decide +kernel
theorem dX1_of_0 : decode cX1_of 0 = .ok (.aload_n 0, 1) := by decide +kernel
theorem dX1_of_1 : decode cX1_of 1 = .ok (.iconst 0, 1) := by decide +kernel
theorem dX1_of_2 : decode cX1_of 2 = .ok (.putfield 38, 3) := by decide +kernel
theorem dX1_of_5 : decode cX1_of 5 = .ok (.aload_n 0, 1) := by decide +kernel
theorem dX1_of_6 : decode cX1_of 6 = .ok (.iload_n 1, 1) := by decide +kernel
theorem dX1_of_7 : decode cX1_of 7 = .ok (.invokevirtual 100, 3) := by decide +kernel
theorem dX1_of_10 : decode cX1_of 10 = .ok (.ifCond .eq 9, 3) := by decide +kernel
theorem dX1_of_13 : decode cX1_of 13 = .ok (.aload_n 2, 1) := by decide +kernel
theorem dX1_of_14 : decode cX1_of 14 = .ok (.iload_n 1, 1) := by decide +kernel
theorem dX1_of_15 : decode cX1_of 15 = .ok (.iaload, 1) := by decide +kernel
theorem dX1_of_16 : decode cX1_of 16 = .ok (.goto 8, 3) := by decide +kernel
theorem dX1_of_19 : decode cX1_of 19 = .ok (.aload_n 0, 1) := by decide +kernel
theorem dX1_of_20 : decode cX1_of 20 = .ok (.iconst 1, 1) := by decide +kernel
theorem dX1_of_21 : decode cX1_of 21 = .ok (.invokevirtual 97, 3) := by decide +kernel
theorem dX1_of_24 : decode cX1_of 24 = .ok (.ireturn, 1) := by decide +kernel
theorem dX1_luckOf_0 : decode cX1_luckOf 0 = .ok (.aload_n 0, 1) := by decide +kernel
theorem dX1_luckOf_1 : decode cX1_luckOf 1 = .ok (.iload_n 1, 1) := by decide +kernel
theorem dX1_luckOf_2 : decode cX1_luckOf 2 = .ok (.aload_n 0, 1) := by decide +kernel
theorem dX1_luckOf_3 : decode cX1_luckOf 3 = .ok (.getfield 13, 3) := by decide +kernel
theorem dX1_luckOf_6 : decode cX1_luckOf 6 = .ok (.invokevirtual 137, 3) := by decide +kernel
theorem dX1_luckOf_9 : decode cX1_luckOf 9 = .ok (.ireturn, 1) := by decide +kernel
theorem dX1_purseOf_0 : decode cX1_purseOf 0 = .ok (.aload_n 0, 1) := by decide +kernel
theorem dX1_purseOf_1 : decode cX1_purseOf 1 = .ok (.iload_n 1, 1) := by decide +kernel
theorem dX1_purseOf_2 : decode cX1_purseOf 2 = .ok (.aload_n 0, 1) := by decide +kernel
theorem dX1_purseOf_3 : decode cX1_purseOf 3 = .ok (.getfield 17, 3) := by decide +kernel
theorem dX1_purseOf_6 : decode cX1_purseOf 6 = .ok (.invokevirtual 137, 3) := by decide +kernel
theorem dX1_purseOf_9 : decode cX1_purseOf 9 = .ok (.ireturn, 1) := by decide +kernel
theorem dX1_fatesOf_0 : decode cX1_fatesOf 0 = .ok (.aload_n 0, 1) := by decide +kernel
theorem dX1_fatesOf_1 : decode cX1_fatesOf 1 = .ok (.iload_n 1, 1) := by decide +kernel
theorem dX1_fatesOf_2 : decode cX1_fatesOf 2 = .ok (.aload_n 0, 1) := by decide +kernel
theorem dX1_fatesOf_3 : decode cX1_fatesOf 3 = .ok (.getfield 20, 3) := by decide +kernel
theorem dX1_fatesOf_6 : decode cX1_fatesOf 6 = .ok (.invokevirtual 137, 3) := by decide +kernel
theorem dX1_fatesOf_9 : decode cX1_fatesOf 9 = .ok (.ireturn, 1) := by decide +kernel
theorem dX1_heirOf_0 : decode cX1_heirOf 0 = .ok (.aload_n 0, 1) := by decide +kernel
theorem dX1_heirOf_1 : decode cX1_heirOf 1 = .ok (.iload_n 1, 1) := by decide +kernel
theorem dX1_heirOf_2 : decode cX1_heirOf 2 = .ok (.aload_n 0, 1) := by decide +kernel
theorem dX1_heirOf_3 : decode cX1_heirOf 3 = .ok (.getfield 23, 3) := by decide +kernel
theorem dX1_heirOf_6 : decode cX1_heirOf 6 = .ok (.invokevirtual 137, 3) := by decide +kernel
theorem dX1_heirOf_9 : decode cX1_heirOf 9 = .ok (.ireturn, 1) := by decide +kernel
theorem dX1_lastHeirOf_0 : decode cX1_lastHeirOf 0 = .ok (.aload_n 0, 1) := by decide +kernel
theorem dX1_lastHeirOf_1 : decode cX1_lastHeirOf 1 = .ok (.iconst 0, 1) := by decide +kernel
theorem dX1_lastHeirOf_2 : decode cX1_lastHeirOf 2 = .ok (.putfield 38, 3) := by decide +kernel
theorem dX1_lastHeirOf_5 : decode cX1_lastHeirOf 5 = .ok (.aload_n 0, 1) := by decide +kernel
theorem dX1_lastHeirOf_6 : decode cX1_lastHeirOf 6 = .ok (.iload_n 1, 1) := by decide +kernel
theorem dX1_lastHeirOf_7 : decode cX1_lastHeirOf 7 = .ok (.invokevirtual 100, 3) := by decide +kernel
theorem dX1_lastHeirOf_10 : decode cX1_lastHeirOf 10 = .ok (.ifCond .eq 11, 3) := by decide +kernel
theorem dX1_lastHeirOf_13 : decode cX1_lastHeirOf 13 = .ok (.aload_n 0, 1) := by decide +kernel
theorem dX1_lastHeirOf_14 : decode cX1_lastHeirOf 14 = .ok (.iload_n 1, 1) := by decide +kernel
theorem dX1_lastHeirOf_15 : decode cX1_lastHeirOf 15 = .ok (.invokevirtual 119, 3) := by decide +kernel
theorem dX1_lastHeirOf_18 : decode cX1_lastHeirOf 18 = .ok (.goto 8, 3) := by decide +kernel
theorem dX1_lastHeirOf_21 : decode cX1_lastHeirOf 21 = .ok (.aload_n 0, 1) := by decide +kernel
theorem dX1_lastHeirOf_22 : decode cX1_lastHeirOf 22 = .ok (.iconst 1, 1) := by decide +kernel
theorem dX1_lastHeirOf_23 : decode cX1_lastHeirOf 23 = .ok (.invokevirtual 97, 3) := by decide +kernel
theorem dX1_lastHeirOf_26 : decode cX1_lastHeirOf 26 = .ok (.ireturn, 1) := by decide +kernel
theorem dX1_priceFor_0 : decode cX1_priceFor 0 = .ok (.aload_n 0, 1) := by decide +kernel
theorem dX1_priceFor_1 : decode cX1_priceFor 1 = .ok (.iconst 0, 1) := by decide +kernel
theorem dX1_priceFor_2 : decode cX1_priceFor 2 = .ok (.putfield 38, 3) := by decide +kernel
theorem dX1_priceFor_5 : decode cX1_priceFor 5 = .ok (.aload_n 0, 1) := by decide +kernel
theorem dX1_priceFor_6 : decode cX1_priceFor 6 = .ok (.iload_n 1, 1) := by decide +kernel
theorem dX1_priceFor_7 : decode cX1_priceFor 7 = .ok (.invokevirtual 100, 3) := by decide +kernel
theorem dX1_priceFor_10 : decode cX1_priceFor 10 = .ok (.ifCond .eq 11, 3) := by decide +kernel
theorem dX1_priceFor_13 : decode cX1_priceFor 13 = .ok (.aload_n 0, 1) := by decide +kernel
theorem dX1_priceFor_14 : decode cX1_priceFor 14 = .ok (.iload_n 1, 1) := by decide +kernel
theorem dX1_priceFor_15 : decode cX1_priceFor 15 = .ok (.invokevirtual 67, 3) := by decide +kernel
theorem dX1_priceFor_18 : decode cX1_priceFor 18 = .ok (.goto 8, 3) := by decide +kernel
theorem dX1_priceFor_21 : decode cX1_priceFor 21 = .ok (.aload_n 0, 1) := by decide +kernel
theorem dX1_priceFor_22 : decode cX1_priceFor 22 = .ok (.iconst 1, 1) := by decide +kernel
theorem dX1_priceFor_23 : decode cX1_priceFor 23 = .ok (.invokevirtual 97, 3) := by decide +kernel
theorem dX1_priceFor_26 : decode cX1_priceFor 26 = .ok (.ireturn, 1) := by decide +kernel
theorem dX1_many_0 : decode cX1_many 0 = .ok (.iconst 0, 1) := by decide +kernel
theorem dX1_many_1 : decode cX1_many 1 = .ok (.istore_n 2, 1) := by decide +kernel
theorem dX1_many_2 : decode cX1_many 2 = .ok (.iconst 0, 1) := by decide +kernel
theorem dX1_many_3 : decode cX1_many 3 = .ok (.istore_n 3, 1) := by decide +kernel
theorem dX1_many_4 : decode cX1_many 4 = .ok (.iload_n 3, 1) := by decide +kernel
theorem dX1_many_5 : decode cX1_many 5 = .ok (.aload_n 0, 1) := by decide +kernel
theorem dX1_many_6 : decode cX1_many 6 = .ok (.getfield 52, 3) := by decide +kernel
theorem dX1_many_9 : decode cX1_many 9 = .ok (.if_icmp .ge 27, 3) := by decide +kernel
theorem dX1_many_12 : decode cX1_many 12 = .ok (.iload_n 2, 1) := by decide +kernel
theorem dX1_many_13 : decode cX1_many 13 = .ok (.aload_n 0, 1) := by decide +kernel
theorem dX1_many_14 : decode cX1_many 14 = .ok (.getfield 32, 3) := by decide +kernel
theorem dX1_many_17 : decode cX1_many 17 = .ok (.iload_n 3, 1) := by decide +kernel
theorem dX1_many_18 : decode cX1_many 18 = .ok (.iaload, 1) := by decide +kernel
theorem dX1_many_19 : decode cX1_many 19 = .ok (.iload_n 1, 1) := by decide +kernel
theorem dX1_many_20 : decode cX1_many 20 = .ok (.if_icmp .ne 7, 3) := by decide +kernel
theorem dX1_many_23 : decode cX1_many 23 = .ok (.iconst 1, 1) := by decide +kernel
theorem dX1_many_24 : decode cX1_many 24 = .ok (.goto 4, 3) := by decide +kernel
theorem dX1_many_27 : decode cX1_many 27 = .ok (.iconst 0, 1) := by decide +kernel
theorem dX1_many_28 : decode cX1_many 28 = .ok (.iadd, 1) := by decide +kernel
theorem dX1_many_29 : decode cX1_many 29 = .ok (.istore_n 2, 1) := by decide +kernel
theorem dX1_many_30 : decode cX1_many 30 = .ok (.iinc 3 1, 3) := by decide +kernel
theorem dX1_many_33 : decode cX1_many 33 = .ok (.goto (-29), 3) := by decide +kernel
theorem dX1_many_36 : decode cX1_many 36 = .ok (.iload_n 2, 1) := by decide +kernel
theorem dX1_many_37 : decode cX1_many 37 = .ok (.ireturn, 1) := by decide +kernel
theorem dX1_missesOf_0 : decode cX1_missesOf 0 = .ok (.aload_n 0, 1) := by decide +kernel
theorem dX1_missesOf_1 : decode cX1_missesOf 1 = .ok (.iconst 0, 1) := by decide +kernel
theorem dX1_missesOf_2 : decode cX1_missesOf 2 = .ok (.putfield 38, 3) := by decide +kernel
theorem dX1_missesOf_5 : decode cX1_missesOf 5 = .ok (.aload_n 0, 1) := by decide +kernel
theorem dX1_missesOf_6 : decode cX1_missesOf 6 = .ok (.iload_n 1, 1) := by decide +kernel
theorem dX1_missesOf_7 : decode cX1_missesOf 7 = .ok (.invokevirtual 100, 3) := by decide +kernel
theorem dX1_missesOf_10 : decode cX1_missesOf 10 = .ok (.ifCond .eq 11, 3) := by decide +kernel
theorem dX1_missesOf_13 : decode cX1_missesOf 13 = .ok (.aload_n 0, 1) := by decide +kernel
theorem dX1_missesOf_14 : decode cX1_missesOf 14 = .ok (.iload_n 1, 1) := by decide +kernel
theorem dX1_missesOf_15 : decode cX1_missesOf 15 = .ok (.invokevirtual 141, 3) := by decide +kernel
theorem dX1_missesOf_18 : decode cX1_missesOf 18 = .ok (.goto 8, 3) := by decide +kernel
theorem dX1_missesOf_21 : decode cX1_missesOf 21 = .ok (.aload_n 0, 1) := by decide +kernel
theorem dX1_missesOf_22 : decode cX1_missesOf 22 = .ok (.iconst 1, 1) := by decide +kernel
theorem dX1_missesOf_23 : decode cX1_missesOf 23 = .ok (.invokevirtual 97, 3) := by decide +kernel
theorem dX1_missesOf_26 : decode cX1_missesOf 26 = .ok (.ireturn, 1) := by decide +kernel
theorem dX1_closest_0 : decode cX1_closest 0 = .ok (.iconst 0, 1) := by decide +kernel
theorem dX1_closest_1 : decode cX1_closest 1 = .ok (.istore_n 2, 1) := by decide +kernel
theorem dX1_closest_2 : decode cX1_closest 2 = .ok (.iconst 0, 1) := by decide +kernel
theorem dX1_closest_3 : decode cX1_closest 3 = .ok (.istore_n 3, 1) := by decide +kernel
theorem dX1_closest_4 : decode cX1_closest 4 = .ok (.iload_n 3, 1) := by decide +kernel
theorem dX1_closest_5 : decode cX1_closest 5 = .ok (.aload_n 0, 1) := by decide +kernel
theorem dX1_closest_6 : decode cX1_closest 6 = .ok (.getfield 52, 3) := by decide +kernel
theorem dX1_closest_9 : decode cX1_closest 9 = .ok (.if_icmp .ge 49, 3) := by decide +kernel
theorem dX1_closest_12 : decode cX1_closest 12 = .ok (.aload_n 0, 1) := by decide +kernel
theorem dX1_closest_13 : decode cX1_closest 13 = .ok (.getfield 32, 3) := by decide +kernel
theorem dX1_closest_16 : decode cX1_closest 16 = .ok (.iload_n 3, 1) := by decide +kernel
theorem dX1_closest_17 : decode cX1_closest 17 = .ok (.iaload, 1) := by decide +kernel
theorem dX1_closest_18 : decode cX1_closest 18 = .ok (.iload_n 1, 1) := by decide +kernel
theorem dX1_closest_19 : decode cX1_closest 19 = .ok (.if_icmp .ne 33, 3) := by decide +kernel
theorem dX1_closest_22 : decode cX1_closest 22 = .ok (.aload_n 0, 1) := by decide +kernel
theorem dX1_closest_23 : decode cX1_closest 23 = .ok (.getfield 35, 3) := by decide +kernel
theorem dX1_closest_26 : decode cX1_closest 26 = .ok (.iload_n 3, 1) := by decide +kernel
theorem dX1_closest_27 : decode cX1_closest 27 = .ok (.iaload, 1) := by decide +kernel
theorem dX1_closest_28 : decode cX1_closest 28 = .ok (.ifCond .le 24, 3) := by decide +kernel
theorem dX1_closest_31 : decode cX1_closest 31 = .ok (.iload_n 2, 1) := by decide +kernel
theorem dX1_closest_32 : decode cX1_closest 32 = .ok (.ifCond .eq 13, 3) := by decide +kernel
theorem dX1_closest_35 : decode cX1_closest 35 = .ok (.aload_n 0, 1) := by decide +kernel
theorem dX1_closest_36 : decode cX1_closest 36 = .ok (.getfield 35, 3) := by decide +kernel
theorem dX1_closest_39 : decode cX1_closest 39 = .ok (.iload_n 3, 1) := by decide +kernel
theorem dX1_closest_40 : decode cX1_closest 40 = .ok (.iaload, 1) := by decide +kernel
theorem dX1_closest_41 : decode cX1_closest 41 = .ok (.iload_n 2, 1) := by decide +kernel
theorem dX1_closest_42 : decode cX1_closest 42 = .ok (.if_icmp .ge 10, 3) := by decide +kernel
theorem dX1_closest_45 : decode cX1_closest 45 = .ok (.aload_n 0, 1) := by decide +kernel
theorem dX1_closest_46 : decode cX1_closest 46 = .ok (.getfield 35, 3) := by decide +kernel
theorem dX1_closest_49 : decode cX1_closest 49 = .ok (.iload_n 3, 1) := by decide +kernel
theorem dX1_closest_50 : decode cX1_closest 50 = .ok (.iaload, 1) := by decide +kernel
theorem dX1_closest_51 : decode cX1_closest 51 = .ok (.istore_n 2, 1) := by decide +kernel
theorem dX1_closest_52 : decode cX1_closest 52 = .ok (.iinc 3 1, 3) := by decide +kernel
theorem dX1_closest_55 : decode cX1_closest 55 = .ok (.goto (-51), 3) := by decide +kernel
theorem dX1_closest_58 : decode cX1_closest 58 = .ok (.iload_n 2, 1) := by decide +kernel
theorem dX1_closest_59 : decode cX1_closest 59 = .ok (.ireturn, 1) := by decide +kernel
theorem dX1_closestOf_0 : decode cX1_closestOf 0 = .ok (.aload_n 0, 1) := by decide +kernel
theorem dX1_closestOf_1 : decode cX1_closestOf 1 = .ok (.iconst 0, 1) := by decide +kernel
theorem dX1_closestOf_2 : decode cX1_closestOf 2 = .ok (.putfield 38, 3) := by decide +kernel
theorem dX1_closestOf_5 : decode cX1_closestOf 5 = .ok (.aload_n 0, 1) := by decide +kernel
theorem dX1_closestOf_6 : decode cX1_closestOf 6 = .ok (.iload_n 1, 1) := by decide +kernel
theorem dX1_closestOf_7 : decode cX1_closestOf 7 = .ok (.invokevirtual 100, 3) := by decide +kernel
theorem dX1_closestOf_10 : decode cX1_closestOf 10 = .ok (.ifCond .eq 11, 3) := by decide +kernel
theorem dX1_closestOf_13 : decode cX1_closestOf 13 = .ok (.aload_n 0, 1) := by decide +kernel
theorem dX1_closestOf_14 : decode cX1_closestOf 14 = .ok (.iload_n 1, 1) := by decide +kernel
theorem dX1_closestOf_15 : decode cX1_closestOf 15 = .ok (.invokevirtual 144, 3) := by decide +kernel
theorem dX1_closestOf_18 : decode cX1_closestOf 18 = .ok (.goto 8, 3) := by decide +kernel
theorem dX1_closestOf_21 : decode cX1_closestOf 21 = .ok (.aload_n 0, 1) := by decide +kernel
theorem dX1_closestOf_22 : decode cX1_closestOf 22 = .ok (.iconst 1, 1) := by decide +kernel
theorem dX1_closestOf_23 : decode cX1_closestOf 23 = .ok (.invokevirtual 97, 3) := by decide +kernel
theorem dX1_closestOf_26 : decode cX1_closestOf 26 = .ok (.ireturn, 1) := by decide +kernel
theorem dX1_nerveOf_0 : decode cX1_nerveOf 0 = .ok (.aload_n 0, 1) := by decide +kernel
theorem dX1_nerveOf_1 : decode cX1_nerveOf 1 = .ok (.iconst 0, 1) := by decide +kernel
theorem dX1_nerveOf_2 : decode cX1_nerveOf 2 = .ok (.putfield 38, 3) := by decide +kernel
theorem dX1_nerveOf_5 : decode cX1_nerveOf 5 = .ok (.aload_n 0, 1) := by decide +kernel
theorem dX1_nerveOf_6 : decode cX1_nerveOf 6 = .ok (.iload_n 1, 1) := by decide +kernel
theorem dX1_nerveOf_7 : decode cX1_nerveOf 7 = .ok (.invokevirtual 104, 3) := by decide +kernel
theorem dX1_nerveOf_10 : decode cX1_nerveOf 10 = .ok (.ifCond .eq 12, 3) := by decide +kernel
theorem dX1_nerveOf_13 : decode cX1_nerveOf 13 = .ok (.aload_n 0, 1) := by decide +kernel
theorem dX1_nerveOf_14 : decode cX1_nerveOf 14 = .ok (.getfield 26, 3) := by decide +kernel
theorem dX1_nerveOf_17 : decode cX1_nerveOf 17 = .ok (.iload_n 1, 1) := by decide +kernel
theorem dX1_nerveOf_18 : decode cX1_nerveOf 18 = .ok (.iaload, 1) := by decide +kernel
theorem dX1_nerveOf_19 : decode cX1_nerveOf 19 = .ok (.goto 8, 3) := by decide +kernel
theorem dX1_nerveOf_22 : decode cX1_nerveOf 22 = .ok (.aload_n 0, 1) := by decide +kernel
theorem dX1_nerveOf_23 : decode cX1_nerveOf 23 = .ok (.iconst 1, 1) := by decide +kernel
theorem dX1_nerveOf_24 : decode cX1_nerveOf 24 = .ok (.invokevirtual 97, 3) := by decide +kernel
theorem dX1_nerveOf_27 : decode cX1_nerveOf 27 = .ok (.ireturn, 1) := by decide +kernel
theorem dX1_isOnDuty_0 : decode cX1_isOnDuty 0 = .ok (.aload_n 0, 1) := by decide +kernel
theorem dX1_isOnDuty_1 : decode cX1_isOnDuty 1 = .ok (.aload_n 0, 1) := by decide +kernel
theorem dX1_isOnDuty_2 : decode cX1_isOnDuty 2 = .ok (.iload_n 1, 1) := by decide +kernel
theorem dX1_isOnDuty_3 : decode cX1_isOnDuty 3 = .ok (.invokevirtual 104, 3) := by decide +kernel
theorem dX1_isOnDuty_6 : decode cX1_isOnDuty 6 = .ok (.ifCond .eq 7, 3) := by decide +kernel
theorem dX1_isOnDuty_9 : decode cX1_isOnDuty 9 = .ok (.iconst 0, 1) := by decide +kernel
theorem dX1_isOnDuty_10 : decode cX1_isOnDuty 10 = .ok (.goto 4, 3) := by decide +kernel
theorem dX1_isOnDuty_13 : decode cX1_isOnDuty 13 = .ok (.iconst 1, 1) := by decide +kernel
theorem dX1_isOnDuty_14 : decode cX1_isOnDuty 14 = .ok (.putfield 38, 3) := by decide +kernel
theorem dX1_isOnDuty_17 : decode cX1_isOnDuty 17 = .ok (.aload_n 0, 1) := by decide +kernel
theorem dX1_isOnDuty_18 : decode cX1_isOnDuty 18 = .ok (.getfield 38, 3) := by decide +kernel
theorem dX1_isOnDuty_21 : decode cX1_isOnDuty 21 = .ok (.ifCond .ne 16, 3) := by decide +kernel
theorem dX1_isOnDuty_24 : decode cX1_isOnDuty 24 = .ok (.aload_n 0, 1) := by decide +kernel
theorem dX1_isOnDuty_25 : decode cX1_isOnDuty 25 = .ok (.getfield 29, 3) := by decide +kernel
theorem dX1_isOnDuty_28 : decode cX1_isOnDuty 28 = .ok (.iload_n 1, 1) := by decide +kernel
theorem dX1_isOnDuty_29 : decode cX1_isOnDuty 29 = .ok (.baload, 1) := by decide +kernel
theorem dX1_isOnDuty_30 : decode cX1_isOnDuty 30 = .ok (.ifCond .ne 7, 3) := by decide +kernel
theorem dX1_isOnDuty_33 : decode cX1_isOnDuty 33 = .ok (.iconst 1, 1) := by decide +kernel
theorem dX1_isOnDuty_34 : decode cX1_isOnDuty 34 = .ok (.goto 4, 3) := by decide +kernel
theorem dX1_isOnDuty_37 : decode cX1_isOnDuty 37 = .ok (.iconst 0, 1) := by decide +kernel
theorem dX1_isOnDuty_38 : decode cX1_isOnDuty 38 = .ok (.ireturn, 1) := by decide +kernel
theorem dX1_wouldTell_0 : decode cX1_wouldTell 0 = .ok (.aload_n 0, 1) := by decide +kernel
theorem dX1_wouldTell_1 : decode cX1_wouldTell 1 = .ok (.iconst 0, 1) := by decide +kernel
theorem dX1_wouldTell_2 : decode cX1_wouldTell 2 = .ok (.putfield 38, 3) := by decide +kernel
theorem dX1_wouldTell_5 : decode cX1_wouldTell 5 = .ok (.aload_n 0, 1) := by decide +kernel
theorem dX1_wouldTell_6 : decode cX1_wouldTell 6 = .ok (.iload_n 1, 1) := by decide +kernel
theorem dX1_wouldTell_7 : decode cX1_wouldTell 7 = .ok (.invokevirtual 104, 3) := by decide +kernel
theorem dX1_wouldTell_10 : decode cX1_wouldTell 10 = .ok (.ifCond .ne 9, 3) := by decide +kernel
theorem dX1_wouldTell_13 : decode cX1_wouldTell 13 = .ok (.aload_n 0, 1) := by decide +kernel
theorem dX1_wouldTell_14 : decode cX1_wouldTell 14 = .ok (.iconst 1, 1) := by decide +kernel
theorem dX1_wouldTell_15 : decode cX1_wouldTell 15 = .ok (.invokevirtual 97, 3) := by decide +kernel
theorem dX1_wouldTell_18 : decode cX1_wouldTell 18 = .ok (.ireturn, 1) := by decide +kernel
theorem dX1_wouldTell_19 : decode cX1_wouldTell 19 = .ok (.iload_n 2, 1) := by decide +kernel
theorem dX1_wouldTell_20 : decode cX1_wouldTell 20 = .ok (.iconst 1, 1) := by decide +kernel
theorem dX1_wouldTell_21 : decode cX1_wouldTell 21 = .ok (.bipush 60, 2) := by decide +kernel
theorem dX1_wouldTell_23 : decode cX1_wouldTell 23 = .ok (.invokestatic 45, 3) := by decide +kernel
theorem dX1_wouldTell_26 : decode cX1_wouldTell 26 = .ok (.ifCond .eq 12, 3) := by decide +kernel
theorem dX1_wouldTell_29 : decode cX1_wouldTell 29 = .ok (.aload_n 0, 1) := by decide +kernel
theorem dX1_wouldTell_30 : decode cX1_wouldTell 30 = .ok (.iload_n 1, 1) := by decide +kernel
theorem dX1_wouldTell_31 : decode cX1_wouldTell 31 = .ok (.iload_n 2, 1) := by decide +kernel
theorem dX1_wouldTell_32 : decode cX1_wouldTell 32 = .ok (.invokevirtual 61, 3) := by decide +kernel
theorem dX1_wouldTell_35 : decode cX1_wouldTell 35 = .ok (.goto 8, 3) := by decide +kernel
theorem dX1_wouldTell_38 : decode cX1_wouldTell 38 = .ok (.aload_n 0, 1) := by decide +kernel
theorem dX1_wouldTell_39 : decode cX1_wouldTell 39 = .ok (.iconst 2, 1) := by decide +kernel
theorem dX1_wouldTell_40 : decode cX1_wouldTell 40 = .ok (.invokevirtual 97, 3) := by decide +kernel
theorem dX1_wouldTell_43 : decode cX1_wouldTell 43 = .ok (.ireturn, 1) := by decide +kernel
theorem dX1_personOf_0 : decode cX1_personOf 0 = .ok (.aload_n 0, 1) := by decide +kernel
theorem dX1_personOf_1 : decode cX1_personOf 1 = .ok (.iconst 0, 1) := by decide +kernel
theorem dX1_personOf_2 : decode cX1_personOf 2 = .ok (.putfield 38, 3) := by decide +kernel
theorem dX1_personOf_5 : decode cX1_personOf 5 = .ok (.aload_n 0, 1) := by decide +kernel
theorem dX1_personOf_6 : decode cX1_personOf 6 = .ok (.iload_n 1, 1) := by decide +kernel
theorem dX1_personOf_7 : decode cX1_personOf 7 = .ok (.invokevirtual 147, 3) := by decide +kernel
theorem dX1_personOf_10 : decode cX1_personOf 10 = .ok (.ifCond .eq 12, 3) := by decide +kernel
theorem dX1_personOf_13 : decode cX1_personOf 13 = .ok (.aload_n 0, 1) := by decide +kernel
theorem dX1_personOf_14 : decode cX1_personOf 14 = .ok (.getfield 32, 3) := by decide +kernel
theorem dX1_personOf_17 : decode cX1_personOf 17 = .ok (.iload_n 1, 1) := by decide +kernel
theorem dX1_personOf_18 : decode cX1_personOf 18 = .ok (.iaload, 1) := by decide +kernel
theorem dX1_personOf_19 : decode cX1_personOf 19 = .ok (.goto 8, 3) := by decide +kernel
theorem dX1_personOf_22 : decode cX1_personOf 22 = .ok (.aload_n 0, 1) := by decide +kernel
theorem dX1_personOf_23 : decode cX1_personOf 23 = .ok (.iconst 1, 1) := by decide +kernel
theorem dX1_personOf_24 : decode cX1_personOf 24 = .ok (.invokevirtual 97, 3) := by decide +kernel
theorem dX1_personOf_27 : decode cX1_personOf 27 = .ok (.ireturn, 1) := by decide +kernel
theorem dX1_inchesOf_0 : decode cX1_inchesOf 0 = .ok (.aload_n 0, 1) := by decide +kernel
theorem dX1_inchesOf_1 : decode cX1_inchesOf 1 = .ok (.iconst 0, 1) := by decide +kernel
theorem dX1_inchesOf_2 : decode cX1_inchesOf 2 = .ok (.putfield 38, 3) := by decide +kernel
theorem dX1_inchesOf_5 : decode cX1_inchesOf 5 = .ok (.aload_n 0, 1) := by decide +kernel
theorem dX1_inchesOf_6 : decode cX1_inchesOf 6 = .ok (.iload_n 1, 1) := by decide +kernel
theorem dX1_inchesOf_7 : decode cX1_inchesOf 7 = .ok (.invokevirtual 147, 3) := by decide +kernel
theorem dX1_inchesOf_10 : decode cX1_inchesOf 10 = .ok (.ifCond .eq 12, 3) := by decide +kernel
theorem dX1_inchesOf_13 : decode cX1_inchesOf 13 = .ok (.aload_n 0, 1) := by decide +kernel
theorem dX1_inchesOf_14 : decode cX1_inchesOf 14 = .ok (.getfield 35, 3) := by decide +kernel
theorem dX1_inchesOf_17 : decode cX1_inchesOf 17 = .ok (.iload_n 1, 1) := by decide +kernel
theorem dX1_inchesOf_18 : decode cX1_inchesOf 18 = .ok (.iaload, 1) := by decide +kernel
theorem dX1_inchesOf_19 : decode cX1_inchesOf 19 = .ok (.goto 8, 3) := by decide +kernel
theorem dX1_inchesOf_22 : decode cX1_inchesOf 22 = .ok (.aload_n 0, 1) := by decide +kernel
theorem dX1_inchesOf_23 : decode cX1_inchesOf 23 = .ok (.iconst 1, 1) := by decide +kernel
theorem dX1_inchesOf_24 : decode cX1_inchesOf 24 = .ok (.invokevirtual 97, 3) := by decide +kernel
theorem dX1_inchesOf_27 : decode cX1_inchesOf 27 = .ok (.ireturn, 1) := by decide +kernel
theorem dX1_sealOf_0 : decode cX1_sealOf 0 = .ok (.aload_n 0, 1) := by decide +kernel
theorem dX1_sealOf_1 : decode cX1_sealOf 1 = .ok (.iconst 0, 1) := by decide +kernel
theorem dX1_sealOf_2 : decode cX1_sealOf 2 = .ok (.putfield 38, 3) := by decide +kernel
theorem dX1_sealOf_5 : decode cX1_sealOf 5 = .ok (.aload_n 0, 1) := by decide +kernel
theorem dX1_sealOf_6 : decode cX1_sealOf 6 = .ok (.iload_n 1, 1) := by decide +kernel
theorem dX1_sealOf_7 : decode cX1_sealOf 7 = .ok (.invokevirtual 147, 3) := by decide +kernel
theorem dX1_sealOf_10 : decode cX1_sealOf 10 = .ok (.ifCond .eq 11, 3) := by decide +kernel
theorem dX1_sealOf_13 : decode cX1_sealOf 13 = .ok (.aload_n 0, 1) := by decide +kernel
theorem dX1_sealOf_14 : decode cX1_sealOf 14 = .ok (.iload_n 1, 1) := by decide +kernel
theorem dX1_sealOf_15 : decode cX1_sealOf 15 = .ok (.invokevirtual 150, 3) := by decide +kernel
theorem dX1_sealOf_18 : decode cX1_sealOf 18 = .ok (.goto 8, 3) := by decide +kernel
theorem dX1_sealOf_21 : decode cX1_sealOf 21 = .ok (.aload_n 0, 1) := by decide +kernel
theorem dX1_sealOf_22 : decode cX1_sealOf 22 = .ok (.iconst 1, 1) := by decide +kernel
theorem dX1_sealOf_23 : decode cX1_sealOf 23 = .ok (.invokevirtual 97, 3) := by decide +kernel
theorem dX1_sealOf_26 : decode cX1_sealOf 26 = .ok (.ireturn, 1) := by decide +kernel
theorem dX1_wouldCertify_0 : decode cX1_wouldCertify 0 = .ok (.aload_n 0, 1) := by decide +kernel
theorem dX1_wouldCertify_1 : decode cX1_wouldCertify 1 = .ok (.iconst 0, 1) := by decide +kernel
theorem dX1_wouldCertify_2 : decode cX1_wouldCertify 2 = .ok (.putfield 38, 3) := by decide +kernel
theorem dX1_wouldCertify_5 : decode cX1_wouldCertify 5 = .ok (.iload_n 1, 1) := by decide +kernel
theorem dX1_wouldCertify_6 : decode cX1_wouldCertify 6 = .ok (.iconst 1, 1) := by decide +kernel
theorem dX1_wouldCertify_7 : decode cX1_wouldCertify 7 = .ok (.bipush 60, 2) := by decide +kernel
theorem dX1_wouldCertify_9 : decode cX1_wouldCertify 9 = .ok (.invokestatic 45, 3) := by decide +kernel
theorem dX1_wouldCertify_12 : decode cX1_wouldCertify 12 = .ok (.ifCond .eq 11, 3) := by decide +kernel
theorem dX1_wouldCertify_15 : decode cX1_wouldCertify 15 = .ok (.aload_n 0, 1) := by decide +kernel
theorem dX1_wouldCertify_16 : decode cX1_wouldCertify 16 = .ok (.iload_n 1, 1) := by decide +kernel
theorem dX1_wouldCertify_17 : decode cX1_wouldCertify 17 = .ok (.invokevirtual 107, 3) := by decide +kernel
theorem dX1_wouldCertify_20 : decode cX1_wouldCertify 20 = .ok (.goto 8, 3) := by decide +kernel
theorem dX1_wouldCertify_23 : decode cX1_wouldCertify 23 = .ok (.aload_n 0, 1) := by decide +kernel
theorem dX1_wouldCertify_24 : decode cX1_wouldCertify 24 = .ok (.iconst 1, 1) := by decide +kernel
theorem dX1_wouldCertify_25 : decode cX1_wouldCertify 25 = .ok (.invokevirtual 97, 3) := by decide +kernel
theorem dX1_wouldCertify_28 : decode cX1_wouldCertify 28 = .ok (.ireturn, 1) := by decide +kernel
theorem dX1_wouldRefund_0 : decode cX1_wouldRefund 0 = .ok (.aload_n 0, 1) := by decide +kernel
theorem dX1_wouldRefund_1 : decode cX1_wouldRefund 1 = .ok (.iconst 0, 1) := by decide +kernel
theorem dX1_wouldRefund_2 : decode cX1_wouldRefund 2 = .ok (.putfield 38, 3) := by decide +kernel
theorem dX1_wouldRefund_5 : decode cX1_wouldRefund 5 = .ok (.aload_n 0, 1) := by decide +kernel
theorem dX1_wouldRefund_6 : decode cX1_wouldRefund 6 = .ok (.iload_n 1, 1) := by decide +kernel
theorem dX1_wouldRefund_7 : decode cX1_wouldRefund 7 = .ok (.invokevirtual 100, 3) := by decide +kernel
theorem dX1_wouldRefund_10 : decode cX1_wouldRefund 10 = .ok (.ifCond .ne 9, 3) := by decide +kernel
theorem dX1_wouldRefund_13 : decode cX1_wouldRefund 13 = .ok (.aload_n 0, 1) := by decide +kernel
theorem dX1_wouldRefund_14 : decode cX1_wouldRefund 14 = .ok (.iconst 1, 1) := by decide +kernel
theorem dX1_wouldRefund_15 : decode cX1_wouldRefund 15 = .ok (.invokevirtual 97, 3) := by decide +kernel
theorem dX1_wouldRefund_18 : decode cX1_wouldRefund 18 = .ok (.ireturn, 1) := by decide +kernel
theorem dX1_wouldRefund_19 : decode cX1_wouldRefund 19 = .ok (.iload_n 2, 1) := by decide +kernel
theorem dX1_wouldRefund_20 : decode cX1_wouldRefund 20 = .ok (.iconst 1, 1) := by decide +kernel
theorem dX1_wouldRefund_21 : decode cX1_wouldRefund 21 = .ok (.bipush 60, 2) := by decide +kernel
theorem dX1_wouldRefund_23 : decode cX1_wouldRefund 23 = .ok (.invokestatic 45, 3) := by decide +kernel
theorem dX1_wouldRefund_26 : decode cX1_wouldRefund 26 = .ok (.ifCond .ne 9, 3) := by decide +kernel
theorem dX1_wouldRefund_29 : decode cX1_wouldRefund 29 = .ok (.aload_n 0, 1) := by decide +kernel
theorem dX1_wouldRefund_30 : decode cX1_wouldRefund 30 = .ok (.iconst 2, 1) := by decide +kernel
theorem dX1_wouldRefund_31 : decode cX1_wouldRefund 31 = .ok (.invokevirtual 97, 3) := by decide +kernel
theorem dX1_wouldRefund_34 : decode cX1_wouldRefund 34 = .ok (.ireturn, 1) := by decide +kernel
theorem dX1_wouldRefund_35 : decode cX1_wouldRefund 35 = .ok (.aload_n 0, 1) := by decide +kernel
theorem dX1_wouldRefund_36 : decode cX1_wouldRefund 36 = .ok (.getfield 9, 3) := by decide +kernel
theorem dX1_wouldRefund_39 : decode cX1_wouldRefund 39 = .ok (.iload_n 1, 1) := by decide +kernel
theorem dX1_wouldRefund_40 : decode cX1_wouldRefund 40 = .ok (.baload, 1) := by decide +kernel
theorem dX1_wouldRefund_41 : decode cX1_wouldRefund 41 = .ok (.ifCond .eq 7, 3) := by decide +kernel
theorem dX1_wouldRefund_44 : decode cX1_wouldRefund 44 = .ok (.iconst 0, 1) := by decide +kernel
theorem dX1_wouldRefund_45 : decode cX1_wouldRefund 45 = .ok (.goto 13, 3) := by decide +kernel
theorem dX1_wouldRefund_48 : decode cX1_wouldRefund 48 = .ok (.aload_n 0, 1) := by decide +kernel
theorem dX1_wouldRefund_49 : decode cX1_wouldRefund 49 = .ok (.iload_n 1, 1) := by decide +kernel
theorem dX1_wouldRefund_50 : decode cX1_wouldRefund 50 = .ok (.aload_n 0, 1) := by decide +kernel
theorem dX1_wouldRefund_51 : decode cX1_wouldRefund 51 = .ok (.iload_n 2, 1) := by decide +kernel
theorem dX1_wouldRefund_52 : decode cX1_wouldRefund 52 = .ok (.invokevirtual 107, 3) := by decide +kernel
theorem dX1_wouldRefund_55 : decode cX1_wouldRefund 55 = .ok (.invokevirtual 110, 3) := by decide +kernel
theorem dX1_wouldRefund_58 : decode cX1_wouldRefund 58 = .ok (.ireturn, 1) := by decide +kernel
theorem dX1_untilShaken_0 : decode cX1_untilShaken 0 = .ok (.iconst 0, 1) := by decide +kernel
theorem dX1_untilShaken_1 : decode cX1_untilShaken 1 = .ok (.istore_n 2, 1) := by decide +kernel
theorem dX1_untilShaken_2 : decode cX1_untilShaken 2 = .ok (.iconst 0, 1) := by decide +kernel
theorem dX1_untilShaken_3 : decode cX1_untilShaken 3 = .ok (.istore_n 3, 1) := by decide +kernel
theorem dX1_untilShaken_4 : decode cX1_untilShaken 4 = .ok (.iload_n 3, 1) := by decide +kernel
theorem dX1_untilShaken_5 : decode cX1_untilShaken 5 = .ok (.aload_n 0, 1) := by decide +kernel
theorem dX1_untilShaken_6 : decode cX1_untilShaken 6 = .ok (.getfield 49, 3) := by decide +kernel
theorem dX1_untilShaken_9 : decode cX1_untilShaken 9 = .ok (.if_icmp .ge 29, 3) := by decide +kernel
theorem dX1_untilShaken_12 : decode cX1_untilShaken 12 = .ok (.aload_n 0, 1) := by decide +kernel
theorem dX1_untilShaken_13 : decode cX1_untilShaken 13 = .ok (.getfield 29, 3) := by decide +kernel
theorem dX1_untilShaken_16 : decode cX1_untilShaken 16 = .ok (.iload_n 3, 1) := by decide +kernel
theorem dX1_untilShaken_17 : decode cX1_untilShaken 17 = .ok (.baload, 1) := by decide +kernel
theorem dX1_untilShaken_18 : decode cX1_untilShaken 18 = .ok (.ifCond .ne 14, 3) := by decide +kernel
theorem dX1_untilShaken_21 : decode cX1_untilShaken 21 = .ok (.iload_n 2, 1) := by decide +kernel
theorem dX1_untilShaken_22 : decode cX1_untilShaken 22 = .ok (.aload_n 0, 1) := by decide +kernel
theorem dX1_untilShaken_23 : decode cX1_untilShaken 23 = .ok (.getfield 26, 3) := by decide +kernel
theorem dX1_untilShaken_26 : decode cX1_untilShaken 26 = .ok (.iload_n 3, 1) := by decide +kernel
theorem dX1_untilShaken_27 : decode cX1_untilShaken 27 = .ok (.iaload, 1) := by decide +kernel
theorem dX1_untilShaken_28 : decode cX1_untilShaken 28 = .ok (.invokestatic 55, 3) := by decide +kernel
theorem dX1_untilShaken_31 : decode cX1_untilShaken 31 = .ok (.istore_n 2, 1) := by decide +kernel
theorem dX1_untilShaken_32 : decode cX1_untilShaken 32 = .ok (.iinc 3 1, 3) := by decide +kernel
theorem dX1_untilShaken_35 : decode cX1_untilShaken 35 = .ok (.goto (-31), 3) := by decide +kernel
theorem dX1_untilShaken_38 : decode cX1_untilShaken 38 = .ok (.iload_n 2, 1) := by decide +kernel
theorem dX1_untilShaken_39 : decode cX1_untilShaken 39 = .ok (.iconst 2, 1) := by decide +kernel
theorem dX1_untilShaken_40 : decode cX1_untilShaken 40 = .ok (.if_icmp .gt 7, 3) := by decide +kernel
theorem dX1_untilShaken_43 : decode cX1_untilShaken 43 = .ok (.iconst 0, 1) := by decide +kernel
theorem dX1_untilShaken_44 : decode cX1_untilShaken 44 = .ok (.goto 18, 3) := by decide +kernel
theorem dX1_untilShaken_47 : decode cX1_untilShaken 47 = .ok (.iload_n 2, 1) := by decide +kernel
theorem dX1_untilShaken_48 : decode cX1_untilShaken 48 = .ok (.iconst 2, 1) := by decide +kernel
theorem dX1_untilShaken_49 : decode cX1_untilShaken 49 = .ok (.isub, 1) := by decide +kernel
theorem dX1_untilShaken_50 : decode cX1_untilShaken 50 = .ok (.iload_n 1, 1) := by decide +kernel
theorem dX1_untilShaken_51 : decode cX1_untilShaken 51 = .ok (.invokestatic 116, 3) := by decide +kernel
theorem dX1_untilShaken_54 : decode cX1_untilShaken 54 = .ok (.iadd, 1) := by decide +kernel
theorem dX1_untilShaken_55 : decode cX1_untilShaken 55 = .ok (.iconst 1, 1) := by decide +kernel
theorem dX1_untilShaken_56 : decode cX1_untilShaken 56 = .ok (.isub, 1) := by decide +kernel
theorem dX1_untilShaken_57 : decode cX1_untilShaken 57 = .ok (.iload_n 1, 1) := by decide +kernel
theorem dX1_untilShaken_58 : decode cX1_untilShaken 58 = .ok (.invokestatic 116, 3) := by decide +kernel
theorem dX1_untilShaken_61 : decode cX1_untilShaken 61 = .ok (.idiv, 1) := by decide +kernel
theorem dX1_untilShaken_62 : decode cX1_untilShaken 62 = .ok (.ireturn, 1) := by decide +kernel
theorem dX1_missesUntilShaken_0 : decode cX1_missesUntilShaken 0 = .ok (.aload_n 0, 1) := by decide +kernel
theorem dX1_missesUntilShaken_1 : decode cX1_missesUntilShaken 1 = .ok (.iconst 0, 1) := by decide +kernel
theorem dX1_missesUntilShaken_2 : decode cX1_missesUntilShaken 2 = .ok (.putfield 38, 3) := by decide +kernel
theorem dX1_missesUntilShaken_5 : decode cX1_missesUntilShaken 5 = .ok (.iload_n 1, 1) := by decide +kernel
theorem dX1_missesUntilShaken_6 : decode cX1_missesUntilShaken 6 = .ok (.iconst 1, 1) := by decide +kernel
theorem dX1_missesUntilShaken_7 : decode cX1_missesUntilShaken 7 = .ok (.bipush 60, 2) := by decide +kernel
theorem dX1_missesUntilShaken_9 : decode cX1_missesUntilShaken 9 = .ok (.invokestatic 45, 3) := by decide +kernel
theorem dX1_missesUntilShaken_12 : decode cX1_missesUntilShaken 12 = .ok (.ifCond .eq 11, 3) := by decide +kernel
theorem dX1_missesUntilShaken_15 : decode cX1_missesUntilShaken 15 = .ok (.aload_n 0, 1) := by decide +kernel
theorem dX1_missesUntilShaken_16 : decode cX1_missesUntilShaken 16 = .ok (.iload_n 1, 1) := by decide +kernel
theorem dX1_missesUntilShaken_17 : decode cX1_missesUntilShaken 17 = .ok (.invokevirtual 153, 3) := by decide +kernel
theorem dX1_missesUntilShaken_20 : decode cX1_missesUntilShaken 20 = .ok (.goto 8, 3) := by decide +kernel
theorem dX1_missesUntilShaken_23 : decode cX1_missesUntilShaken 23 = .ok (.aload_n 0, 1) := by decide +kernel
theorem dX1_missesUntilShaken_24 : decode cX1_missesUntilShaken 24 = .ok (.iconst 1, 1) := by decide +kernel
theorem dX1_missesUntilShaken_25 : decode cX1_missesUntilShaken 25 = .ok (.invokevirtual 97, 3) := by decide +kernel
theorem dX1_missesUntilShaken_28 : decode cX1_missesUntilShaken 28 = .ok (.ireturn, 1) := by decide +kernel
theorem dX1_untilCalm_0 : decode cX1_untilCalm 0 = .ok (.iconst 0, 1) := by decide +kernel
theorem dX1_untilCalm_1 : decode cX1_untilCalm 1 = .ok (.istore_n 1, 1) := by decide +kernel
theorem dX1_untilCalm_2 : decode cX1_untilCalm 2 = .ok (.iconst 0, 1) := by decide +kernel
theorem dX1_untilCalm_3 : decode cX1_untilCalm 3 = .ok (.istore_n 2, 1) := by decide +kernel
theorem dX1_untilCalm_4 : decode cX1_untilCalm 4 = .ok (.iload_n 2, 1) := by decide +kernel
theorem dX1_untilCalm_5 : decode cX1_untilCalm 5 = .ok (.aload_n 0, 1) := by decide +kernel
theorem dX1_untilCalm_6 : decode cX1_untilCalm 6 = .ok (.getfield 49, 3) := by decide +kernel
theorem dX1_untilCalm_9 : decode cX1_untilCalm 9 = .ok (.if_icmp .ge 45, 3) := by decide +kernel
theorem dX1_untilCalm_12 : decode cX1_untilCalm 12 = .ok (.iconst 0, 1) := by decide +kernel
theorem dX1_untilCalm_13 : decode cX1_untilCalm 13 = .ok (.iconst 3, 1) := by decide +kernel
theorem dX1_untilCalm_14 : decode cX1_untilCalm 14 = .ok (.aload_n 0, 1) := by decide +kernel
theorem dX1_untilCalm_15 : decode cX1_untilCalm 15 = .ok (.getfield 26, 3) := by decide +kernel
theorem dX1_untilCalm_18 : decode cX1_untilCalm 18 = .ok (.iload_n 2, 1) := by decide +kernel
theorem dX1_untilCalm_19 : decode cX1_untilCalm 19 = .ok (.iaload, 1) := by decide +kernel
theorem dX1_untilCalm_20 : decode cX1_untilCalm 20 = .ok (.isub, 1) := by decide +kernel
theorem dX1_untilCalm_21 : decode cX1_untilCalm 21 = .ok (.invokestatic 55, 3) := by decide +kernel
theorem dX1_untilCalm_24 : decode cX1_untilCalm 24 = .ok (.istore_n 3, 1) := by decide +kernel
theorem dX1_untilCalm_25 : decode cX1_untilCalm 25 = .ok (.iload_n 1, 1) := by decide +kernel
theorem dX1_untilCalm_26 : decode cX1_untilCalm 26 = .ok (.aload_n 0, 1) := by decide +kernel
theorem dX1_untilCalm_27 : decode cX1_untilCalm 27 = .ok (.getfield 29, 3) := by decide +kernel
theorem dX1_untilCalm_30 : decode cX1_untilCalm 30 = .ok (.iload_n 2, 1) := by decide +kernel
theorem dX1_untilCalm_31 : decode cX1_untilCalm 31 = .ok (.baload, 1) := by decide +kernel
theorem dX1_untilCalm_32 : decode cX1_untilCalm 32 = .ok (.ifCond .eq 11, 3) := by decide +kernel
theorem dX1_untilCalm_35 : decode cX1_untilCalm 35 = .ok (.iload_n 3, 1) := by decide +kernel
theorem dX1_untilCalm_36 : decode cX1_untilCalm 36 = .ok (.iconst 1, 1) := by decide +kernel
theorem dX1_untilCalm_37 : decode cX1_untilCalm 37 = .ok (.iadd, 1) := by decide +kernel
theorem dX1_untilCalm_38 : decode cX1_untilCalm 38 = .ok (.iconst 2, 1) := by decide +kernel
theorem dX1_untilCalm_39 : decode cX1_untilCalm 39 = .ok (.idiv, 1) := by decide +kernel
theorem dX1_untilCalm_40 : decode cX1_untilCalm 40 = .ok (.goto 4, 3) := by decide +kernel
theorem dX1_untilCalm_43 : decode cX1_untilCalm 43 = .ok (.iload_n 3, 1) := by decide +kernel
theorem dX1_untilCalm_44 : decode cX1_untilCalm 44 = .ok (.invokestatic 55, 3) := by decide +kernel
theorem dX1_untilCalm_47 : decode cX1_untilCalm 47 = .ok (.istore_n 1, 1) := by decide +kernel
theorem dX1_untilCalm_48 : decode cX1_untilCalm 48 = .ok (.iinc 2 1, 3) := by decide +kernel
theorem dX1_untilCalm_51 : decode cX1_untilCalm 51 = .ok (.goto (-47), 3) := by decide +kernel
theorem dX1_untilCalm_54 : decode cX1_untilCalm 54 = .ok (.iload_n 1, 1) := by decide +kernel
theorem dX1_untilCalm_55 : decode cX1_untilCalm 55 = .ok (.ireturn, 1) := by decide +kernel
theorem dX1_nightsUntilCalm_0 : decode cX1_nightsUntilCalm 0 = .ok (.aload_n 0, 1) := by decide +kernel
theorem dX1_nightsUntilCalm_1 : decode cX1_nightsUntilCalm 1 = .ok (.aload_n 0, 1) := by decide +kernel
theorem dX1_nightsUntilCalm_2 : decode cX1_nightsUntilCalm 2 = .ok (.invokevirtual 156, 3) := by decide +kernel
theorem dX1_nightsUntilCalm_5 : decode cX1_nightsUntilCalm 5 = .ok (.invokevirtual 128, 3) := by decide +kernel
theorem dX1_nightsUntilCalm_8 : decode cX1_nightsUntilCalm 8 = .ok (.ireturn, 1) := by decide +kernel
theorem dX1_steady_0 : decode cX1_steady 0 = .ok (.iconst (-1), 1) := by decide +kernel
theorem dX1_steady_1 : decode cX1_steady 1 = .ok (.istore_n 1, 1) := by decide +kernel
theorem dX1_steady_2 : decode cX1_steady 2 = .ok (.iconst 0, 1) := by decide +kernel
theorem dX1_steady_3 : decode cX1_steady 3 = .ok (.istore_n 2, 1) := by decide +kernel
theorem dX1_steady_4 : decode cX1_steady 4 = .ok (.iload_n 2, 1) := by decide +kernel
theorem dX1_steady_5 : decode cX1_steady 5 = .ok (.aload_n 0, 1) := by decide +kernel
theorem dX1_steady_6 : decode cX1_steady 6 = .ok (.getfield 49, 3) := by decide +kernel
theorem dX1_steady_9 : decode cX1_steady 9 = .ok (.if_icmp .ge 40, 3) := by decide +kernel
theorem dX1_steady_12 : decode cX1_steady 12 = .ok (.aload_n 0, 1) := by decide +kernel
theorem dX1_steady_13 : decode cX1_steady 13 = .ok (.getfield 29, 3) := by decide +kernel
theorem dX1_steady_16 : decode cX1_steady 16 = .ok (.iload_n 2, 1) := by decide +kernel
theorem dX1_steady_17 : decode cX1_steady 17 = .ok (.baload, 1) := by decide +kernel
theorem dX1_steady_18 : decode cX1_steady 18 = .ok (.ifCond .ne 25, 3) := by decide +kernel
theorem dX1_steady_21 : decode cX1_steady 21 = .ok (.iload_n 1, 1) := by decide +kernel
theorem dX1_steady_22 : decode cX1_steady 22 = .ok (.iconst (-1), 1) := by decide +kernel
theorem dX1_steady_23 : decode cX1_steady 23 = .ok (.if_icmp .eq 18, 3) := by decide +kernel
theorem dX1_steady_26 : decode cX1_steady 26 = .ok (.aload_n 0, 1) := by decide +kernel
theorem dX1_steady_27 : decode cX1_steady 27 = .ok (.getfield 26, 3) := by decide +kernel
theorem dX1_steady_30 : decode cX1_steady 30 = .ok (.iload_n 2, 1) := by decide +kernel
theorem dX1_steady_31 : decode cX1_steady 31 = .ok (.iaload, 1) := by decide +kernel
theorem dX1_steady_32 : decode cX1_steady 32 = .ok (.aload_n 0, 1) := by decide +kernel
theorem dX1_steady_33 : decode cX1_steady 33 = .ok (.getfield 26, 3) := by decide +kernel
theorem dX1_steady_36 : decode cX1_steady 36 = .ok (.iload_n 1, 1) := by decide +kernel
theorem dX1_steady_37 : decode cX1_steady 37 = .ok (.iaload, 1) := by decide +kernel
theorem dX1_steady_38 : decode cX1_steady 38 = .ok (.if_icmp .le 5, 3) := by decide +kernel
theorem dX1_steady_41 : decode cX1_steady 41 = .ok (.iload_n 2, 1) := by decide +kernel
theorem dX1_steady_42 : decode cX1_steady 42 = .ok (.istore_n 1, 1) := by decide +kernel
theorem dX1_steady_43 : decode cX1_steady 43 = .ok (.iinc 2 1, 3) := by decide +kernel
theorem dX1_steady_46 : decode cX1_steady 46 = .ok (.goto (-42), 3) := by decide +kernel
theorem dX1_steady_49 : decode cX1_steady 49 = .ok (.iload_n 1, 1) := by decide +kernel
theorem dX1_steady_50 : decode cX1_steady 50 = .ok (.ireturn, 1) := by decide +kernel
theorem dX1_steadiest_0 : decode cX1_steadiest 0 = .ok (.aload_n 0, 1) := by decide +kernel
theorem dX1_steadiest_1 : decode cX1_steadiest 1 = .ok (.aload_n 0, 1) := by decide +kernel
theorem dX1_steadiest_2 : decode cX1_steadiest 2 = .ok (.invokevirtual 159, 3) := by decide +kernel
theorem dX1_steadiest_5 : decode cX1_steadiest 5 = .ok (.invokevirtual 128, 3) := by decide +kernel
theorem dX1_steadiest_8 : decode cX1_steadiest 8 = .ok (.ireturn, 1) := by decide +kernel
theorem dX1_lucky_0 : decode cX1_lucky 0 = .ok (.iconst (-1), 1) := by decide +kernel
theorem dX1_lucky_1 : decode cX1_lucky 1 = .ok (.istore_n 1, 1) := by decide +kernel
theorem dX1_lucky_2 : decode cX1_lucky 2 = .ok (.iconst 0, 1) := by decide +kernel
theorem dX1_lucky_3 : decode cX1_lucky 3 = .ok (.istore_n 2, 1) := by decide +kernel
theorem dX1_lucky_4 : decode cX1_lucky 4 = .ok (.iload_n 2, 1) := by decide +kernel
theorem dX1_lucky_5 : decode cX1_lucky 5 = .ok (.aload_n 0, 1) := by decide +kernel
theorem dX1_lucky_6 : decode cX1_lucky 6 = .ok (.getfield 42, 3) := by decide +kernel
theorem dX1_lucky_9 : decode cX1_lucky 9 = .ok (.if_icmp .ge 40, 3) := by decide +kernel
theorem dX1_lucky_12 : decode cX1_lucky 12 = .ok (.aload_n 0, 1) := by decide +kernel
theorem dX1_lucky_13 : decode cX1_lucky 13 = .ok (.getfield 9, 3) := by decide +kernel
theorem dX1_lucky_16 : decode cX1_lucky 16 = .ok (.iload_n 2, 1) := by decide +kernel
theorem dX1_lucky_17 : decode cX1_lucky 17 = .ok (.baload, 1) := by decide +kernel
theorem dX1_lucky_18 : decode cX1_lucky 18 = .ok (.ifCond .ne 25, 3) := by decide +kernel
theorem dX1_lucky_21 : decode cX1_lucky 21 = .ok (.iload_n 1, 1) := by decide +kernel
theorem dX1_lucky_22 : decode cX1_lucky 22 = .ok (.iconst (-1), 1) := by decide +kernel
theorem dX1_lucky_23 : decode cX1_lucky 23 = .ok (.if_icmp .eq 18, 3) := by decide +kernel
theorem dX1_lucky_26 : decode cX1_lucky 26 = .ok (.aload_n 0, 1) := by decide +kernel
theorem dX1_lucky_27 : decode cX1_lucky 27 = .ok (.getfield 13, 3) := by decide +kernel
theorem dX1_lucky_30 : decode cX1_lucky 30 = .ok (.iload_n 2, 1) := by decide +kernel
theorem dX1_lucky_31 : decode cX1_lucky 31 = .ok (.iaload, 1) := by decide +kernel
theorem dX1_lucky_32 : decode cX1_lucky 32 = .ok (.aload_n 0, 1) := by decide +kernel
theorem dX1_lucky_33 : decode cX1_lucky 33 = .ok (.getfield 13, 3) := by decide +kernel
theorem dX1_lucky_36 : decode cX1_lucky 36 = .ok (.iload_n 1, 1) := by decide +kernel
theorem dX1_lucky_37 : decode cX1_lucky 37 = .ok (.iaload, 1) := by decide +kernel
theorem dX1_lucky_38 : decode cX1_lucky 38 = .ok (.if_icmp .le 5, 3) := by decide +kernel
theorem dX1_lucky_41 : decode cX1_lucky 41 = .ok (.iload_n 2, 1) := by decide +kernel
theorem dX1_lucky_42 : decode cX1_lucky 42 = .ok (.istore_n 1, 1) := by decide +kernel
theorem dX1_lucky_43 : decode cX1_lucky 43 = .ok (.iinc 2 1, 3) := by decide +kernel
theorem dX1_lucky_46 : decode cX1_lucky 46 = .ok (.goto (-42), 3) := by decide +kernel
theorem dX1_lucky_49 : decode cX1_lucky 49 = .ok (.iload_n 1, 1) := by decide +kernel
theorem dX1_lucky_50 : decode cX1_lucky 50 = .ok (.ireturn, 1) := by decide +kernel
theorem dX1_luckiest_0 : decode cX1_luckiest 0 = .ok (.aload_n 0, 1) := by decide +kernel
theorem dX1_luckiest_1 : decode cX1_luckiest 1 = .ok (.aload_n 0, 1) := by decide +kernel
theorem dX1_luckiest_2 : decode cX1_luckiest 2 = .ok (.invokevirtual 162, 3) := by decide +kernel
theorem dX1_luckiest_5 : decode cX1_luckiest 5 = .ok (.invokevirtual 128, 3) := by decide +kernel
theorem dX1_luckiest_8 : decode cX1_luckiest 8 = .ok (.ireturn, 1) := by decide +kernel
theorem dX1_meanLuck_0 : decode cX1_meanLuck 0 = .ok (.aload_n 0, 1) := by decide +kernel
theorem dX1_meanLuck_1 : decode cX1_meanLuck 1 = .ok (.iconst 0, 1) := by decide +kernel
theorem dX1_meanLuck_2 : decode cX1_meanLuck 2 = .ok (.putfield 38, 3) := by decide +kernel
theorem dX1_meanLuck_5 : decode cX1_meanLuck 5 = .ok (.iconst 0, 1) := by decide +kernel
theorem dX1_meanLuck_6 : decode cX1_meanLuck 6 = .ok (.istore_n 1, 1) := by decide +kernel
theorem dX1_meanLuck_7 : decode cX1_meanLuck 7 = .ok (.iconst 0, 1) := by decide +kernel
theorem dX1_meanLuck_8 : decode cX1_meanLuck 8 = .ok (.istore_n 2, 1) := by decide +kernel
theorem dX1_meanLuck_9 : decode cX1_meanLuck 9 = .ok (.iload_n 2, 1) := by decide +kernel
theorem dX1_meanLuck_10 : decode cX1_meanLuck 10 = .ok (.aload_n 0, 1) := by decide +kernel
theorem dX1_meanLuck_11 : decode cX1_meanLuck 11 = .ok (.getfield 42, 3) := by decide +kernel
theorem dX1_meanLuck_14 : decode cX1_meanLuck 14 = .ok (.if_icmp .ge 31, 3) := by decide +kernel
theorem dX1_meanLuck_17 : decode cX1_meanLuck 17 = .ok (.iload_n 1, 1) := by decide +kernel
theorem dX1_meanLuck_18 : decode cX1_meanLuck 18 = .ok (.aload_n 0, 1) := by decide +kernel
theorem dX1_meanLuck_19 : decode cX1_meanLuck 19 = .ok (.getfield 9, 3) := by decide +kernel
theorem dX1_meanLuck_22 : decode cX1_meanLuck 22 = .ok (.iload_n 2, 1) := by decide +kernel
theorem dX1_meanLuck_23 : decode cX1_meanLuck 23 = .ok (.baload, 1) := by decide +kernel
theorem dX1_meanLuck_24 : decode cX1_meanLuck 24 = .ok (.ifCond .eq 7, 3) := by decide +kernel
theorem dX1_meanLuck_27 : decode cX1_meanLuck 27 = .ok (.iconst 0, 1) := by decide +kernel
theorem dX1_meanLuck_28 : decode cX1_meanLuck 28 = .ok (.goto 9, 3) := by decide +kernel
theorem dX1_meanLuck_31 : decode cX1_meanLuck 31 = .ok (.aload_n 0, 1) := by decide +kernel
theorem dX1_meanLuck_32 : decode cX1_meanLuck 32 = .ok (.getfield 13, 3) := by decide +kernel
theorem dX1_meanLuck_35 : decode cX1_meanLuck 35 = .ok (.iload_n 2, 1) := by decide +kernel
theorem dX1_meanLuck_36 : decode cX1_meanLuck 36 = .ok (.iaload, 1) := by decide +kernel
theorem dX1_meanLuck_37 : decode cX1_meanLuck 37 = .ok (.iadd, 1) := by decide +kernel
theorem dX1_meanLuck_38 : decode cX1_meanLuck 38 = .ok (.istore_n 1, 1) := by decide +kernel
theorem dX1_meanLuck_39 : decode cX1_meanLuck 39 = .ok (.iinc 2 1, 3) := by decide +kernel
theorem dX1_meanLuck_42 : decode cX1_meanLuck 42 = .ok (.goto (-33), 3) := by decide +kernel
theorem dX1_meanLuck_45 : decode cX1_meanLuck 45 = .ok (.aload_n 0, 1) := by decide +kernel
theorem dX1_meanLuck_46 : decode cX1_meanLuck 46 = .ok (.invokevirtual 131, 3) := by decide +kernel
theorem dX1_meanLuck_49 : decode cX1_meanLuck 49 = .ok (.ifCond .ne 7, 3) := by decide +kernel
theorem dX1_meanLuck_52 : decode cX1_meanLuck 52 = .ok (.dconst 0, 1) := by decide +kernel
theorem dX1_meanLuck_53 : decode cX1_meanLuck 53 = .ok (.goto 11, 3) := by decide +kernel
theorem dX1_meanLuck_56 : decode cX1_meanLuck 56 = .ok (.iload_n 1, 1) := by decide +kernel
theorem dX1_meanLuck_57 : decode cX1_meanLuck 57 = .ok (.i2d, 1) := by decide +kernel
theorem dX1_meanLuck_58 : decode cX1_meanLuck 58 = .ok (.aload_n 0, 1) := by decide +kernel
theorem dX1_meanLuck_59 : decode cX1_meanLuck 59 = .ok (.invokevirtual 131, 3) := by decide +kernel
theorem dX1_meanLuck_62 : decode cX1_meanLuck 62 = .ok (.i2d, 1) := by decide +kernel
theorem dX1_meanLuck_63 : decode cX1_meanLuck 63 = .ok (.ddiv, 1) := by decide +kernel
theorem dX1_meanLuck_64 : decode cX1_meanLuck 64 = .ok (.dreturn, 1) := by decide +kernel
theorem dX1_digest_0 : decode cX1_digest 0 = .ok (.aload_n 0, 1) := by decide +kernel
theorem dX1_digest_1 : decode cX1_digest 1 = .ok (.iconst 0, 1) := by decide +kernel
theorem dX1_digest_2 : decode cX1_digest 2 = .ok (.putfield 38, 3) := by decide +kernel
theorem dX1_digest_5 : decode cX1_digest 5 = .ok (.bipush 14, 2) := by decide +kernel
theorem dX1_digest_7 : decode cX1_digest 7 = .ok (.newarray .int, 2) := by decide +kernel
theorem dX1_digest_9 : decode cX1_digest 9 = .ok (.dup, 1) := by decide +kernel
theorem dX1_digest_10 : decode cX1_digest 10 = .ok (.iconst 0, 1) := by decide +kernel
theorem dX1_digest_11 : decode cX1_digest 11 = .ok (.aload_n 0, 1) := by decide +kernel
theorem dX1_digest_12 : decode cX1_digest 12 = .ok (.getfield 122, 3) := by decide +kernel
theorem dX1_digest_15 : decode cX1_digest 15 = .ok (.iastore, 1) := by decide +kernel
theorem dX1_digest_16 : decode cX1_digest 16 = .ok (.dup, 1) := by decide +kernel
theorem dX1_digest_17 : decode cX1_digest 17 = .ok (.iconst 1, 1) := by decide +kernel
theorem dX1_digest_18 : decode cX1_digest 18 = .ok (.aload_n 0, 1) := by decide +kernel
theorem dX1_digest_19 : decode cX1_digest 19 = .ok (.getfield 42, 3) := by decide +kernel
theorem dX1_digest_22 : decode cX1_digest 22 = .ok (.iastore, 1) := by decide +kernel
theorem dX1_digest_23 : decode cX1_digest 23 = .ok (.dup, 1) := by decide +kernel
theorem dX1_digest_24 : decode cX1_digest 24 = .ok (.iconst 2, 1) := by decide +kernel
theorem dX1_digest_25 : decode cX1_digest 25 = .ok (.aload_n 0, 1) := by decide +kernel
theorem dX1_digest_26 : decode cX1_digest 26 = .ok (.invokevirtual 131, 3) := by decide +kernel
theorem dX1_digest_29 : decode cX1_digest 29 = .ok (.iastore, 1) := by decide +kernel
theorem dX1_digest_30 : decode cX1_digest 30 = .ok (.dup, 1) := by decide +kernel
theorem dX1_digest_31 : decode cX1_digest 31 = .ok (.iconst 3, 1) := by decide +kernel
theorem dX1_digest_32 : decode cX1_digest 32 = .ok (.aload_n 0, 1) := by decide +kernel
theorem dX1_digest_33 : decode cX1_digest 33 = .ok (.getfield 49, 3) := by decide +kernel
theorem dX1_digest_36 : decode cX1_digest 36 = .ok (.iastore, 1) := by decide +kernel
theorem dX1_digest_37 : decode cX1_digest 37 = .ok (.dup, 1) := by decide +kernel
theorem dX1_digest_38 : decode cX1_digest 38 = .ok (.iconst 4, 1) := by decide +kernel
theorem dX1_digest_39 : decode cX1_digest 39 = .ok (.aload_n 0, 1) := by decide +kernel
theorem dX1_digest_40 : decode cX1_digest 40 = .ok (.invokevirtual 125, 3) := by decide +kernel
theorem dX1_digest_43 : decode cX1_digest 43 = .ok (.iastore, 1) := by decide +kernel
theorem dX1_digest_44 : decode cX1_digest 44 = .ok (.dup, 1) := by decide +kernel
theorem dX1_digest_45 : decode cX1_digest 45 = .ok (.iconst 5, 1) := by decide +kernel
theorem dX1_digest_46 : decode cX1_digest 46 = .ok (.aload_n 0, 1) := by decide +kernel
theorem dX1_digest_47 : decode cX1_digest 47 = .ok (.getfield 64, 3) := by decide +kernel
theorem dX1_digest_50 : decode cX1_digest 50 = .ok (.iastore, 1) := by decide +kernel
theorem dX1_digest_51 : decode cX1_digest 51 = .ok (.dup, 1) := by decide +kernel
theorem dX1_digest_52 : decode cX1_digest 52 = .ok (.bipush 6, 2) := by decide +kernel
theorem dX1_digest_54 : decode cX1_digest 54 = .ok (.aload_n 0, 1) := by decide +kernel
theorem dX1_digest_55 : decode cX1_digest 55 = .ok (.getfield 113, 3) := by decide +kernel
theorem dX1_digest_58 : decode cX1_digest 58 = .ok (.iastore, 1) := by decide +kernel
theorem dX1_digest_59 : decode cX1_digest 59 = .ok (.dup, 1) := by decide +kernel
theorem dX1_digest_60 : decode cX1_digest 60 = .ok (.bipush 7, 2) := by decide +kernel
theorem dX1_digest_62 : decode cX1_digest 62 = .ok (.aload_n 0, 1) := by decide +kernel
theorem dX1_digest_63 : decode cX1_digest 63 = .ok (.getfield 52, 3) := by decide +kernel
theorem dX1_digest_66 : decode cX1_digest 66 = .ok (.iastore, 1) := by decide +kernel
theorem dX1_digest_67 : decode cX1_digest 67 = .ok (.dup, 1) := by decide +kernel
theorem dX1_digest_68 : decode cX1_digest 68 = .ok (.bipush 8, 2) := by decide +kernel
theorem dX1_digest_70 : decode cX1_digest 70 = .ok (.aload_n 0, 1) := by decide +kernel
theorem dX1_digest_71 : decode cX1_digest 71 = .ok (.invokevirtual 134, 3) := by decide +kernel
theorem dX1_digest_74 : decode cX1_digest 74 = .ok (.iastore, 1) := by decide +kernel
theorem dX1_digest_75 : decode cX1_digest 75 = .ok (.dup, 1) := by decide +kernel
theorem dX1_digest_76 : decode cX1_digest 76 = .ok (.bipush 9, 2) := by decide +kernel
theorem dX1_digest_78 : decode cX1_digest 78 = .ok (.aload_n 0, 1) := by decide +kernel
theorem dX1_digest_79 : decode cX1_digest 79 = .ok (.bipush 20, 2) := by decide +kernel
theorem dX1_digest_81 : decode cX1_digest 81 = .ok (.invokevirtual 107, 3) := by decide +kernel
theorem dX1_digest_84 : decode cX1_digest 84 = .ok (.iastore, 1) := by decide +kernel
theorem dX1_digest_85 : decode cX1_digest 85 = .ok (.dup, 1) := by decide +kernel
theorem dX1_digest_86 : decode cX1_digest 86 = .ok (.bipush 10, 2) := by decide +kernel
theorem dX1_digest_88 : decode cX1_digest 88 = .ok (.aload_n 0, 1) := by decide +kernel
theorem dX1_digest_89 : decode cX1_digest 89 = .ok (.bipush 10, 2) := by decide +kernel
theorem dX1_digest_91 : decode cX1_digest 91 = .ok (.invokevirtual 153, 3) := by decide +kernel
theorem dX1_digest_94 : decode cX1_digest 94 = .ok (.iastore, 1) := by decide +kernel
theorem dX1_digest_95 : decode cX1_digest 95 = .ok (.dup, 1) := by decide +kernel
theorem dX1_digest_96 : decode cX1_digest 96 = .ok (.bipush 11, 2) := by decide +kernel
theorem dX1_digest_98 : decode cX1_digest 98 = .ok (.aload_n 0, 1) := by decide +kernel
theorem dX1_digest_99 : decode cX1_digest 99 = .ok (.invokevirtual 156, 3) := by decide +kernel
theorem dX1_digest_102 : decode cX1_digest 102 = .ok (.iastore, 1) := by decide +kernel
theorem dX1_digest_103 : decode cX1_digest 103 = .ok (.dup, 1) := by decide +kernel
theorem dX1_digest_104 : decode cX1_digest 104 = .ok (.bipush 12, 2) := by decide +kernel
theorem dX1_digest_106 : decode cX1_digest 106 = .ok (.aload_n 0, 1) := by decide +kernel
theorem dX1_digest_107 : decode cX1_digest 107 = .ok (.invokevirtual 159, 3) := by decide +kernel
theorem dX1_digest_110 : decode cX1_digest 110 = .ok (.iastore, 1) := by decide +kernel
theorem dX1_digest_111 : decode cX1_digest 111 = .ok (.dup, 1) := by decide +kernel
theorem dX1_digest_112 : decode cX1_digest 112 = .ok (.bipush 13, 2) := by decide +kernel
theorem dX1_digest_114 : decode cX1_digest 114 = .ok (.aload_n 0, 1) := by decide +kernel
theorem dX1_digest_115 : decode cX1_digest 115 = .ok (.invokevirtual 162, 3) := by decide +kernel
theorem dX1_digest_118 : decode cX1_digest 118 = .ok (.iastore, 1) := by decide +kernel
theorem dX1_digest_119 : decode cX1_digest 119 = .ok (.astore_n 1, 1) := by decide +kernel
theorem dX1_digest_120 : decode cX1_digest 120 = .ok (.ldc2_w 165, 3) := by decide +kernel
theorem dX1_digest_123 : decode cX1_digest 123 = .ok (.lstore_n 2, 1) := by decide +kernel
theorem dX1_digest_124 : decode cX1_digest 124 = .ok (.aload_n 1, 1) := by decide +kernel
theorem dX1_digest_125 : decode cX1_digest 125 = .ok (.astore 4, 2) := by decide +kernel
theorem dX1_digest_127 : decode cX1_digest 127 = .ok (.aload 4, 2) := by decide +kernel
theorem dX1_digest_129 : decode cX1_digest 129 = .ok (.arraylength, 1) := by decide +kernel
theorem dX1_digest_130 : decode cX1_digest 130 = .ok (.istore 5, 2) := by decide +kernel
theorem dX1_digest_132 : decode cX1_digest 132 = .ok (.iconst 0, 1) := by decide +kernel
theorem dX1_digest_133 : decode cX1_digest 133 = .ok (.istore 6, 2) := by decide +kernel
theorem dX1_digest_135 : decode cX1_digest 135 = .ok (.iload 6, 2) := by decide +kernel
theorem dX1_digest_137 : decode cX1_digest 137 = .ok (.iload 5, 2) := by decide +kernel
theorem dX1_digest_139 : decode cX1_digest 139 = .ok (.if_icmp .ge 26, 3) := by decide +kernel
theorem dX1_digest_142 : decode cX1_digest 142 = .ok (.aload 4, 2) := by decide +kernel
theorem dX1_digest_144 : decode cX1_digest 144 = .ok (.iload 6, 2) := by decide +kernel
theorem dX1_digest_146 : decode cX1_digest 146 = .ok (.iaload, 1) := by decide +kernel
theorem dX1_digest_147 : decode cX1_digest 147 = .ok (.istore 7, 2) := by decide +kernel
theorem dX1_digest_149 : decode cX1_digest 149 = .ok (.lload_n 2, 1) := by decide +kernel
theorem dX1_digest_150 : decode cX1_digest 150 = .ok (.ldc2_w 167, 3) := by decide +kernel
theorem dX1_digest_153 : decode cX1_digest 153 = .ok (.lmul, 1) := by decide +kernel
theorem dX1_digest_154 : decode cX1_digest 154 = .ok (.iload 7, 2) := by decide +kernel
theorem dX1_digest_156 : decode cX1_digest 156 = .ok (.i2l, 1) := by decide +kernel
theorem dX1_digest_157 : decode cX1_digest 157 = .ok (.ladd, 1) := by decide +kernel
theorem dX1_digest_158 : decode cX1_digest 158 = .ok (.lstore_n 2, 1) := by decide +kernel
theorem dX1_digest_159 : decode cX1_digest 159 = .ok (.iinc 6 1, 3) := by decide +kernel
theorem dX1_digest_162 : decode cX1_digest 162 = .ok (.goto (-27), 3) := by decide +kernel
theorem dX1_digest_165 : decode cX1_digest 165 = .ok (.iconst 0, 1) := by decide +kernel
theorem dX1_digest_166 : decode cX1_digest 166 = .ok (.istore 4, 2) := by decide +kernel
theorem dX1_digest_168 : decode cX1_digest 168 = .ok (.iload 4, 2) := by decide +kernel
theorem dX1_digest_170 : decode cX1_digest 170 = .ok (.aload_n 0, 1) := by decide +kernel
theorem dX1_digest_171 : decode cX1_digest 171 = .ok (.getfield 42, 3) := by decide +kernel
theorem dX1_digest_174 : decode cX1_digest 174 = .ok (.if_icmp .ge 144, 3) := by decide +kernel
theorem dX1_digest_177 : decode cX1_digest 177 = .ok (.bipush 8, 2) := by decide +kernel
theorem dX1_digest_179 : decode cX1_digest 179 = .ok (.newarray .int, 2) := by decide +kernel
theorem dX1_digest_181 : decode cX1_digest 181 = .ok (.dup, 1) := by decide +kernel
theorem dX1_digest_182 : decode cX1_digest 182 = .ok (.iconst 0, 1) := by decide +kernel
theorem dX1_digest_183 : decode cX1_digest 183 = .ok (.aload_n 0, 1) := by decide +kernel
theorem dX1_digest_184 : decode cX1_digest 184 = .ok (.getfield 9, 3) := by decide +kernel
theorem dX1_digest_187 : decode cX1_digest 187 = .ok (.iload 4, 2) := by decide +kernel
theorem dX1_digest_189 : decode cX1_digest 189 = .ok (.baload, 1) := by decide +kernel
theorem dX1_digest_190 : decode cX1_digest 190 = .ok (.ifCond .eq 7, 3) := by decide +kernel
theorem dX1_digest_193 : decode cX1_digest 193 = .ok (.iconst 0, 1) := by decide +kernel
theorem dX1_digest_194 : decode cX1_digest 194 = .ok (.goto 4, 3) := by decide +kernel
theorem dX1_digest_197 : decode cX1_digest 197 = .ok (.iconst 1, 1) := by decide +kernel
theorem dX1_digest_198 : decode cX1_digest 198 = .ok (.iastore, 1) := by decide +kernel
theorem dX1_digest_199 : decode cX1_digest 199 = .ok (.dup, 1) := by decide +kernel
theorem dX1_digest_200 : decode cX1_digest 200 = .ok (.iconst 1, 1) := by decide +kernel
theorem dX1_digest_201 : decode cX1_digest 201 = .ok (.aload_n 0, 1) := by decide +kernel
theorem dX1_digest_202 : decode cX1_digest 202 = .ok (.getfield 13, 3) := by decide +kernel
theorem dX1_digest_205 : decode cX1_digest 205 = .ok (.iload 4, 2) := by decide +kernel
theorem dX1_digest_207 : decode cX1_digest 207 = .ok (.iaload, 1) := by decide +kernel
theorem dX1_digest_208 : decode cX1_digest 208 = .ok (.iastore, 1) := by decide +kernel
theorem dX1_digest_209 : decode cX1_digest 209 = .ok (.dup, 1) := by decide +kernel
theorem dX1_digest_210 : decode cX1_digest 210 = .ok (.iconst 2, 1) := by decide +kernel
theorem dX1_digest_211 : decode cX1_digest 211 = .ok (.aload_n 0, 1) := by decide +kernel
theorem dX1_digest_212 : decode cX1_digest 212 = .ok (.getfield 17, 3) := by decide +kernel
theorem dX1_digest_215 : decode cX1_digest 215 = .ok (.iload 4, 2) := by decide +kernel
theorem dX1_digest_217 : decode cX1_digest 217 = .ok (.iaload, 1) := by decide +kernel
theorem dX1_digest_218 : decode cX1_digest 218 = .ok (.iastore, 1) := by decide +kernel
theorem dX1_digest_219 : decode cX1_digest 219 = .ok (.dup, 1) := by decide +kernel
theorem dX1_digest_220 : decode cX1_digest 220 = .ok (.iconst 3, 1) := by decide +kernel
theorem dX1_digest_221 : decode cX1_digest 221 = .ok (.aload_n 0, 1) := by decide +kernel
theorem dX1_digest_222 : decode cX1_digest 222 = .ok (.getfield 20, 3) := by decide +kernel
theorem dX1_digest_225 : decode cX1_digest 225 = .ok (.iload 4, 2) := by decide +kernel
theorem dX1_digest_227 : decode cX1_digest 227 = .ok (.iaload, 1) := by decide +kernel
theorem dX1_digest_228 : decode cX1_digest 228 = .ok (.iastore, 1) := by decide +kernel
theorem dX1_digest_229 : decode cX1_digest 229 = .ok (.dup, 1) := by decide +kernel
theorem dX1_digest_230 : decode cX1_digest 230 = .ok (.iconst 4, 1) := by decide +kernel
theorem dX1_digest_231 : decode cX1_digest 231 = .ok (.aload_n 0, 1) := by decide +kernel
theorem dX1_digest_232 : decode cX1_digest 232 = .ok (.getfield 23, 3) := by decide +kernel
theorem dX1_digest_235 : decode cX1_digest 235 = .ok (.iload 4, 2) := by decide +kernel
theorem dX1_digest_237 : decode cX1_digest 237 = .ok (.iaload, 1) := by decide +kernel
theorem dX1_digest_238 : decode cX1_digest 238 = .ok (.iastore, 1) := by decide +kernel
theorem dX1_digest_239 : decode cX1_digest 239 = .ok (.dup, 1) := by decide +kernel
theorem dX1_digest_240 : decode cX1_digest 240 = .ok (.iconst 5, 1) := by decide +kernel
theorem dX1_digest_241 : decode cX1_digest 241 = .ok (.aload_n 0, 1) := by decide +kernel
theorem dX1_digest_242 : decode cX1_digest 242 = .ok (.iload 4, 2) := by decide +kernel
theorem dX1_digest_244 : decode cX1_digest 244 = .ok (.invokevirtual 119, 3) := by decide +kernel
theorem dX1_digest_247 : decode cX1_digest 247 = .ok (.iastore, 1) := by decide +kernel
theorem dX1_digest_248 : decode cX1_digest 248 = .ok (.dup, 1) := by decide +kernel
theorem dX1_digest_249 : decode cX1_digest 249 = .ok (.bipush 6, 2) := by decide +kernel
theorem dX1_digest_251 : decode cX1_digest 251 = .ok (.aload_n 0, 1) := by decide +kernel
theorem dX1_digest_252 : decode cX1_digest 252 = .ok (.iload 4, 2) := by decide +kernel
theorem dX1_digest_254 : decode cX1_digest 254 = .ok (.invokevirtual 141, 3) := by decide +kernel
theorem dX1_digest_257 : decode cX1_digest 257 = .ok (.iastore, 1) := by decide +kernel
theorem dX1_digest_258 : decode cX1_digest 258 = .ok (.dup, 1) := by decide +kernel
theorem dX1_digest_259 : decode cX1_digest 259 = .ok (.bipush 7, 2) := by decide +kernel
theorem dX1_digest_261 : decode cX1_digest 261 = .ok (.aload_n 0, 1) := by decide +kernel
theorem dX1_digest_262 : decode cX1_digest 262 = .ok (.iload 4, 2) := by decide +kernel
theorem dX1_digest_264 : decode cX1_digest 264 = .ok (.invokevirtual 144, 3) := by decide +kernel
theorem dX1_digest_267 : decode cX1_digest 267 = .ok (.iastore, 1) := by decide +kernel
theorem dX1_digest_268 : decode cX1_digest 268 = .ok (.astore 5, 2) := by decide +kernel
theorem dX1_digest_270 : decode cX1_digest 270 = .ok (.aload 5, 2) := by decide +kernel
theorem dX1_digest_272 : decode cX1_digest 272 = .ok (.astore 6, 2) := by decide +kernel
theorem dX1_digest_274 : decode cX1_digest 274 = .ok (.aload 6, 2) := by decide +kernel
theorem dX1_digest_276 : decode cX1_digest 276 = .ok (.arraylength, 1) := by decide +kernel
theorem dX1_digest_277 : decode cX1_digest 277 = .ok (.istore 7, 2) := by decide +kernel
theorem dX1_digest_279 : decode cX1_digest 279 = .ok (.iconst 0, 1) := by decide +kernel
theorem dX1_digest_280 : decode cX1_digest 280 = .ok (.istore 8, 2) := by decide +kernel
theorem dX1_digest_282 : decode cX1_digest 282 = .ok (.iload 8, 2) := by decide +kernel
theorem dX1_digest_284 : decode cX1_digest 284 = .ok (.iload 7, 2) := by decide +kernel
theorem dX1_digest_286 : decode cX1_digest 286 = .ok (.if_icmp .ge 26, 3) := by decide +kernel
theorem dX1_digest_289 : decode cX1_digest 289 = .ok (.aload 6, 2) := by decide +kernel
theorem dX1_digest_291 : decode cX1_digest 291 = .ok (.iload 8, 2) := by decide +kernel
theorem dX1_digest_293 : decode cX1_digest 293 = .ok (.iaload, 1) := by decide +kernel
theorem dX1_digest_294 : decode cX1_digest 294 = .ok (.istore 9, 2) := by decide +kernel
theorem dX1_digest_296 : decode cX1_digest 296 = .ok (.lload_n 2, 1) := by decide +kernel
theorem dX1_digest_297 : decode cX1_digest 297 = .ok (.ldc2_w 167, 3) := by decide +kernel
theorem dX1_digest_300 : decode cX1_digest 300 = .ok (.lmul, 1) := by decide +kernel
theorem dX1_digest_301 : decode cX1_digest 301 = .ok (.iload 9, 2) := by decide +kernel
theorem dX1_digest_303 : decode cX1_digest 303 = .ok (.i2l, 1) := by decide +kernel
theorem dX1_digest_304 : decode cX1_digest 304 = .ok (.ladd, 1) := by decide +kernel
theorem dX1_digest_305 : decode cX1_digest 305 = .ok (.lstore_n 2, 1) := by decide +kernel
theorem dX1_digest_306 : decode cX1_digest 306 = .ok (.iinc 8 1, 3) := by decide +kernel
theorem dX1_digest_309 : decode cX1_digest 309 = .ok (.goto (-27), 3) := by decide +kernel
theorem dX1_digest_312 : decode cX1_digest 312 = .ok (.iinc 4 1, 3) := by decide +kernel
theorem dX1_digest_315 : decode cX1_digest 315 = .ok (.goto (-147), 3) := by decide +kernel
theorem dX1_digest_318 : decode cX1_digest 318 = .ok (.iconst 0, 1) := by decide +kernel
theorem dX1_digest_319 : decode cX1_digest 319 = .ok (.istore 4, 2) := by decide +kernel
theorem dX1_digest_321 : decode cX1_digest 321 = .ok (.iload 4, 2) := by decide +kernel
theorem dX1_digest_323 : decode cX1_digest 323 = .ok (.aload_n 0, 1) := by decide +kernel
theorem dX1_digest_324 : decode cX1_digest 324 = .ok (.getfield 49, 3) := by decide +kernel
theorem dX1_digest_327 : decode cX1_digest 327 = .ok (.if_icmp .ge 47, 3) := by decide +kernel
theorem dX1_digest_330 : decode cX1_digest 330 = .ok (.lload_n 2, 1) := by decide +kernel
theorem dX1_digest_331 : decode cX1_digest 331 = .ok (.ldc2_w 167, 3) := by decide +kernel
theorem dX1_digest_334 : decode cX1_digest 334 = .ok (.lmul, 1) := by decide +kernel
theorem dX1_digest_335 : decode cX1_digest 335 = .ok (.aload_n 0, 1) := by decide +kernel
theorem dX1_digest_336 : decode cX1_digest 336 = .ok (.getfield 26, 3) := by decide +kernel
theorem dX1_digest_339 : decode cX1_digest 339 = .ok (.iload 4, 2) := by decide +kernel
theorem dX1_digest_341 : decode cX1_digest 341 = .ok (.iaload, 1) := by decide +kernel
theorem dX1_digest_342 : decode cX1_digest 342 = .ok (.i2l, 1) := by decide +kernel
theorem dX1_digest_343 : decode cX1_digest 343 = .ok (.ladd, 1) := by decide +kernel
theorem dX1_digest_344 : decode cX1_digest 344 = .ok (.lstore_n 2, 1) := by decide +kernel
theorem dX1_digest_345 : decode cX1_digest 345 = .ok (.lload_n 2, 1) := by decide +kernel
theorem dX1_digest_346 : decode cX1_digest 346 = .ok (.ldc2_w 167, 3) := by decide +kernel
theorem dX1_digest_349 : decode cX1_digest 349 = .ok (.lmul, 1) := by decide +kernel
theorem dX1_digest_350 : decode cX1_digest 350 = .ok (.aload_n 0, 1) := by decide +kernel
theorem dX1_digest_351 : decode cX1_digest 351 = .ok (.getfield 29, 3) := by decide +kernel
theorem dX1_digest_354 : decode cX1_digest 354 = .ok (.iload 4, 2) := by decide +kernel
theorem dX1_digest_356 : decode cX1_digest 356 = .ok (.baload, 1) := by decide +kernel
theorem dX1_digest_357 : decode cX1_digest 357 = .ok (.ifCond .eq 7, 3) := by decide +kernel
theorem dX1_digest_360 : decode cX1_digest 360 = .ok (.iconst 0, 1) := by decide +kernel
theorem dX1_digest_361 : decode cX1_digest 361 = .ok (.goto 4, 3) := by decide +kernel
theorem dX1_digest_364 : decode cX1_digest 364 = .ok (.iconst 1, 1) := by decide +kernel
theorem dX1_digest_365 : decode cX1_digest 365 = .ok (.i2l, 1) := by decide +kernel
theorem dX1_digest_366 : decode cX1_digest 366 = .ok (.ladd, 1) := by decide +kernel
theorem dX1_digest_367 : decode cX1_digest 367 = .ok (.lstore_n 2, 1) := by decide +kernel
theorem dX1_digest_368 : decode cX1_digest 368 = .ok (.iinc 4 1, 3) := by decide +kernel
theorem dX1_digest_371 : decode cX1_digest 371 = .ok (.goto (-50), 3) := by decide +kernel
theorem dX1_digest_374 : decode cX1_digest 374 = .ok (.lload_n 2, 1) := by decide +kernel
theorem dX1_digest_375 : decode cX1_digest 375 = .ok (.ldc2_w 167, 3) := by decide +kernel
theorem dX1_digest_378 : decode cX1_digest 378 = .ok (.lmul, 1) := by decide +kernel
theorem dX1_digest_379 : decode cX1_digest 379 = .ok (.aload_n 0, 1) := by decide +kernel
theorem dX1_digest_380 : decode cX1_digest 380 = .ok (.getfield 52, 3) := by decide +kernel
theorem dX1_digest_383 : decode cX1_digest 383 = .ok (.ifCond .ne 7, 3) := by decide +kernel
theorem dX1_digest_386 : decode cX1_digest 386 = .ok (.iconst 0, 1) := by decide +kernel
theorem dX1_digest_387 : decode cX1_digest 387 = .ok (.goto 14, 3) := by decide +kernel
theorem dX1_digest_390 : decode cX1_digest 390 = .ok (.aload_n 0, 1) := by decide +kernel
theorem dX1_digest_391 : decode cX1_digest 391 = .ok (.getfield 35, 3) := by decide +kernel
theorem dX1_digest_394 : decode cX1_digest 394 = .ok (.aload_n 0, 1) := by decide +kernel
theorem dX1_digest_395 : decode cX1_digest 395 = .ok (.getfield 52, 3) := by decide +kernel
theorem dX1_digest_398 : decode cX1_digest 398 = .ok (.iconst 1, 1) := by decide +kernel
theorem dX1_digest_399 : decode cX1_digest 399 = .ok (.isub, 1) := by decide +kernel
theorem dX1_digest_400 : decode cX1_digest 400 = .ok (.iaload, 1) := by decide +kernel
theorem dX1_digest_401 : decode cX1_digest 401 = .ok (.i2l, 1) := by decide +kernel
theorem dX1_digest_402 : decode cX1_digest 402 = .ok (.ladd, 1) := by decide +kernel
theorem dX1_digest_403 : decode cX1_digest 403 = .ok (.lstore_n 2, 1) := by decide +kernel
theorem dX1_digest_404 : decode cX1_digest 404 = .ok (.lload_n 2, 1) := by decide +kernel
theorem dX1_digest_405 : decode cX1_digest 405 = .ok (.ldc2_w 167, 3) := by decide +kernel
theorem dX1_digest_408 : decode cX1_digest 408 = .ok (.lmul, 1) := by decide +kernel
theorem dX1_digest_409 : decode cX1_digest 409 = .ok (.aload_n 0, 1) := by decide +kernel
theorem dX1_digest_410 : decode cX1_digest 410 = .ok (.getfield 52, 3) := by decide +kernel
theorem dX1_digest_413 : decode cX1_digest 413 = .ok (.ifCond .ne 7, 3) := by decide +kernel
theorem dX1_digest_416 : decode cX1_digest 416 = .ok (.iconst 0, 1) := by decide +kernel
theorem dX1_digest_417 : decode cX1_digest 417 = .ok (.goto 13, 3) := by decide +kernel
theorem dX1_digest_420 : decode cX1_digest 420 = .ok (.aload_n 0, 1) := by decide +kernel
theorem dX1_digest_421 : decode cX1_digest 421 = .ok (.aload_n 0, 1) := by decide +kernel
theorem dX1_digest_422 : decode cX1_digest 422 = .ok (.getfield 52, 3) := by decide +kernel
theorem dX1_digest_425 : decode cX1_digest 425 = .ok (.iconst 1, 1) := by decide +kernel
theorem dX1_digest_426 : decode cX1_digest 426 = .ok (.isub, 1) := by decide +kernel
theorem dX1_digest_427 : decode cX1_digest 427 = .ok (.invokevirtual 150, 3) := by decide +kernel
theorem dX1_digest_430 : decode cX1_digest 430 = .ok (.i2l, 1) := by decide +kernel
theorem dX1_digest_431 : decode cX1_digest 431 = .ok (.ladd, 1) := by decide +kernel
theorem dX1_digest_432 : decode cX1_digest 432 = .ok (.lstore_n 2, 1) := by decide +kernel
theorem dX1_digest_433 : decode cX1_digest 433 = .ok (.lload_n 2, 1) := by decide +kernel
theorem dX1_digest_434 : decode cX1_digest 434 = .ok (.lreturn, 1) := by decide +kernel
end
section
/-! decode rows: the law's small methods -/
theorem dL_addPerson_0 : decode cL_addPerson 0 = .ok (.aload_n 2, 1) := by decide +kernel
theorem dL_addPerson_1 : decode cL_addPerson 1 = .ok (.iconst 0, 1) := by decide +kernel
theorem dL_addPerson_2 : decode cL_addPerson 2 = .ok (.aload_n 0, 1) := by decide +kernel
theorem dL_addPerson_3 : decode cL_addPerson 3 = .ok (.iload_n 1, 1) := by decide +kernel
theorem dL_addPerson_4 : decode cL_addPerson 4 = .ok (.invokevirtual 7, 3) := by decide +kernel
theorem dL_addPerson_7 : decode cL_addPerson 7 = .ok (.i2l, 1) := by decide +kernel
theorem dL_addPerson_8 : decode cL_addPerson 8 = .ok (.lastore, 1) := by decide +kernel
theorem dL_addPerson_9 : decode cL_addPerson 9 = .ok (.goto 9, 3) := by decide +kernel
theorem dL_addPerson_12 : decode cL_addPerson 12 = .ok (.astore_n 3, 1) := by decide +kernel
theorem dL_addPerson_13 : decode cL_addPerson 13 = .ok (.iconst 1, 1) := by decide +kernel
theorem dL_addPerson_14 : decode cL_addPerson 14 = .ok (.ireturn, 1) := by decide +kernel
theorem dL_addPerson_15 : decode cL_addPerson 15 = .ok (.astore_n 3, 1) := by decide +kernel
theorem dL_addPerson_16 : decode cL_addPerson 16 = .ok (.iconst 2, 1) := by decide +kernel
theorem dL_addPerson_17 : decode cL_addPerson 17 = .ok (.ireturn, 1) := by decide +kernel
theorem dL_addPerson_18 : decode cL_addPerson 18 = .ok (.iconst 0, 1) := by decide +kernel
theorem dL_addPerson_19 : decode cL_addPerson 19 = .ok (.ireturn, 1) := by decide +kernel
theorem dL_addWitness_0 : decode cL_addWitness 0 = .ok (.aload_n 2, 1) := by decide +kernel
theorem dL_addWitness_1 : decode cL_addWitness 1 = .ok (.iconst 0, 1) := by decide +kernel
theorem dL_addWitness_2 : decode cL_addWitness 2 = .ok (.aload_n 0, 1) := by decide +kernel
theorem dL_addWitness_3 : decode cL_addWitness 3 = .ok (.iload_n 1, 1) := by decide +kernel
theorem dL_addWitness_4 : decode cL_addWitness 4 = .ok (.invokevirtual 17, 3) := by decide +kernel
theorem dL_addWitness_7 : decode cL_addWitness 7 = .ok (.i2l, 1) := by decide +kernel
theorem dL_addWitness_8 : decode cL_addWitness 8 = .ok (.lastore, 1) := by decide +kernel
theorem dL_addWitness_9 : decode cL_addWitness 9 = .ok (.goto 9, 3) := by decide +kernel
theorem dL_addWitness_12 : decode cL_addWitness 12 = .ok (.astore_n 3, 1) := by decide +kernel
theorem dL_addWitness_13 : decode cL_addWitness 13 = .ok (.iconst 1, 1) := by decide +kernel
theorem dL_addWitness_14 : decode cL_addWitness 14 = .ok (.ireturn, 1) := by decide +kernel
theorem dL_addWitness_15 : decode cL_addWitness 15 = .ok (.astore_n 3, 1) := by decide +kernel
theorem dL_addWitness_16 : decode cL_addWitness 16 = .ok (.iconst 2, 1) := by decide +kernel
theorem dL_addWitness_17 : decode cL_addWitness 17 = .ok (.ireturn, 1) := by decide +kernel
theorem dL_addWitness_18 : decode cL_addWitness 18 = .ok (.iconst 0, 1) := by decide +kernel
theorem dL_addWitness_19 : decode cL_addWitness 19 = .ok (.ireturn, 1) := by decide +kernel
theorem dL_setHeir_0 : decode cL_setHeir 0 = .ok (.aload_n 3, 1) := by decide +kernel
theorem dL_setHeir_1 : decode cL_setHeir 1 = .ok (.iconst 0, 1) := by decide +kernel
theorem dL_setHeir_2 : decode cL_setHeir 2 = .ok (.aload_n 0, 1) := by decide +kernel
theorem dL_setHeir_3 : decode cL_setHeir 3 = .ok (.iload_n 1, 1) := by decide +kernel
theorem dL_setHeir_4 : decode cL_setHeir 4 = .ok (.iload_n 2, 1) := by decide +kernel
theorem dL_setHeir_5 : decode cL_setHeir 5 = .ok (.invokevirtual 20, 3) := by decide +kernel
theorem dL_setHeir_8 : decode cL_setHeir 8 = .ok (.i2l, 1) := by decide +kernel
theorem dL_setHeir_9 : decode cL_setHeir 9 = .ok (.lastore, 1) := by decide +kernel
theorem dL_setHeir_10 : decode cL_setHeir 10 = .ok (.goto 15, 3) := by decide +kernel
theorem dL_setHeir_13 : decode cL_setHeir 13 = .ok (.astore 4, 2) := by decide +kernel
theorem dL_setHeir_15 : decode cL_setHeir 15 = .ok (.iconst 1, 1) := by decide +kernel
theorem dL_setHeir_16 : decode cL_setHeir 16 = .ok (.ireturn, 1) := by decide +kernel
theorem dL_setHeir_17 : decode cL_setHeir 17 = .ok (.astore 4, 2) := by decide +kernel
theorem dL_setHeir_19 : decode cL_setHeir 19 = .ok (.iconst 2, 1) := by decide +kernel
theorem dL_setHeir_20 : decode cL_setHeir 20 = .ok (.ireturn, 1) := by decide +kernel
theorem dL_setHeir_21 : decode cL_setHeir 21 = .ok (.astore 4, 2) := by decide +kernel
theorem dL_setHeir_23 : decode cL_setHeir 23 = .ok (.iconst 3, 1) := by decide +kernel
theorem dL_setHeir_24 : decode cL_setHeir 24 = .ok (.ireturn, 1) := by decide +kernel
theorem dL_setHeir_25 : decode cL_setHeir 25 = .ok (.iconst 0, 1) := by decide +kernel
theorem dL_setHeir_26 : decode cL_setHeir 26 = .ok (.ireturn, 1) := by decide +kernel
theorem dL_buyFate_0 : decode cL_buyFate 0 = .ok (.aload_n 2, 1) := by decide +kernel
theorem dL_buyFate_1 : decode cL_buyFate 1 = .ok (.iconst 0, 1) := by decide +kernel
theorem dL_buyFate_2 : decode cL_buyFate 2 = .ok (.aload_n 0, 1) := by decide +kernel
theorem dL_buyFate_3 : decode cL_buyFate 3 = .ok (.iload_n 1, 1) := by decide +kernel
theorem dL_buyFate_4 : decode cL_buyFate 4 = .ok (.invokevirtual 26, 3) := by decide +kernel
theorem dL_buyFate_7 : decode cL_buyFate 7 = .ok (.i2l, 1) := by decide +kernel
theorem dL_buyFate_8 : decode cL_buyFate 8 = .ok (.lastore, 1) := by decide +kernel
theorem dL_buyFate_9 : decode cL_buyFate 9 = .ok (.goto 9, 3) := by decide +kernel
theorem dL_buyFate_12 : decode cL_buyFate 12 = .ok (.astore_n 3, 1) := by decide +kernel
theorem dL_buyFate_13 : decode cL_buyFate 13 = .ok (.iconst 1, 1) := by decide +kernel
theorem dL_buyFate_14 : decode cL_buyFate 14 = .ok (.ireturn, 1) := by decide +kernel
theorem dL_buyFate_15 : decode cL_buyFate 15 = .ok (.astore_n 3, 1) := by decide +kernel
theorem dL_buyFate_16 : decode cL_buyFate 16 = .ok (.iconst 2, 1) := by decide +kernel
theorem dL_buyFate_17 : decode cL_buyFate 17 = .ok (.ireturn, 1) := by decide +kernel
theorem dL_buyFate_18 : decode cL_buyFate 18 = .ok (.iconst 0, 1) := by decide +kernel
theorem dL_buyFate_19 : decode cL_buyFate 19 = .ok (.ireturn, 1) := by decide +kernel
theorem dL_turnDuty_0 : decode cL_turnDuty 0 = .ok (.aload_n 2, 1) := by decide +kernel
theorem dL_turnDuty_1 : decode cL_turnDuty 1 = .ok (.iconst 0, 1) := by decide +kernel
theorem dL_turnDuty_2 : decode cL_turnDuty 2 = .ok (.aload_n 0, 1) := by decide +kernel
theorem dL_turnDuty_3 : decode cL_turnDuty 3 = .ok (.iload_n 1, 1) := by decide +kernel
theorem dL_turnDuty_4 : decode cL_turnDuty 4 = .ok (.invokevirtual 29, 3) := by decide +kernel
theorem dL_turnDuty_7 : decode cL_turnDuty 7 = .ok (.ifCond .eq 7, 3) := by decide +kernel
theorem dL_turnDuty_10 : decode cL_turnDuty 10 = .ok (.lconst 1, 1) := by decide +kernel
theorem dL_turnDuty_11 : decode cL_turnDuty 11 = .ok (.goto 4, 3) := by decide +kernel
theorem dL_turnDuty_14 : decode cL_turnDuty 14 = .ok (.lconst 0, 1) := by decide +kernel
theorem dL_turnDuty_15 : decode cL_turnDuty 15 = .ok (.lastore, 1) := by decide +kernel
theorem dL_turnDuty_16 : decode cL_turnDuty 16 = .ok (.goto 6, 3) := by decide +kernel
theorem dL_turnDuty_19 : decode cL_turnDuty 19 = .ok (.astore_n 3, 1) := by decide +kernel
theorem dL_turnDuty_20 : decode cL_turnDuty 20 = .ok (.iconst 1, 1) := by decide +kernel
theorem dL_turnDuty_21 : decode cL_turnDuty 21 = .ok (.ireturn, 1) := by decide +kernel
theorem dL_turnDuty_22 : decode cL_turnDuty 22 = .ok (.iconst 0, 1) := by decide +kernel
theorem dL_turnDuty_23 : decode cL_turnDuty 23 = .ok (.ireturn, 1) := by decide +kernel
theorem dL_miss_0 : decode cL_miss 0 = .ok (.aload_n 3, 1) := by decide +kernel
theorem dL_miss_1 : decode cL_miss 1 = .ok (.iconst 0, 1) := by decide +kernel
theorem dL_miss_2 : decode cL_miss 2 = .ok (.aload_n 0, 1) := by decide +kernel
theorem dL_miss_3 : decode cL_miss 3 = .ok (.iload_n 1, 1) := by decide +kernel
theorem dL_miss_4 : decode cL_miss 4 = .ok (.iload_n 2, 1) := by decide +kernel
theorem dL_miss_5 : decode cL_miss 5 = .ok (.invokevirtual 33, 3) := by decide +kernel
theorem dL_miss_8 : decode cL_miss 8 = .ok (.i2l, 1) := by decide +kernel
theorem dL_miss_9 : decode cL_miss 9 = .ok (.lastore, 1) := by decide +kernel
theorem dL_miss_10 : decode cL_miss 10 = .ok (.goto 15, 3) := by decide +kernel
theorem dL_miss_13 : decode cL_miss 13 = .ok (.astore 4, 2) := by decide +kernel
theorem dL_miss_15 : decode cL_miss 15 = .ok (.iconst 1, 1) := by decide +kernel
theorem dL_miss_16 : decode cL_miss 16 = .ok (.ireturn, 1) := by decide +kernel
theorem dL_miss_17 : decode cL_miss 17 = .ok (.astore 4, 2) := by decide +kernel
theorem dL_miss_19 : decode cL_miss 19 = .ok (.iconst 2, 1) := by decide +kernel
theorem dL_miss_20 : decode cL_miss 20 = .ok (.ireturn, 1) := by decide +kernel
theorem dL_miss_21 : decode cL_miss 21 = .ok (.astore 4, 2) := by decide +kernel
theorem dL_miss_23 : decode cL_miss 23 = .ok (.iconst 3, 1) := by decide +kernel
theorem dL_miss_24 : decode cL_miss 24 = .ok (.ireturn, 1) := by decide +kernel
theorem dL_miss_25 : decode cL_miss 25 = .ok (.iconst 0, 1) := by decide +kernel
theorem dL_miss_26 : decode cL_miss 26 = .ok (.ireturn, 1) := by decide +kernel
theorem dL_hit_0 : decode cL_hit 0 = .ok (.aload_n 2, 1) := by decide +kernel
theorem dL_hit_1 : decode cL_hit 1 = .ok (.iconst 0, 1) := by decide +kernel
theorem dL_hit_2 : decode cL_hit 2 = .ok (.aload_n 0, 1) := by decide +kernel
theorem dL_hit_3 : decode cL_hit 3 = .ok (.iload_n 1, 1) := by decide +kernel
theorem dL_hit_4 : decode cL_hit 4 = .ok (.invokevirtual 36, 3) := by decide +kernel
theorem dL_hit_7 : decode cL_hit 7 = .ok (.i2l, 1) := by decide +kernel
theorem dL_hit_8 : decode cL_hit 8 = .ok (.lastore, 1) := by decide +kernel
theorem dL_hit_9 : decode cL_hit 9 = .ok (.goto 9, 3) := by decide +kernel
theorem dL_hit_12 : decode cL_hit 12 = .ok (.astore_n 3, 1) := by decide +kernel
theorem dL_hit_13 : decode cL_hit 13 = .ok (.iconst 1, 1) := by decide +kernel
theorem dL_hit_14 : decode cL_hit 14 = .ok (.ireturn, 1) := by decide +kernel
theorem dL_hit_15 : decode cL_hit 15 = .ok (.astore_n 3, 1) := by decide +kernel
theorem dL_hit_16 : decode cL_hit 16 = .ok (.iconst 2, 1) := by decide +kernel
theorem dL_hit_17 : decode cL_hit 17 = .ok (.ireturn, 1) := by decide +kernel
theorem dL_hit_18 : decode cL_hit 18 = .ok (.iconst 0, 1) := by decide +kernel
theorem dL_hit_19 : decode cL_hit 19 = .ok (.ireturn, 1) := by decide +kernel
theorem dL_pass_0 : decode cL_pass 0 = .ok (.aload_n 2, 1) := by decide +kernel
theorem dL_pass_1 : decode cL_pass 1 = .ok (.iconst 0, 1) := by decide +kernel
theorem dL_pass_2 : decode cL_pass 2 = .ok (.aload_n 0, 1) := by decide +kernel
theorem dL_pass_3 : decode cL_pass 3 = .ok (.iload_n 1, 1) := by decide +kernel
theorem dL_pass_4 : decode cL_pass 4 = .ok (.invokevirtual 39, 3) := by decide +kernel
theorem dL_pass_7 : decode cL_pass 7 = .ok (.i2l, 1) := by decide +kernel
theorem dL_pass_8 : decode cL_pass 8 = .ok (.lastore, 1) := by decide +kernel
theorem dL_pass_9 : decode cL_pass 9 = .ok (.goto 6, 3) := by decide +kernel
theorem dL_pass_12 : decode cL_pass 12 = .ok (.astore_n 3, 1) := by decide +kernel
theorem dL_pass_13 : decode cL_pass 13 = .ok (.iconst 1, 1) := by decide +kernel
theorem dL_pass_14 : decode cL_pass 14 = .ok (.ireturn, 1) := by decide +kernel
theorem dL_pass_15 : decode cL_pass 15 = .ok (.iconst 0, 1) := by decide +kernel
theorem dL_pass_16 : decode cL_pass 16 = .ok (.ireturn, 1) := by decide +kernel
theorem dL_isAlive_0 : decode cL_isAlive 0 = .ok (.aload_n 2, 1) := by decide +kernel
theorem dL_isAlive_1 : decode cL_isAlive 1 = .ok (.iconst 0, 1) := by decide +kernel
theorem dL_isAlive_2 : decode cL_isAlive 2 = .ok (.aload_n 0, 1) := by decide +kernel
theorem dL_isAlive_3 : decode cL_isAlive 3 = .ok (.iload_n 1, 1) := by decide +kernel
theorem dL_isAlive_4 : decode cL_isAlive 4 = .ok (.invokevirtual 42, 3) := by decide +kernel
theorem dL_isAlive_7 : decode cL_isAlive 7 = .ok (.ifCond .eq 7, 3) := by decide +kernel
theorem dL_isAlive_10 : decode cL_isAlive 10 = .ok (.lconst 1, 1) := by decide +kernel
theorem dL_isAlive_11 : decode cL_isAlive 11 = .ok (.goto 4, 3) := by decide +kernel
theorem dL_isAlive_14 : decode cL_isAlive 14 = .ok (.lconst 0, 1) := by decide +kernel
theorem dL_isAlive_15 : decode cL_isAlive 15 = .ok (.lastore, 1) := by decide +kernel
theorem dL_isAlive_16 : decode cL_isAlive 16 = .ok (.goto 6, 3) := by decide +kernel
theorem dL_isAlive_19 : decode cL_isAlive 19 = .ok (.astore_n 3, 1) := by decide +kernel
theorem dL_isAlive_20 : decode cL_isAlive 20 = .ok (.iconst 1, 1) := by decide +kernel
theorem dL_isAlive_21 : decode cL_isAlive 21 = .ok (.ireturn, 1) := by decide +kernel
theorem dL_isAlive_22 : decode cL_isAlive 22 = .ok (.iconst 0, 1) := by decide +kernel
theorem dL_isAlive_23 : decode cL_isAlive 23 = .ok (.ireturn, 1) := by decide +kernel
theorem dL_luckOf_0 : decode cL_luckOf 0 = .ok (.aload_n 2, 1) := by decide +kernel
theorem dL_luckOf_1 : decode cL_luckOf 1 = .ok (.iconst 0, 1) := by decide +kernel
theorem dL_luckOf_2 : decode cL_luckOf 2 = .ok (.aload_n 0, 1) := by decide +kernel
theorem dL_luckOf_3 : decode cL_luckOf 3 = .ok (.iload_n 1, 1) := by decide +kernel
theorem dL_luckOf_4 : decode cL_luckOf 4 = .ok (.invokevirtual 45, 3) := by decide +kernel
theorem dL_luckOf_7 : decode cL_luckOf 7 = .ok (.i2l, 1) := by decide +kernel
theorem dL_luckOf_8 : decode cL_luckOf 8 = .ok (.lastore, 1) := by decide +kernel
theorem dL_luckOf_9 : decode cL_luckOf 9 = .ok (.goto 6, 3) := by decide +kernel
theorem dL_luckOf_12 : decode cL_luckOf 12 = .ok (.astore_n 3, 1) := by decide +kernel
theorem dL_luckOf_13 : decode cL_luckOf 13 = .ok (.iconst 1, 1) := by decide +kernel
theorem dL_luckOf_14 : decode cL_luckOf 14 = .ok (.ireturn, 1) := by decide +kernel
theorem dL_luckOf_15 : decode cL_luckOf 15 = .ok (.iconst 0, 1) := by decide +kernel
theorem dL_luckOf_16 : decode cL_luckOf 16 = .ok (.ireturn, 1) := by decide +kernel
theorem dL_purseOf_0 : decode cL_purseOf 0 = .ok (.aload_n 2, 1) := by decide +kernel
theorem dL_purseOf_1 : decode cL_purseOf 1 = .ok (.iconst 0, 1) := by decide +kernel
theorem dL_purseOf_2 : decode cL_purseOf 2 = .ok (.aload_n 0, 1) := by decide +kernel
theorem dL_purseOf_3 : decode cL_purseOf 3 = .ok (.iload_n 1, 1) := by decide +kernel
theorem dL_purseOf_4 : decode cL_purseOf 4 = .ok (.invokevirtual 48, 3) := by decide +kernel
theorem dL_purseOf_7 : decode cL_purseOf 7 = .ok (.i2l, 1) := by decide +kernel
theorem dL_purseOf_8 : decode cL_purseOf 8 = .ok (.lastore, 1) := by decide +kernel
theorem dL_purseOf_9 : decode cL_purseOf 9 = .ok (.goto 6, 3) := by decide +kernel
theorem dL_purseOf_12 : decode cL_purseOf 12 = .ok (.astore_n 3, 1) := by decide +kernel
theorem dL_purseOf_13 : decode cL_purseOf 13 = .ok (.iconst 1, 1) := by decide +kernel
theorem dL_purseOf_14 : decode cL_purseOf 14 = .ok (.ireturn, 1) := by decide +kernel
theorem dL_purseOf_15 : decode cL_purseOf 15 = .ok (.iconst 0, 1) := by decide +kernel
theorem dL_purseOf_16 : decode cL_purseOf 16 = .ok (.ireturn, 1) := by decide +kernel
theorem dL_fatesOf_0 : decode cL_fatesOf 0 = .ok (.aload_n 2, 1) := by decide +kernel
theorem dL_fatesOf_1 : decode cL_fatesOf 1 = .ok (.iconst 0, 1) := by decide +kernel
theorem dL_fatesOf_2 : decode cL_fatesOf 2 = .ok (.aload_n 0, 1) := by decide +kernel
theorem dL_fatesOf_3 : decode cL_fatesOf 3 = .ok (.iload_n 1, 1) := by decide +kernel
theorem dL_fatesOf_4 : decode cL_fatesOf 4 = .ok (.invokevirtual 51, 3) := by decide +kernel
theorem dL_fatesOf_7 : decode cL_fatesOf 7 = .ok (.i2l, 1) := by decide +kernel
theorem dL_fatesOf_8 : decode cL_fatesOf 8 = .ok (.lastore, 1) := by decide +kernel
theorem dL_fatesOf_9 : decode cL_fatesOf 9 = .ok (.goto 6, 3) := by decide +kernel
theorem dL_fatesOf_12 : decode cL_fatesOf 12 = .ok (.astore_n 3, 1) := by decide +kernel
theorem dL_fatesOf_13 : decode cL_fatesOf 13 = .ok (.iconst 1, 1) := by decide +kernel
theorem dL_fatesOf_14 : decode cL_fatesOf 14 = .ok (.ireturn, 1) := by decide +kernel
theorem dL_fatesOf_15 : decode cL_fatesOf 15 = .ok (.iconst 0, 1) := by decide +kernel
theorem dL_fatesOf_16 : decode cL_fatesOf 16 = .ok (.ireturn, 1) := by decide +kernel
theorem dL_heirOf_0 : decode cL_heirOf 0 = .ok (.aload_n 2, 1) := by decide +kernel
theorem dL_heirOf_1 : decode cL_heirOf 1 = .ok (.iconst 0, 1) := by decide +kernel
theorem dL_heirOf_2 : decode cL_heirOf 2 = .ok (.aload_n 0, 1) := by decide +kernel
theorem dL_heirOf_3 : decode cL_heirOf 3 = .ok (.iload_n 1, 1) := by decide +kernel
theorem dL_heirOf_4 : decode cL_heirOf 4 = .ok (.invokevirtual 54, 3) := by decide +kernel
theorem dL_heirOf_7 : decode cL_heirOf 7 = .ok (.i2l, 1) := by decide +kernel
theorem dL_heirOf_8 : decode cL_heirOf 8 = .ok (.lastore, 1) := by decide +kernel
theorem dL_heirOf_9 : decode cL_heirOf 9 = .ok (.goto 6, 3) := by decide +kernel
theorem dL_heirOf_12 : decode cL_heirOf 12 = .ok (.astore_n 3, 1) := by decide +kernel
theorem dL_heirOf_13 : decode cL_heirOf 13 = .ok (.iconst 1, 1) := by decide +kernel
theorem dL_heirOf_14 : decode cL_heirOf 14 = .ok (.ireturn, 1) := by decide +kernel
theorem dL_heirOf_15 : decode cL_heirOf 15 = .ok (.iconst 0, 1) := by decide +kernel
theorem dL_heirOf_16 : decode cL_heirOf 16 = .ok (.ireturn, 1) := by decide +kernel
theorem dL_lastHeirOf_0 : decode cL_lastHeirOf 0 = .ok (.aload_n 2, 1) := by decide +kernel
theorem dL_lastHeirOf_1 : decode cL_lastHeirOf 1 = .ok (.iconst 0, 1) := by decide +kernel
theorem dL_lastHeirOf_2 : decode cL_lastHeirOf 2 = .ok (.aload_n 0, 1) := by decide +kernel
theorem dL_lastHeirOf_3 : decode cL_lastHeirOf 3 = .ok (.iload_n 1, 1) := by decide +kernel
theorem dL_lastHeirOf_4 : decode cL_lastHeirOf 4 = .ok (.invokevirtual 57, 3) := by decide +kernel
theorem dL_lastHeirOf_7 : decode cL_lastHeirOf 7 = .ok (.i2l, 1) := by decide +kernel
theorem dL_lastHeirOf_8 : decode cL_lastHeirOf 8 = .ok (.lastore, 1) := by decide +kernel
theorem dL_lastHeirOf_9 : decode cL_lastHeirOf 9 = .ok (.goto 6, 3) := by decide +kernel
theorem dL_lastHeirOf_12 : decode cL_lastHeirOf 12 = .ok (.astore_n 3, 1) := by decide +kernel
theorem dL_lastHeirOf_13 : decode cL_lastHeirOf 13 = .ok (.iconst 1, 1) := by decide +kernel
theorem dL_lastHeirOf_14 : decode cL_lastHeirOf 14 = .ok (.ireturn, 1) := by decide +kernel
theorem dL_lastHeirOf_15 : decode cL_lastHeirOf 15 = .ok (.iconst 0, 1) := by decide +kernel
theorem dL_lastHeirOf_16 : decode cL_lastHeirOf 16 = .ok (.ireturn, 1) := by decide +kernel
theorem dL_priceFor_0 : decode cL_priceFor 0 = .ok (.aload_n 2, 1) := by decide +kernel
theorem dL_priceFor_1 : decode cL_priceFor 1 = .ok (.iconst 0, 1) := by decide +kernel
theorem dL_priceFor_2 : decode cL_priceFor 2 = .ok (.aload_n 0, 1) := by decide +kernel
theorem dL_priceFor_3 : decode cL_priceFor 3 = .ok (.iload_n 1, 1) := by decide +kernel
theorem dL_priceFor_4 : decode cL_priceFor 4 = .ok (.invokevirtual 60, 3) := by decide +kernel
theorem dL_priceFor_7 : decode cL_priceFor 7 = .ok (.i2l, 1) := by decide +kernel
theorem dL_priceFor_8 : decode cL_priceFor 8 = .ok (.lastore, 1) := by decide +kernel
theorem dL_priceFor_9 : decode cL_priceFor 9 = .ok (.goto 6, 3) := by decide +kernel
theorem dL_priceFor_12 : decode cL_priceFor 12 = .ok (.astore_n 3, 1) := by decide +kernel
theorem dL_priceFor_13 : decode cL_priceFor 13 = .ok (.iconst 1, 1) := by decide +kernel
theorem dL_priceFor_14 : decode cL_priceFor 14 = .ok (.ireturn, 1) := by decide +kernel
theorem dL_priceFor_15 : decode cL_priceFor 15 = .ok (.iconst 0, 1) := by decide +kernel
theorem dL_priceFor_16 : decode cL_priceFor 16 = .ok (.ireturn, 1) := by decide +kernel
theorem dL_missesOf_0 : decode cL_missesOf 0 = .ok (.aload_n 2, 1) := by decide +kernel
theorem dL_missesOf_1 : decode cL_missesOf 1 = .ok (.iconst 0, 1) := by decide +kernel
theorem dL_missesOf_2 : decode cL_missesOf 2 = .ok (.aload_n 0, 1) := by decide +kernel
theorem dL_missesOf_3 : decode cL_missesOf 3 = .ok (.iload_n 1, 1) := by decide +kernel
theorem dL_missesOf_4 : decode cL_missesOf 4 = .ok (.invokevirtual 63, 3) := by decide +kernel
theorem dL_missesOf_7 : decode cL_missesOf 7 = .ok (.i2l, 1) := by decide +kernel
theorem dL_missesOf_8 : decode cL_missesOf 8 = .ok (.lastore, 1) := by decide +kernel
theorem dL_missesOf_9 : decode cL_missesOf 9 = .ok (.goto 6, 3) := by decide +kernel
theorem dL_missesOf_12 : decode cL_missesOf 12 = .ok (.astore_n 3, 1) := by decide +kernel
theorem dL_missesOf_13 : decode cL_missesOf 13 = .ok (.iconst 1, 1) := by decide +kernel
theorem dL_missesOf_14 : decode cL_missesOf 14 = .ok (.ireturn, 1) := by decide +kernel
theorem dL_missesOf_15 : decode cL_missesOf 15 = .ok (.iconst 0, 1) := by decide +kernel
theorem dL_missesOf_16 : decode cL_missesOf 16 = .ok (.ireturn, 1) := by decide +kernel
theorem dL_closestOf_0 : decode cL_closestOf 0 = .ok (.aload_n 2, 1) := by decide +kernel
theorem dL_closestOf_1 : decode cL_closestOf 1 = .ok (.iconst 0, 1) := by decide +kernel
theorem dL_closestOf_2 : decode cL_closestOf 2 = .ok (.aload_n 0, 1) := by decide +kernel
theorem dL_closestOf_3 : decode cL_closestOf 3 = .ok (.iload_n 1, 1) := by decide +kernel
theorem dL_closestOf_4 : decode cL_closestOf 4 = .ok (.invokevirtual 66, 3) := by decide +kernel
theorem dL_closestOf_7 : decode cL_closestOf 7 = .ok (.i2l, 1) := by decide +kernel
theorem dL_closestOf_8 : decode cL_closestOf 8 = .ok (.lastore, 1) := by decide +kernel
theorem dL_closestOf_9 : decode cL_closestOf 9 = .ok (.goto 6, 3) := by decide +kernel
theorem dL_closestOf_12 : decode cL_closestOf 12 = .ok (.astore_n 3, 1) := by decide +kernel
theorem dL_closestOf_13 : decode cL_closestOf 13 = .ok (.iconst 1, 1) := by decide +kernel
theorem dL_closestOf_14 : decode cL_closestOf 14 = .ok (.ireturn, 1) := by decide +kernel
theorem dL_closestOf_15 : decode cL_closestOf 15 = .ok (.iconst 0, 1) := by decide +kernel
theorem dL_closestOf_16 : decode cL_closestOf 16 = .ok (.ireturn, 1) := by decide +kernel
theorem dL_nerveOf_0 : decode cL_nerveOf 0 = .ok (.aload_n 2, 1) := by decide +kernel
theorem dL_nerveOf_1 : decode cL_nerveOf 1 = .ok (.iconst 0, 1) := by decide +kernel
theorem dL_nerveOf_2 : decode cL_nerveOf 2 = .ok (.aload_n 0, 1) := by decide +kernel
theorem dL_nerveOf_3 : decode cL_nerveOf 3 = .ok (.iload_n 1, 1) := by decide +kernel
theorem dL_nerveOf_4 : decode cL_nerveOf 4 = .ok (.invokevirtual 69, 3) := by decide +kernel
theorem dL_nerveOf_7 : decode cL_nerveOf 7 = .ok (.i2l, 1) := by decide +kernel
theorem dL_nerveOf_8 : decode cL_nerveOf 8 = .ok (.lastore, 1) := by decide +kernel
theorem dL_nerveOf_9 : decode cL_nerveOf 9 = .ok (.goto 6, 3) := by decide +kernel
theorem dL_nerveOf_12 : decode cL_nerveOf 12 = .ok (.astore_n 3, 1) := by decide +kernel
theorem dL_nerveOf_13 : decode cL_nerveOf 13 = .ok (.iconst 1, 1) := by decide +kernel
theorem dL_nerveOf_14 : decode cL_nerveOf 14 = .ok (.ireturn, 1) := by decide +kernel
theorem dL_nerveOf_15 : decode cL_nerveOf 15 = .ok (.iconst 0, 1) := by decide +kernel
theorem dL_nerveOf_16 : decode cL_nerveOf 16 = .ok (.ireturn, 1) := by decide +kernel
theorem dL_isOnDuty_0 : decode cL_isOnDuty 0 = .ok (.aload_n 2, 1) := by decide +kernel
theorem dL_isOnDuty_1 : decode cL_isOnDuty 1 = .ok (.iconst 0, 1) := by decide +kernel
theorem dL_isOnDuty_2 : decode cL_isOnDuty 2 = .ok (.aload_n 0, 1) := by decide +kernel
theorem dL_isOnDuty_3 : decode cL_isOnDuty 3 = .ok (.iload_n 1, 1) := by decide +kernel
theorem dL_isOnDuty_4 : decode cL_isOnDuty 4 = .ok (.invokevirtual 72, 3) := by decide +kernel
theorem dL_isOnDuty_7 : decode cL_isOnDuty 7 = .ok (.ifCond .eq 7, 3) := by decide +kernel
theorem dL_isOnDuty_10 : decode cL_isOnDuty 10 = .ok (.lconst 1, 1) := by decide +kernel
theorem dL_isOnDuty_11 : decode cL_isOnDuty 11 = .ok (.goto 4, 3) := by decide +kernel
theorem dL_isOnDuty_14 : decode cL_isOnDuty 14 = .ok (.lconst 0, 1) := by decide +kernel
theorem dL_isOnDuty_15 : decode cL_isOnDuty 15 = .ok (.lastore, 1) := by decide +kernel
theorem dL_isOnDuty_16 : decode cL_isOnDuty 16 = .ok (.goto 6, 3) := by decide +kernel
theorem dL_isOnDuty_19 : decode cL_isOnDuty 19 = .ok (.astore_n 3, 1) := by decide +kernel
theorem dL_isOnDuty_20 : decode cL_isOnDuty 20 = .ok (.iconst 1, 1) := by decide +kernel
theorem dL_isOnDuty_21 : decode cL_isOnDuty 21 = .ok (.ireturn, 1) := by decide +kernel
theorem dL_isOnDuty_22 : decode cL_isOnDuty 22 = .ok (.iconst 0, 1) := by decide +kernel
theorem dL_isOnDuty_23 : decode cL_isOnDuty 23 = .ok (.ireturn, 1) := by decide +kernel
theorem dL_wouldTell_0 : decode cL_wouldTell 0 = .ok (.aload_n 3, 1) := by decide +kernel
theorem dL_wouldTell_1 : decode cL_wouldTell 1 = .ok (.iconst 0, 1) := by decide +kernel
theorem dL_wouldTell_2 : decode cL_wouldTell 2 = .ok (.aload_n 0, 1) := by decide +kernel
theorem dL_wouldTell_3 : decode cL_wouldTell 3 = .ok (.iload_n 1, 1) := by decide +kernel
theorem dL_wouldTell_4 : decode cL_wouldTell 4 = .ok (.iload_n 2, 1) := by decide +kernel
theorem dL_wouldTell_5 : decode cL_wouldTell 5 = .ok (.invokevirtual 75, 3) := by decide +kernel
theorem dL_wouldTell_8 : decode cL_wouldTell 8 = .ok (.i2l, 1) := by decide +kernel
theorem dL_wouldTell_9 : decode cL_wouldTell 9 = .ok (.lastore, 1) := by decide +kernel
theorem dL_wouldTell_10 : decode cL_wouldTell 10 = .ok (.goto 11, 3) := by decide +kernel
theorem dL_wouldTell_13 : decode cL_wouldTell 13 = .ok (.astore 4, 2) := by decide +kernel
theorem dL_wouldTell_15 : decode cL_wouldTell 15 = .ok (.iconst 1, 1) := by decide +kernel
theorem dL_wouldTell_16 : decode cL_wouldTell 16 = .ok (.ireturn, 1) := by decide +kernel
theorem dL_wouldTell_17 : decode cL_wouldTell 17 = .ok (.astore 4, 2) := by decide +kernel
theorem dL_wouldTell_19 : decode cL_wouldTell 19 = .ok (.iconst 2, 1) := by decide +kernel
theorem dL_wouldTell_20 : decode cL_wouldTell 20 = .ok (.ireturn, 1) := by decide +kernel
theorem dL_wouldTell_21 : decode cL_wouldTell 21 = .ok (.iconst 0, 1) := by decide +kernel
theorem dL_wouldTell_22 : decode cL_wouldTell 22 = .ok (.ireturn, 1) := by decide +kernel
theorem dL_personOf_0 : decode cL_personOf 0 = .ok (.aload_n 2, 1) := by decide +kernel
theorem dL_personOf_1 : decode cL_personOf 1 = .ok (.iconst 0, 1) := by decide +kernel
theorem dL_personOf_2 : decode cL_personOf 2 = .ok (.aload_n 0, 1) := by decide +kernel
theorem dL_personOf_3 : decode cL_personOf 3 = .ok (.iload_n 1, 1) := by decide +kernel
theorem dL_personOf_4 : decode cL_personOf 4 = .ok (.invokevirtual 78, 3) := by decide +kernel
theorem dL_personOf_7 : decode cL_personOf 7 = .ok (.i2l, 1) := by decide +kernel
theorem dL_personOf_8 : decode cL_personOf 8 = .ok (.lastore, 1) := by decide +kernel
theorem dL_personOf_9 : decode cL_personOf 9 = .ok (.goto 6, 3) := by decide +kernel
theorem dL_personOf_12 : decode cL_personOf 12 = .ok (.astore_n 3, 1) := by decide +kernel
theorem dL_personOf_13 : decode cL_personOf 13 = .ok (.iconst 1, 1) := by decide +kernel
theorem dL_personOf_14 : decode cL_personOf 14 = .ok (.ireturn, 1) := by decide +kernel
theorem dL_personOf_15 : decode cL_personOf 15 = .ok (.iconst 0, 1) := by decide +kernel
theorem dL_personOf_16 : decode cL_personOf 16 = .ok (.ireturn, 1) := by decide +kernel
theorem dL_inchesOf_0 : decode cL_inchesOf 0 = .ok (.aload_n 2, 1) := by decide +kernel
theorem dL_inchesOf_1 : decode cL_inchesOf 1 = .ok (.iconst 0, 1) := by decide +kernel
theorem dL_inchesOf_2 : decode cL_inchesOf 2 = .ok (.aload_n 0, 1) := by decide +kernel
theorem dL_inchesOf_3 : decode cL_inchesOf 3 = .ok (.iload_n 1, 1) := by decide +kernel
theorem dL_inchesOf_4 : decode cL_inchesOf 4 = .ok (.invokevirtual 81, 3) := by decide +kernel
theorem dL_inchesOf_7 : decode cL_inchesOf 7 = .ok (.i2l, 1) := by decide +kernel
theorem dL_inchesOf_8 : decode cL_inchesOf 8 = .ok (.lastore, 1) := by decide +kernel
theorem dL_inchesOf_9 : decode cL_inchesOf 9 = .ok (.goto 6, 3) := by decide +kernel
theorem dL_inchesOf_12 : decode cL_inchesOf 12 = .ok (.astore_n 3, 1) := by decide +kernel
theorem dL_inchesOf_13 : decode cL_inchesOf 13 = .ok (.iconst 1, 1) := by decide +kernel
theorem dL_inchesOf_14 : decode cL_inchesOf 14 = .ok (.ireturn, 1) := by decide +kernel
theorem dL_inchesOf_15 : decode cL_inchesOf 15 = .ok (.iconst 0, 1) := by decide +kernel
theorem dL_inchesOf_16 : decode cL_inchesOf 16 = .ok (.ireturn, 1) := by decide +kernel
theorem dL_sealOf_0 : decode cL_sealOf 0 = .ok (.aload_n 2, 1) := by decide +kernel
theorem dL_sealOf_1 : decode cL_sealOf 1 = .ok (.iconst 0, 1) := by decide +kernel
theorem dL_sealOf_2 : decode cL_sealOf 2 = .ok (.aload_n 0, 1) := by decide +kernel
theorem dL_sealOf_3 : decode cL_sealOf 3 = .ok (.iload_n 1, 1) := by decide +kernel
theorem dL_sealOf_4 : decode cL_sealOf 4 = .ok (.invokevirtual 84, 3) := by decide +kernel
theorem dL_sealOf_7 : decode cL_sealOf 7 = .ok (.i2l, 1) := by decide +kernel
theorem dL_sealOf_8 : decode cL_sealOf 8 = .ok (.lastore, 1) := by decide +kernel
theorem dL_sealOf_9 : decode cL_sealOf 9 = .ok (.goto 6, 3) := by decide +kernel
theorem dL_sealOf_12 : decode cL_sealOf 12 = .ok (.astore_n 3, 1) := by decide +kernel
theorem dL_sealOf_13 : decode cL_sealOf 13 = .ok (.iconst 1, 1) := by decide +kernel
theorem dL_sealOf_14 : decode cL_sealOf 14 = .ok (.ireturn, 1) := by decide +kernel
theorem dL_sealOf_15 : decode cL_sealOf 15 = .ok (.iconst 0, 1) := by decide +kernel
theorem dL_sealOf_16 : decode cL_sealOf 16 = .ok (.ireturn, 1) := by decide +kernel
theorem dL_wouldCertify_0 : decode cL_wouldCertify 0 = .ok (.aload_n 2, 1) := by decide +kernel
theorem dL_wouldCertify_1 : decode cL_wouldCertify 1 = .ok (.iconst 0, 1) := by decide +kernel
theorem dL_wouldCertify_2 : decode cL_wouldCertify 2 = .ok (.aload_n 0, 1) := by decide +kernel
theorem dL_wouldCertify_3 : decode cL_wouldCertify 3 = .ok (.iload_n 1, 1) := by decide +kernel
theorem dL_wouldCertify_4 : decode cL_wouldCertify 4 = .ok (.invokevirtual 87, 3) := by decide +kernel
theorem dL_wouldCertify_7 : decode cL_wouldCertify 7 = .ok (.i2l, 1) := by decide +kernel
theorem dL_wouldCertify_8 : decode cL_wouldCertify 8 = .ok (.lastore, 1) := by decide +kernel
theorem dL_wouldCertify_9 : decode cL_wouldCertify 9 = .ok (.goto 6, 3) := by decide +kernel
theorem dL_wouldCertify_12 : decode cL_wouldCertify 12 = .ok (.astore_n 3, 1) := by decide +kernel
theorem dL_wouldCertify_13 : decode cL_wouldCertify 13 = .ok (.iconst 1, 1) := by decide +kernel
theorem dL_wouldCertify_14 : decode cL_wouldCertify 14 = .ok (.ireturn, 1) := by decide +kernel
theorem dL_wouldCertify_15 : decode cL_wouldCertify 15 = .ok (.iconst 0, 1) := by decide +kernel
theorem dL_wouldCertify_16 : decode cL_wouldCertify 16 = .ok (.ireturn, 1) := by decide +kernel
theorem dL_wouldRefund_0 : decode cL_wouldRefund 0 = .ok (.aload_n 3, 1) := by decide +kernel
theorem dL_wouldRefund_1 : decode cL_wouldRefund 1 = .ok (.iconst 0, 1) := by decide +kernel
theorem dL_wouldRefund_2 : decode cL_wouldRefund 2 = .ok (.aload_n 0, 1) := by decide +kernel
theorem dL_wouldRefund_3 : decode cL_wouldRefund 3 = .ok (.iload_n 1, 1) := by decide +kernel
theorem dL_wouldRefund_4 : decode cL_wouldRefund 4 = .ok (.iload_n 2, 1) := by decide +kernel
theorem dL_wouldRefund_5 : decode cL_wouldRefund 5 = .ok (.invokevirtual 90, 3) := by decide +kernel
theorem dL_wouldRefund_8 : decode cL_wouldRefund 8 = .ok (.i2l, 1) := by decide +kernel
theorem dL_wouldRefund_9 : decode cL_wouldRefund 9 = .ok (.lastore, 1) := by decide +kernel
theorem dL_wouldRefund_10 : decode cL_wouldRefund 10 = .ok (.goto 11, 3) := by decide +kernel
theorem dL_wouldRefund_13 : decode cL_wouldRefund 13 = .ok (.astore 4, 2) := by decide +kernel
theorem dL_wouldRefund_15 : decode cL_wouldRefund 15 = .ok (.iconst 1, 1) := by decide +kernel
theorem dL_wouldRefund_16 : decode cL_wouldRefund 16 = .ok (.ireturn, 1) := by decide +kernel
theorem dL_wouldRefund_17 : decode cL_wouldRefund 17 = .ok (.astore 4, 2) := by decide +kernel
theorem dL_wouldRefund_19 : decode cL_wouldRefund 19 = .ok (.iconst 2, 1) := by decide +kernel
theorem dL_wouldRefund_20 : decode cL_wouldRefund 20 = .ok (.ireturn, 1) := by decide +kernel
theorem dL_wouldRefund_21 : decode cL_wouldRefund 21 = .ok (.iconst 0, 1) := by decide +kernel
theorem dL_wouldRefund_22 : decode cL_wouldRefund 22 = .ok (.ireturn, 1) := by decide +kernel
theorem dL_missesUntilShaken_0 : decode cL_missesUntilShaken 0 = .ok (.aload_n 2, 1) := by decide +kernel
theorem dL_missesUntilShaken_1 : decode cL_missesUntilShaken 1 = .ok (.iconst 0, 1) := by decide +kernel
theorem dL_missesUntilShaken_2 : decode cL_missesUntilShaken 2 = .ok (.aload_n 0, 1) := by decide +kernel
theorem dL_missesUntilShaken_3 : decode cL_missesUntilShaken 3 = .ok (.iload_n 1, 1) := by decide +kernel
theorem dL_missesUntilShaken_4 : decode cL_missesUntilShaken 4 = .ok (.invokevirtual 93, 3) := by decide +kernel
theorem dL_missesUntilShaken_7 : decode cL_missesUntilShaken 7 = .ok (.i2l, 1) := by decide +kernel
theorem dL_missesUntilShaken_8 : decode cL_missesUntilShaken 8 = .ok (.lastore, 1) := by decide +kernel
theorem dL_missesUntilShaken_9 : decode cL_missesUntilShaken 9 = .ok (.goto 6, 3) := by decide +kernel
theorem dL_missesUntilShaken_12 : decode cL_missesUntilShaken 12 = .ok (.astore_n 3, 1) := by decide +kernel
theorem dL_missesUntilShaken_13 : decode cL_missesUntilShaken 13 = .ok (.iconst 1, 1) := by decide +kernel
theorem dL_missesUntilShaken_14 : decode cL_missesUntilShaken 14 = .ok (.ireturn, 1) := by decide +kernel
theorem dL_missesUntilShaken_15 : decode cL_missesUntilShaken 15 = .ok (.iconst 0, 1) := by decide +kernel
theorem dL_missesUntilShaken_16 : decode cL_missesUntilShaken 16 = .ok (.ireturn, 1) := by decide +kernel
end
section
/-! decode rows: the law -/
theorem dL_law_0 : decode cL_law 0 = .ok (.new 8, 3) := by decide +kernel
theorem dL_law_3 : decode cL_law 3 = .ok (.dup, 1) := by decide +kernel
theorem dL_law_4 : decode cL_law 4 = .ok (.invokespecial 96, 3) := by decide +kernel
theorem dL_law_7 : decode cL_law 7 = .ok (.astore_n 1, 1) := by decide +kernel
theorem dL_law_8 : decode cL_law 8 = .ok (.new 97, 3) := by decide +kernel
theorem dL_law_11 : decode cL_law 11 = .ok (.dup, 1) := by decide +kernel
theorem dL_law_12 : decode cL_law 12 = .ok (.invokespecial 99, 3) := by decide +kernel
theorem dL_law_15 : decode cL_law 15 = .ok (.astore_n 2, 1) := by decide +kernel
theorem dL_law_16 : decode cL_law 16 = .ok (.iconst 1, 1) := by decide +kernel
theorem dL_law_17 : decode cL_law 17 = .ok (.newarray .long, 2) := by decide +kernel
theorem dL_law_19 : decode cL_law 19 = .ok (.astore_n 3, 1) := by decide +kernel
theorem dL_law_20 : decode cL_law 20 = .ok (.iconst 0, 1) := by decide +kernel
theorem dL_law_21 : decode cL_law 21 = .ok (.istore 4, 2) := by decide +kernel
theorem dL_law_23 : decode cL_law 23 = .ok (.iload 4, 2) := by decide +kernel
theorem dL_law_25 : decode cL_law 25 = .ok (.aload_n 0, 1) := by decide +kernel
theorem dL_law_26 : decode cL_law 26 = .ok (.arraylength, 1) := by decide +kernel
theorem dL_law_27 : decode cL_law 27 = .ok (.iconst 3, 1) := by decide +kernel
theorem dL_law_28 : decode cL_law 28 = .ok (.isub, 1) := by decide +kernel
theorem dL_law_29 : decode cL_law 29 = .ok (.if_icmp .gt 1925, 3) := by decide +kernel
theorem dL_law_32 : decode cL_law 32 = .ok (.aload_n 0, 1) := by decide +kernel
theorem dL_law_33 : decode cL_law 33 = .ok (.iload 4, 2) := by decide +kernel
theorem dL_law_35 : decode cL_law 35 = .ok (.iaload, 1) := by decide +kernel
theorem dL_law_36 : decode cL_law 36 = .ok (.bipush 63, 2) := by decide +kernel
theorem dL_law_38 : decode cL_law 38 = .ok (.iand, 1) := by decide +kernel
theorem dL_law_39 : decode cL_law 39 = .ok (.tableswitch 1909 0 39 #[173, 229, 285, 353, 409, 472, 540, 596, 652, 665, 678, 691, 704, 717, 730, 743, 756, 769, 832, 888, 944, 1000, 1056, 1112, 1168, 1224, 1280, 1336, 1399, 1467, 1523, 1579, 1635, 1691, 1759, 1815, 1828, 1841, 1854, 1895], 173) := by decide +kernel
theorem dL_law_212 : decode cL_law 212 = .ok (.aload_n 1, 1) := by decide +kernel
theorem dL_law_213 : decode cL_law 213 = .ok (.aload_n 0, 1) := by decide +kernel
theorem dL_law_214 : decode cL_law 214 = .ok (.iload 4, 2) := by decide +kernel
theorem dL_law_216 : decode cL_law 216 = .ok (.iconst 1, 1) := by decide +kernel
theorem dL_law_217 : decode cL_law 217 = .ok (.iadd, 1) := by decide +kernel
theorem dL_law_218 : decode cL_law 218 = .ok (.iaload, 1) := by decide +kernel
theorem dL_law_219 : decode cL_law 219 = .ok (.aload_n 3, 1) := by decide +kernel
theorem dL_law_220 : decode cL_law 220 = .ok (.invokestatic 100, 3) := by decide +kernel
theorem dL_law_223 : decode cL_law 223 = .ok (.istore 5, 2) := by decide +kernel
theorem dL_law_225 : decode cL_law 225 = .ok (.aload_n 2, 1) := by decide +kernel
theorem dL_law_226 : decode cL_law 226 = .ok (.aload_n 0, 1) := by decide +kernel
theorem dL_law_227 : decode cL_law 227 = .ok (.iload 4, 2) := by decide +kernel
theorem dL_law_229 : decode cL_law 229 = .ok (.iconst 1, 1) := by decide +kernel
theorem dL_law_230 : decode cL_law 230 = .ok (.iadd, 1) := by decide +kernel
theorem dL_law_231 : decode cL_law 231 = .ok (.iaload, 1) := by decide +kernel
theorem dL_law_232 : decode cL_law 232 = .ok (.invokevirtual 105, 3) := by decide +kernel
theorem dL_law_235 : decode cL_law 235 = .ok (.istore 6, 2) := by decide +kernel
theorem dL_law_237 : decode cL_law 237 = .ok (.aload_n 2, 1) := by decide +kernel
theorem dL_law_238 : decode cL_law 238 = .ok (.invokevirtual 106, 3) := by decide +kernel
theorem dL_law_241 : decode cL_law 241 = .ok (.iload 5, 2) := by decide +kernel
theorem dL_law_243 : decode cL_law 243 = .ok (.if_icmp .eq 5, 3) := by decide +kernel
theorem dL_law_246 : decode cL_law 246 = .ok (.iconst 0, 1) := by decide +kernel
theorem dL_law_247 : decode cL_law 247 = .ok (.ireturn, 1) := by decide +kernel
theorem dL_law_248 : decode cL_law 248 = .ok (.iload 5, 2) := by decide +kernel
theorem dL_law_250 : decode cL_law 250 = .ok (.ifCond .ne 15, 3) := by decide +kernel
theorem dL_law_253 : decode cL_law 253 = .ok (.aload_n 3, 1) := by decide +kernel
theorem dL_law_254 : decode cL_law 254 = .ok (.iconst 0, 1) := by decide +kernel
theorem dL_law_255 : decode cL_law 255 = .ok (.laload, 1) := by decide +kernel
theorem dL_law_256 : decode cL_law 256 = .ok (.iload 6, 2) := by decide +kernel
theorem dL_law_258 : decode cL_law 258 = .ok (.i2l, 1) := by decide +kernel
theorem dL_law_259 : decode cL_law 259 = .ok (.lcmp, 1) := by decide +kernel
theorem dL_law_260 : decode cL_law 260 = .ok (.ifCond .eq 5, 3) := by decide +kernel
theorem dL_law_263 : decode cL_law 263 = .ok (.iconst 0, 1) := by decide +kernel
theorem dL_law_264 : decode cL_law 264 = .ok (.ireturn, 1) := by decide +kernel
theorem dL_law_265 : decode cL_law 265 = .ok (.goto 1683, 3) := by decide +kernel
theorem dL_law_268 : decode cL_law 268 = .ok (.aload_n 1, 1) := by decide +kernel
theorem dL_law_269 : decode cL_law 269 = .ok (.aload_n 0, 1) := by decide +kernel
theorem dL_law_270 : decode cL_law 270 = .ok (.iload 4, 2) := by decide +kernel
theorem dL_law_272 : decode cL_law 272 = .ok (.iconst 1, 1) := by decide +kernel
theorem dL_law_273 : decode cL_law 273 = .ok (.iadd, 1) := by decide +kernel
theorem dL_law_274 : decode cL_law 274 = .ok (.iaload, 1) := by decide +kernel
theorem dL_law_275 : decode cL_law 275 = .ok (.aload_n 3, 1) := by decide +kernel
theorem dL_law_276 : decode cL_law 276 = .ok (.invokestatic 110, 3) := by decide +kernel
theorem dL_law_279 : decode cL_law 279 = .ok (.istore 5, 2) := by decide +kernel
theorem dL_law_281 : decode cL_law 281 = .ok (.aload_n 2, 1) := by decide +kernel
theorem dL_law_282 : decode cL_law 282 = .ok (.aload_n 0, 1) := by decide +kernel
theorem dL_law_283 : decode cL_law 283 = .ok (.iload 4, 2) := by decide +kernel
theorem dL_law_285 : decode cL_law 285 = .ok (.iconst 1, 1) := by decide +kernel
theorem dL_law_286 : decode cL_law 286 = .ok (.iadd, 1) := by decide +kernel
theorem dL_law_287 : decode cL_law 287 = .ok (.iaload, 1) := by decide +kernel
theorem dL_law_288 : decode cL_law 288 = .ok (.invokevirtual 112, 3) := by decide +kernel
theorem dL_law_291 : decode cL_law 291 = .ok (.istore 6, 2) := by decide +kernel
theorem dL_law_293 : decode cL_law 293 = .ok (.aload_n 2, 1) := by decide +kernel
theorem dL_law_294 : decode cL_law 294 = .ok (.invokevirtual 106, 3) := by decide +kernel
theorem dL_law_297 : decode cL_law 297 = .ok (.iload 5, 2) := by decide +kernel
theorem dL_law_299 : decode cL_law 299 = .ok (.if_icmp .eq 5, 3) := by decide +kernel
theorem dL_law_302 : decode cL_law 302 = .ok (.iconst 0, 1) := by decide +kernel
theorem dL_law_303 : decode cL_law 303 = .ok (.ireturn, 1) := by decide +kernel
theorem dL_law_304 : decode cL_law 304 = .ok (.iload 5, 2) := by decide +kernel
theorem dL_law_306 : decode cL_law 306 = .ok (.ifCond .ne 15, 3) := by decide +kernel
theorem dL_law_309 : decode cL_law 309 = .ok (.aload_n 3, 1) := by decide +kernel
theorem dL_law_310 : decode cL_law 310 = .ok (.iconst 0, 1) := by decide +kernel
theorem dL_law_311 : decode cL_law 311 = .ok (.laload, 1) := by decide +kernel
theorem dL_law_312 : decode cL_law 312 = .ok (.iload 6, 2) := by decide +kernel
theorem dL_law_314 : decode cL_law 314 = .ok (.i2l, 1) := by decide +kernel
theorem dL_law_315 : decode cL_law 315 = .ok (.lcmp, 1) := by decide +kernel
theorem dL_law_316 : decode cL_law 316 = .ok (.ifCond .eq 5, 3) := by decide +kernel
theorem dL_law_319 : decode cL_law 319 = .ok (.iconst 0, 1) := by decide +kernel
theorem dL_law_320 : decode cL_law 320 = .ok (.ireturn, 1) := by decide +kernel
theorem dL_law_321 : decode cL_law 321 = .ok (.goto 1627, 3) := by decide +kernel
theorem dL_law_324 : decode cL_law 324 = .ok (.aload_n 1, 1) := by decide +kernel
theorem dL_law_325 : decode cL_law 325 = .ok (.aload_n 0, 1) := by decide +kernel
theorem dL_law_326 : decode cL_law 326 = .ok (.iload 4, 2) := by decide +kernel
theorem dL_law_328 : decode cL_law 328 = .ok (.iconst 1, 1) := by decide +kernel
theorem dL_law_329 : decode cL_law 329 = .ok (.iadd, 1) := by decide +kernel
theorem dL_law_330 : decode cL_law 330 = .ok (.iaload, 1) := by decide +kernel
theorem dL_law_331 : decode cL_law 331 = .ok (.aload_n 0, 1) := by decide +kernel
theorem dL_law_332 : decode cL_law 332 = .ok (.iload 4, 2) := by decide +kernel
theorem dL_law_334 : decode cL_law 334 = .ok (.iconst 2, 1) := by decide +kernel
theorem dL_law_335 : decode cL_law 335 = .ok (.iadd, 1) := by decide +kernel
theorem dL_law_336 : decode cL_law 336 = .ok (.iaload, 1) := by decide +kernel
theorem dL_law_337 : decode cL_law 337 = .ok (.aload_n 3, 1) := by decide +kernel
theorem dL_law_338 : decode cL_law 338 = .ok (.invokestatic 113, 3) := by decide +kernel
theorem dL_law_341 : decode cL_law 341 = .ok (.istore 5, 2) := by decide +kernel
theorem dL_law_343 : decode cL_law 343 = .ok (.aload_n 2, 1) := by decide +kernel
theorem dL_law_344 : decode cL_law 344 = .ok (.aload_n 0, 1) := by decide +kernel
theorem dL_law_345 : decode cL_law 345 = .ok (.iload 4, 2) := by decide +kernel
theorem dL_law_347 : decode cL_law 347 = .ok (.iconst 1, 1) := by decide +kernel
theorem dL_law_348 : decode cL_law 348 = .ok (.iadd, 1) := by decide +kernel
theorem dL_law_349 : decode cL_law 349 = .ok (.iaload, 1) := by decide +kernel
theorem dL_law_350 : decode cL_law 350 = .ok (.aload_n 0, 1) := by decide +kernel
theorem dL_law_351 : decode cL_law 351 = .ok (.iload 4, 2) := by decide +kernel
theorem dL_law_353 : decode cL_law 353 = .ok (.iconst 2, 1) := by decide +kernel
theorem dL_law_354 : decode cL_law 354 = .ok (.iadd, 1) := by decide +kernel
theorem dL_law_355 : decode cL_law 355 = .ok (.iaload, 1) := by decide +kernel
theorem dL_law_356 : decode cL_law 356 = .ok (.invokevirtual 116, 3) := by decide +kernel
theorem dL_law_359 : decode cL_law 359 = .ok (.istore 6, 2) := by decide +kernel
theorem dL_law_361 : decode cL_law 361 = .ok (.aload_n 2, 1) := by decide +kernel
theorem dL_law_362 : decode cL_law 362 = .ok (.invokevirtual 106, 3) := by decide +kernel
theorem dL_law_365 : decode cL_law 365 = .ok (.iload 5, 2) := by decide +kernel
theorem dL_law_367 : decode cL_law 367 = .ok (.if_icmp .eq 5, 3) := by decide +kernel
theorem dL_law_370 : decode cL_law 370 = .ok (.iconst 0, 1) := by decide +kernel
theorem dL_law_371 : decode cL_law 371 = .ok (.ireturn, 1) := by decide +kernel
theorem dL_law_372 : decode cL_law 372 = .ok (.iload 5, 2) := by decide +kernel
theorem dL_law_374 : decode cL_law 374 = .ok (.ifCond .ne 15, 3) := by decide +kernel
theorem dL_law_377 : decode cL_law 377 = .ok (.aload_n 3, 1) := by decide +kernel
theorem dL_law_378 : decode cL_law 378 = .ok (.iconst 0, 1) := by decide +kernel
theorem dL_law_379 : decode cL_law 379 = .ok (.laload, 1) := by decide +kernel
theorem dL_law_380 : decode cL_law 380 = .ok (.iload 6, 2) := by decide +kernel
theorem dL_law_382 : decode cL_law 382 = .ok (.i2l, 1) := by decide +kernel
theorem dL_law_383 : decode cL_law 383 = .ok (.lcmp, 1) := by decide +kernel
theorem dL_law_384 : decode cL_law 384 = .ok (.ifCond .eq 5, 3) := by decide +kernel
theorem dL_law_387 : decode cL_law 387 = .ok (.iconst 0, 1) := by decide +kernel
theorem dL_law_388 : decode cL_law 388 = .ok (.ireturn, 1) := by decide +kernel
theorem dL_law_389 : decode cL_law 389 = .ok (.goto 1559, 3) := by decide +kernel
theorem dL_law_392 : decode cL_law 392 = .ok (.aload_n 1, 1) := by decide +kernel
theorem dL_law_393 : decode cL_law 393 = .ok (.aload_n 0, 1) := by decide +kernel
theorem dL_law_394 : decode cL_law 394 = .ok (.iload 4, 2) := by decide +kernel
theorem dL_law_396 : decode cL_law 396 = .ok (.iconst 1, 1) := by decide +kernel
theorem dL_law_397 : decode cL_law 397 = .ok (.iadd, 1) := by decide +kernel
theorem dL_law_398 : decode cL_law 398 = .ok (.iaload, 1) := by decide +kernel
theorem dL_law_399 : decode cL_law 399 = .ok (.aload_n 3, 1) := by decide +kernel
theorem dL_law_400 : decode cL_law 400 = .ok (.invokestatic 117, 3) := by decide +kernel
theorem dL_law_403 : decode cL_law 403 = .ok (.istore 5, 2) := by decide +kernel
theorem dL_law_405 : decode cL_law 405 = .ok (.aload_n 2, 1) := by decide +kernel
theorem dL_law_406 : decode cL_law 406 = .ok (.aload_n 0, 1) := by decide +kernel
theorem dL_law_407 : decode cL_law 407 = .ok (.iload 4, 2) := by decide +kernel
theorem dL_law_409 : decode cL_law 409 = .ok (.iconst 1, 1) := by decide +kernel
theorem dL_law_410 : decode cL_law 410 = .ok (.iadd, 1) := by decide +kernel
theorem dL_law_411 : decode cL_law 411 = .ok (.iaload, 1) := by decide +kernel
theorem dL_law_412 : decode cL_law 412 = .ok (.invokevirtual 119, 3) := by decide +kernel
theorem dL_law_415 : decode cL_law 415 = .ok (.istore 6, 2) := by decide +kernel
theorem dL_law_417 : decode cL_law 417 = .ok (.aload_n 2, 1) := by decide +kernel
theorem dL_law_418 : decode cL_law 418 = .ok (.invokevirtual 106, 3) := by decide +kernel
theorem dL_law_421 : decode cL_law 421 = .ok (.iload 5, 2) := by decide +kernel
theorem dL_law_423 : decode cL_law 423 = .ok (.if_icmp .eq 5, 3) := by decide +kernel
theorem dL_law_426 : decode cL_law 426 = .ok (.iconst 0, 1) := by decide +kernel
theorem dL_law_427 : decode cL_law 427 = .ok (.ireturn, 1) := by decide +kernel
theorem dL_law_428 : decode cL_law 428 = .ok (.iload 5, 2) := by decide +kernel
theorem dL_law_430 : decode cL_law 430 = .ok (.ifCond .ne 15, 3) := by decide +kernel
theorem dL_law_433 : decode cL_law 433 = .ok (.aload_n 3, 1) := by decide +kernel
theorem dL_law_434 : decode cL_law 434 = .ok (.iconst 0, 1) := by decide +kernel
theorem dL_law_435 : decode cL_law 435 = .ok (.laload, 1) := by decide +kernel
theorem dL_law_436 : decode cL_law 436 = .ok (.iload 6, 2) := by decide +kernel
theorem dL_law_438 : decode cL_law 438 = .ok (.i2l, 1) := by decide +kernel
theorem dL_law_439 : decode cL_law 439 = .ok (.lcmp, 1) := by decide +kernel
theorem dL_law_440 : decode cL_law 440 = .ok (.ifCond .eq 5, 3) := by decide +kernel
theorem dL_law_443 : decode cL_law 443 = .ok (.iconst 0, 1) := by decide +kernel
theorem dL_law_444 : decode cL_law 444 = .ok (.ireturn, 1) := by decide +kernel
theorem dL_law_445 : decode cL_law 445 = .ok (.goto 1503, 3) := by decide +kernel
theorem dL_law_448 : decode cL_law 448 = .ok (.aload_n 1, 1) := by decide +kernel
theorem dL_law_449 : decode cL_law 449 = .ok (.aload_n 0, 1) := by decide +kernel
theorem dL_law_450 : decode cL_law 450 = .ok (.iload 4, 2) := by decide +kernel
theorem dL_law_452 : decode cL_law 452 = .ok (.iconst 1, 1) := by decide +kernel
theorem dL_law_453 : decode cL_law 453 = .ok (.iadd, 1) := by decide +kernel
theorem dL_law_454 : decode cL_law 454 = .ok (.iaload, 1) := by decide +kernel
theorem dL_law_455 : decode cL_law 455 = .ok (.aload_n 3, 1) := by decide +kernel
theorem dL_law_456 : decode cL_law 456 = .ok (.invokestatic 120, 3) := by decide +kernel
theorem dL_law_459 : decode cL_law 459 = .ok (.istore 5, 2) := by decide +kernel
theorem dL_law_461 : decode cL_law 461 = .ok (.aload_n 2, 1) := by decide +kernel
theorem dL_law_462 : decode cL_law 462 = .ok (.aload_n 0, 1) := by decide +kernel
theorem dL_law_463 : decode cL_law 463 = .ok (.iload 4, 2) := by decide +kernel
theorem dL_law_465 : decode cL_law 465 = .ok (.iconst 1, 1) := by decide +kernel
theorem dL_law_466 : decode cL_law 466 = .ok (.iadd, 1) := by decide +kernel
theorem dL_law_467 : decode cL_law 467 = .ok (.iaload, 1) := by decide +kernel
theorem dL_law_468 : decode cL_law 468 = .ok (.invokevirtual 122, 3) := by decide +kernel
theorem dL_law_471 : decode cL_law 471 = .ok (.istore 6, 2) := by decide +kernel
theorem dL_law_473 : decode cL_law 473 = .ok (.aload_n 2, 1) := by decide +kernel
theorem dL_law_474 : decode cL_law 474 = .ok (.invokevirtual 106, 3) := by decide +kernel
theorem dL_law_477 : decode cL_law 477 = .ok (.iload 5, 2) := by decide +kernel
theorem dL_law_479 : decode cL_law 479 = .ok (.if_icmp .eq 5, 3) := by decide +kernel
theorem dL_law_482 : decode cL_law 482 = .ok (.iconst 0, 1) := by decide +kernel
theorem dL_law_483 : decode cL_law 483 = .ok (.ireturn, 1) := by decide +kernel
theorem dL_law_484 : decode cL_law 484 = .ok (.iload 5, 2) := by decide +kernel
theorem dL_law_486 : decode cL_law 486 = .ok (.ifCond .ne 22, 3) := by decide +kernel
theorem dL_law_489 : decode cL_law 489 = .ok (.aload_n 3, 1) := by decide +kernel
theorem dL_law_490 : decode cL_law 490 = .ok (.iconst 0, 1) := by decide +kernel
theorem dL_law_491 : decode cL_law 491 = .ok (.laload, 1) := by decide +kernel
theorem dL_law_492 : decode cL_law 492 = .ok (.iload 6, 2) := by decide +kernel
theorem dL_law_494 : decode cL_law 494 = .ok (.ifCond .eq 7, 3) := by decide +kernel
theorem dL_law_497 : decode cL_law 497 = .ok (.lconst 1, 1) := by decide +kernel
theorem dL_law_498 : decode cL_law 498 = .ok (.goto 4, 3) := by decide +kernel
theorem dL_law_501 : decode cL_law 501 = .ok (.lconst 0, 1) := by decide +kernel
theorem dL_law_502 : decode cL_law 502 = .ok (.lcmp, 1) := by decide +kernel
theorem dL_law_503 : decode cL_law 503 = .ok (.ifCond .eq 5, 3) := by decide +kernel
theorem dL_law_506 : decode cL_law 506 = .ok (.iconst 0, 1) := by decide +kernel
theorem dL_law_507 : decode cL_law 507 = .ok (.ireturn, 1) := by decide +kernel
theorem dL_law_508 : decode cL_law 508 = .ok (.goto 1440, 3) := by decide +kernel
theorem dL_law_511 : decode cL_law 511 = .ok (.aload_n 1, 1) := by decide +kernel
theorem dL_law_512 : decode cL_law 512 = .ok (.aload_n 0, 1) := by decide +kernel
theorem dL_law_513 : decode cL_law 513 = .ok (.iload 4, 2) := by decide +kernel
theorem dL_law_515 : decode cL_law 515 = .ok (.iconst 1, 1) := by decide +kernel
theorem dL_law_516 : decode cL_law 516 = .ok (.iadd, 1) := by decide +kernel
theorem dL_law_517 : decode cL_law 517 = .ok (.iaload, 1) := by decide +kernel
theorem dL_law_518 : decode cL_law 518 = .ok (.aload_n 0, 1) := by decide +kernel
theorem dL_law_519 : decode cL_law 519 = .ok (.iload 4, 2) := by decide +kernel
theorem dL_law_521 : decode cL_law 521 = .ok (.iconst 2, 1) := by decide +kernel
theorem dL_law_522 : decode cL_law 522 = .ok (.iadd, 1) := by decide +kernel
theorem dL_law_523 : decode cL_law 523 = .ok (.iaload, 1) := by decide +kernel
theorem dL_law_524 : decode cL_law 524 = .ok (.aload_n 3, 1) := by decide +kernel
theorem dL_law_525 : decode cL_law 525 = .ok (.invokestatic 123, 3) := by decide +kernel
theorem dL_law_528 : decode cL_law 528 = .ok (.istore 5, 2) := by decide +kernel
theorem dL_law_530 : decode cL_law 530 = .ok (.aload_n 2, 1) := by decide +kernel
theorem dL_law_531 : decode cL_law 531 = .ok (.aload_n 0, 1) := by decide +kernel
theorem dL_law_532 : decode cL_law 532 = .ok (.iload 4, 2) := by decide +kernel
theorem dL_law_534 : decode cL_law 534 = .ok (.iconst 1, 1) := by decide +kernel
theorem dL_law_535 : decode cL_law 535 = .ok (.iadd, 1) := by decide +kernel
theorem dL_law_536 : decode cL_law 536 = .ok (.iaload, 1) := by decide +kernel
theorem dL_law_537 : decode cL_law 537 = .ok (.aload_n 0, 1) := by decide +kernel
theorem dL_law_538 : decode cL_law 538 = .ok (.iload 4, 2) := by decide +kernel
theorem dL_law_540 : decode cL_law 540 = .ok (.iconst 2, 1) := by decide +kernel
theorem dL_law_541 : decode cL_law 541 = .ok (.iadd, 1) := by decide +kernel
theorem dL_law_542 : decode cL_law 542 = .ok (.iaload, 1) := by decide +kernel
theorem dL_law_543 : decode cL_law 543 = .ok (.invokevirtual 125, 3) := by decide +kernel
theorem dL_law_546 : decode cL_law 546 = .ok (.istore 6, 2) := by decide +kernel
theorem dL_law_548 : decode cL_law 548 = .ok (.aload_n 2, 1) := by decide +kernel
theorem dL_law_549 : decode cL_law 549 = .ok (.invokevirtual 106, 3) := by decide +kernel
theorem dL_law_552 : decode cL_law 552 = .ok (.iload 5, 2) := by decide +kernel
theorem dL_law_554 : decode cL_law 554 = .ok (.if_icmp .eq 5, 3) := by decide +kernel
theorem dL_law_557 : decode cL_law 557 = .ok (.iconst 0, 1) := by decide +kernel
theorem dL_law_558 : decode cL_law 558 = .ok (.ireturn, 1) := by decide +kernel
theorem dL_law_559 : decode cL_law 559 = .ok (.iload 5, 2) := by decide +kernel
theorem dL_law_561 : decode cL_law 561 = .ok (.ifCond .ne 15, 3) := by decide +kernel
theorem dL_law_564 : decode cL_law 564 = .ok (.aload_n 3, 1) := by decide +kernel
theorem dL_law_565 : decode cL_law 565 = .ok (.iconst 0, 1) := by decide +kernel
theorem dL_law_566 : decode cL_law 566 = .ok (.laload, 1) := by decide +kernel
theorem dL_law_567 : decode cL_law 567 = .ok (.iload 6, 2) := by decide +kernel
theorem dL_law_569 : decode cL_law 569 = .ok (.i2l, 1) := by decide +kernel
theorem dL_law_570 : decode cL_law 570 = .ok (.lcmp, 1) := by decide +kernel
theorem dL_law_571 : decode cL_law 571 = .ok (.ifCond .eq 5, 3) := by decide +kernel
theorem dL_law_574 : decode cL_law 574 = .ok (.iconst 0, 1) := by decide +kernel
theorem dL_law_575 : decode cL_law 575 = .ok (.ireturn, 1) := by decide +kernel
theorem dL_law_576 : decode cL_law 576 = .ok (.goto 1372, 3) := by decide +kernel
theorem dL_law_579 : decode cL_law 579 = .ok (.aload_n 1, 1) := by decide +kernel
theorem dL_law_580 : decode cL_law 580 = .ok (.aload_n 0, 1) := by decide +kernel
theorem dL_law_581 : decode cL_law 581 = .ok (.iload 4, 2) := by decide +kernel
theorem dL_law_583 : decode cL_law 583 = .ok (.iconst 1, 1) := by decide +kernel
theorem dL_law_584 : decode cL_law 584 = .ok (.iadd, 1) := by decide +kernel
theorem dL_law_585 : decode cL_law 585 = .ok (.iaload, 1) := by decide +kernel
theorem dL_law_586 : decode cL_law 586 = .ok (.aload_n 3, 1) := by decide +kernel
theorem dL_law_587 : decode cL_law 587 = .ok (.invokestatic 126, 3) := by decide +kernel
theorem dL_law_590 : decode cL_law 590 = .ok (.istore 5, 2) := by decide +kernel
theorem dL_law_592 : decode cL_law 592 = .ok (.aload_n 2, 1) := by decide +kernel
theorem dL_law_593 : decode cL_law 593 = .ok (.aload_n 0, 1) := by decide +kernel
theorem dL_law_594 : decode cL_law 594 = .ok (.iload 4, 2) := by decide +kernel
theorem dL_law_596 : decode cL_law 596 = .ok (.iconst 1, 1) := by decide +kernel
theorem dL_law_597 : decode cL_law 597 = .ok (.iadd, 1) := by decide +kernel
theorem dL_law_598 : decode cL_law 598 = .ok (.iaload, 1) := by decide +kernel
theorem dL_law_599 : decode cL_law 599 = .ok (.invokevirtual 128, 3) := by decide +kernel
theorem dL_law_602 : decode cL_law 602 = .ok (.istore 6, 2) := by decide +kernel
theorem dL_law_604 : decode cL_law 604 = .ok (.aload_n 2, 1) := by decide +kernel
theorem dL_law_605 : decode cL_law 605 = .ok (.invokevirtual 106, 3) := by decide +kernel
theorem dL_law_608 : decode cL_law 608 = .ok (.iload 5, 2) := by decide +kernel
theorem dL_law_610 : decode cL_law 610 = .ok (.if_icmp .eq 5, 3) := by decide +kernel
theorem dL_law_613 : decode cL_law 613 = .ok (.iconst 0, 1) := by decide +kernel
theorem dL_law_614 : decode cL_law 614 = .ok (.ireturn, 1) := by decide +kernel
theorem dL_law_615 : decode cL_law 615 = .ok (.iload 5, 2) := by decide +kernel
theorem dL_law_617 : decode cL_law 617 = .ok (.ifCond .ne 15, 3) := by decide +kernel
theorem dL_law_620 : decode cL_law 620 = .ok (.aload_n 3, 1) := by decide +kernel
theorem dL_law_621 : decode cL_law 621 = .ok (.iconst 0, 1) := by decide +kernel
theorem dL_law_622 : decode cL_law 622 = .ok (.laload, 1) := by decide +kernel
theorem dL_law_623 : decode cL_law 623 = .ok (.iload 6, 2) := by decide +kernel
theorem dL_law_625 : decode cL_law 625 = .ok (.i2l, 1) := by decide +kernel
theorem dL_law_626 : decode cL_law 626 = .ok (.lcmp, 1) := by decide +kernel
theorem dL_law_627 : decode cL_law 627 = .ok (.ifCond .eq 5, 3) := by decide +kernel
theorem dL_law_630 : decode cL_law 630 = .ok (.iconst 0, 1) := by decide +kernel
theorem dL_law_631 : decode cL_law 631 = .ok (.ireturn, 1) := by decide +kernel
theorem dL_law_632 : decode cL_law 632 = .ok (.goto 1316, 3) := by decide +kernel
theorem dL_law_635 : decode cL_law 635 = .ok (.aload_n 1, 1) := by decide +kernel
theorem dL_law_636 : decode cL_law 636 = .ok (.aload_n 0, 1) := by decide +kernel
theorem dL_law_637 : decode cL_law 637 = .ok (.iload 4, 2) := by decide +kernel
theorem dL_law_639 : decode cL_law 639 = .ok (.iconst 1, 1) := by decide +kernel
theorem dL_law_640 : decode cL_law 640 = .ok (.iadd, 1) := by decide +kernel
theorem dL_law_641 : decode cL_law 641 = .ok (.iaload, 1) := by decide +kernel
theorem dL_law_642 : decode cL_law 642 = .ok (.aload_n 3, 1) := by decide +kernel
end
section
/-! decode rows: the law -/
theorem dL_law_643 : decode cL_law 643 = .ok (.invokestatic 129, 3) := by decide +kernel
theorem dL_law_646 : decode cL_law 646 = .ok (.istore 5, 2) := by decide +kernel
theorem dL_law_648 : decode cL_law 648 = .ok (.aload_n 2, 1) := by decide +kernel
theorem dL_law_649 : decode cL_law 649 = .ok (.aload_n 0, 1) := by decide +kernel
theorem dL_law_650 : decode cL_law 650 = .ok (.iload 4, 2) := by decide +kernel
theorem dL_law_652 : decode cL_law 652 = .ok (.iconst 1, 1) := by decide +kernel
theorem dL_law_653 : decode cL_law 653 = .ok (.iadd, 1) := by decide +kernel
theorem dL_law_654 : decode cL_law 654 = .ok (.iaload, 1) := by decide +kernel
theorem dL_law_655 : decode cL_law 655 = .ok (.invokevirtual 131, 3) := by decide +kernel
theorem dL_law_658 : decode cL_law 658 = .ok (.istore 6, 2) := by decide +kernel
theorem dL_law_660 : decode cL_law 660 = .ok (.aload_n 2, 1) := by decide +kernel
theorem dL_law_661 : decode cL_law 661 = .ok (.invokevirtual 106, 3) := by decide +kernel
theorem dL_law_664 : decode cL_law 664 = .ok (.iload 5, 2) := by decide +kernel
theorem dL_law_666 : decode cL_law 666 = .ok (.if_icmp .eq 5, 3) := by decide +kernel
theorem dL_law_669 : decode cL_law 669 = .ok (.iconst 0, 1) := by decide +kernel
theorem dL_law_670 : decode cL_law 670 = .ok (.ireturn, 1) := by decide +kernel
theorem dL_law_671 : decode cL_law 671 = .ok (.iload 5, 2) := by decide +kernel
theorem dL_law_673 : decode cL_law 673 = .ok (.ifCond .ne 15, 3) := by decide +kernel
theorem dL_law_676 : decode cL_law 676 = .ok (.aload_n 3, 1) := by decide +kernel
theorem dL_law_677 : decode cL_law 677 = .ok (.iconst 0, 1) := by decide +kernel
theorem dL_law_678 : decode cL_law 678 = .ok (.laload, 1) := by decide +kernel
theorem dL_law_679 : decode cL_law 679 = .ok (.iload 6, 2) := by decide +kernel
theorem dL_law_681 : decode cL_law 681 = .ok (.i2l, 1) := by decide +kernel
theorem dL_law_682 : decode cL_law 682 = .ok (.lcmp, 1) := by decide +kernel
theorem dL_law_683 : decode cL_law 683 = .ok (.ifCond .eq 5, 3) := by decide +kernel
theorem dL_law_686 : decode cL_law 686 = .ok (.iconst 0, 1) := by decide +kernel
theorem dL_law_687 : decode cL_law 687 = .ok (.ireturn, 1) := by decide +kernel
theorem dL_law_688 : decode cL_law 688 = .ok (.goto 1260, 3) := by decide +kernel
theorem dL_law_691 : decode cL_law 691 = .ok (.aload_n 1, 1) := by decide +kernel
theorem dL_law_692 : decode cL_law 692 = .ok (.invokevirtual 132, 3) := by decide +kernel
theorem dL_law_695 : decode cL_law 695 = .ok (.aload_n 2, 1) := by decide +kernel
theorem dL_law_696 : decode cL_law 696 = .ok (.invokevirtual 135, 3) := by decide +kernel
theorem dL_law_699 : decode cL_law 699 = .ok (.if_icmp .eq 1249, 3) := by decide +kernel
theorem dL_law_702 : decode cL_law 702 = .ok (.iconst 0, 1) := by decide +kernel
theorem dL_law_703 : decode cL_law 703 = .ok (.ireturn, 1) := by decide +kernel
theorem dL_law_704 : decode cL_law 704 = .ok (.aload_n 1, 1) := by decide +kernel
theorem dL_law_705 : decode cL_law 705 = .ok (.invokevirtual 136, 3) := by decide +kernel
theorem dL_law_708 : decode cL_law 708 = .ok (.aload_n 2, 1) := by decide +kernel
theorem dL_law_709 : decode cL_law 709 = .ok (.invokevirtual 139, 3) := by decide +kernel
theorem dL_law_712 : decode cL_law 712 = .ok (.if_icmp .eq 1236, 3) := by decide +kernel
theorem dL_law_715 : decode cL_law 715 = .ok (.iconst 0, 1) := by decide +kernel
theorem dL_law_716 : decode cL_law 716 = .ok (.ireturn, 1) := by decide +kernel
theorem dL_law_717 : decode cL_law 717 = .ok (.aload_n 1, 1) := by decide +kernel
theorem dL_law_718 : decode cL_law 718 = .ok (.invokevirtual 140, 3) := by decide +kernel
theorem dL_law_721 : decode cL_law 721 = .ok (.aload_n 2, 1) := by decide +kernel
theorem dL_law_722 : decode cL_law 722 = .ok (.invokevirtual 143, 3) := by decide +kernel
theorem dL_law_725 : decode cL_law 725 = .ok (.if_icmp .eq 1223, 3) := by decide +kernel
theorem dL_law_728 : decode cL_law 728 = .ok (.iconst 0, 1) := by decide +kernel
theorem dL_law_729 : decode cL_law 729 = .ok (.ireturn, 1) := by decide +kernel
theorem dL_law_730 : decode cL_law 730 = .ok (.aload_n 1, 1) := by decide +kernel
theorem dL_law_731 : decode cL_law 731 = .ok (.invokevirtual 144, 3) := by decide +kernel
theorem dL_law_734 : decode cL_law 734 = .ok (.aload_n 2, 1) := by decide +kernel
theorem dL_law_735 : decode cL_law 735 = .ok (.invokevirtual 147, 3) := by decide +kernel
theorem dL_law_738 : decode cL_law 738 = .ok (.if_icmp .eq 1210, 3) := by decide +kernel
theorem dL_law_741 : decode cL_law 741 = .ok (.iconst 0, 1) := by decide +kernel
theorem dL_law_742 : decode cL_law 742 = .ok (.ireturn, 1) := by decide +kernel
theorem dL_law_743 : decode cL_law 743 = .ok (.aload_n 1, 1) := by decide +kernel
theorem dL_law_744 : decode cL_law 744 = .ok (.invokevirtual 148, 3) := by decide +kernel
theorem dL_law_747 : decode cL_law 747 = .ok (.aload_n 2, 1) := by decide +kernel
theorem dL_law_748 : decode cL_law 748 = .ok (.invokevirtual 151, 3) := by decide +kernel
theorem dL_law_751 : decode cL_law 751 = .ok (.if_icmp .eq 1197, 3) := by decide +kernel
theorem dL_law_754 : decode cL_law 754 = .ok (.iconst 0, 1) := by decide +kernel
theorem dL_law_755 : decode cL_law 755 = .ok (.ireturn, 1) := by decide +kernel
theorem dL_law_756 : decode cL_law 756 = .ok (.aload_n 1, 1) := by decide +kernel
theorem dL_law_757 : decode cL_law 757 = .ok (.invokevirtual 152, 3) := by decide +kernel
theorem dL_law_760 : decode cL_law 760 = .ok (.aload_n 2, 1) := by decide +kernel
theorem dL_law_761 : decode cL_law 761 = .ok (.invokevirtual 155, 3) := by decide +kernel
theorem dL_law_764 : decode cL_law 764 = .ok (.if_icmp .eq 1184, 3) := by decide +kernel
theorem dL_law_767 : decode cL_law 767 = .ok (.iconst 0, 1) := by decide +kernel
theorem dL_law_768 : decode cL_law 768 = .ok (.ireturn, 1) := by decide +kernel
theorem dL_law_769 : decode cL_law 769 = .ok (.aload_n 1, 1) := by decide +kernel
theorem dL_law_770 : decode cL_law 770 = .ok (.invokevirtual 156, 3) := by decide +kernel
theorem dL_law_773 : decode cL_law 773 = .ok (.aload_n 2, 1) := by decide +kernel
theorem dL_law_774 : decode cL_law 774 = .ok (.invokevirtual 159, 3) := by decide +kernel
theorem dL_law_777 : decode cL_law 777 = .ok (.if_icmp .eq 1171, 3) := by decide +kernel
theorem dL_law_780 : decode cL_law 780 = .ok (.iconst 0, 1) := by decide +kernel
theorem dL_law_781 : decode cL_law 781 = .ok (.ireturn, 1) := by decide +kernel
theorem dL_law_782 : decode cL_law 782 = .ok (.aload_n 1, 1) := by decide +kernel
theorem dL_law_783 : decode cL_law 783 = .ok (.invokevirtual 160, 3) := by decide +kernel
theorem dL_law_786 : decode cL_law 786 = .ok (.aload_n 2, 1) := by decide +kernel
theorem dL_law_787 : decode cL_law 787 = .ok (.invokevirtual 163, 3) := by decide +kernel
theorem dL_law_790 : decode cL_law 790 = .ok (.if_icmp .eq 1158, 3) := by decide +kernel
theorem dL_law_793 : decode cL_law 793 = .ok (.iconst 0, 1) := by decide +kernel
theorem dL_law_794 : decode cL_law 794 = .ok (.ireturn, 1) := by decide +kernel
theorem dL_law_795 : decode cL_law 795 = .ok (.aload_n 1, 1) := by decide +kernel
theorem dL_law_796 : decode cL_law 796 = .ok (.invokevirtual 164, 3) := by decide +kernel
theorem dL_law_799 : decode cL_law 799 = .ok (.aload_n 2, 1) := by decide +kernel
theorem dL_law_800 : decode cL_law 800 = .ok (.invokevirtual 167, 3) := by decide +kernel
theorem dL_law_803 : decode cL_law 803 = .ok (.if_icmp .eq 1145, 3) := by decide +kernel
theorem dL_law_806 : decode cL_law 806 = .ok (.iconst 0, 1) := by decide +kernel
theorem dL_law_807 : decode cL_law 807 = .ok (.ireturn, 1) := by decide +kernel
theorem dL_law_808 : decode cL_law 808 = .ok (.aload_n 1, 1) := by decide +kernel
theorem dL_law_809 : decode cL_law 809 = .ok (.aload_n 0, 1) := by decide +kernel
theorem dL_law_810 : decode cL_law 810 = .ok (.iload 4, 2) := by decide +kernel
theorem dL_law_812 : decode cL_law 812 = .ok (.iconst 1, 1) := by decide +kernel
theorem dL_law_813 : decode cL_law 813 = .ok (.iadd, 1) := by decide +kernel
theorem dL_law_814 : decode cL_law 814 = .ok (.iaload, 1) := by decide +kernel
theorem dL_law_815 : decode cL_law 815 = .ok (.aload_n 3, 1) := by decide +kernel
theorem dL_law_816 : decode cL_law 816 = .ok (.invokestatic 168, 3) := by decide +kernel
theorem dL_law_819 : decode cL_law 819 = .ok (.istore 5, 2) := by decide +kernel
theorem dL_law_821 : decode cL_law 821 = .ok (.aload_n 2, 1) := by decide +kernel
theorem dL_law_822 : decode cL_law 822 = .ok (.aload_n 0, 1) := by decide +kernel
theorem dL_law_823 : decode cL_law 823 = .ok (.iload 4, 2) := by decide +kernel
theorem dL_law_825 : decode cL_law 825 = .ok (.iconst 1, 1) := by decide +kernel
theorem dL_law_826 : decode cL_law 826 = .ok (.iadd, 1) := by decide +kernel
theorem dL_law_827 : decode cL_law 827 = .ok (.iaload, 1) := by decide +kernel
theorem dL_law_828 : decode cL_law 828 = .ok (.invokevirtual 170, 3) := by decide +kernel
theorem dL_law_831 : decode cL_law 831 = .ok (.istore 6, 2) := by decide +kernel
theorem dL_law_833 : decode cL_law 833 = .ok (.aload_n 2, 1) := by decide +kernel
theorem dL_law_834 : decode cL_law 834 = .ok (.invokevirtual 106, 3) := by decide +kernel
theorem dL_law_837 : decode cL_law 837 = .ok (.iload 5, 2) := by decide +kernel
theorem dL_law_839 : decode cL_law 839 = .ok (.if_icmp .eq 5, 3) := by decide +kernel
theorem dL_law_842 : decode cL_law 842 = .ok (.iconst 0, 1) := by decide +kernel
theorem dL_law_843 : decode cL_law 843 = .ok (.ireturn, 1) := by decide +kernel
theorem dL_law_844 : decode cL_law 844 = .ok (.iload 5, 2) := by decide +kernel
theorem dL_law_846 : decode cL_law 846 = .ok (.ifCond .ne 22, 3) := by decide +kernel
theorem dL_law_849 : decode cL_law 849 = .ok (.aload_n 3, 1) := by decide +kernel
theorem dL_law_850 : decode cL_law 850 = .ok (.iconst 0, 1) := by decide +kernel
theorem dL_law_851 : decode cL_law 851 = .ok (.laload, 1) := by decide +kernel
theorem dL_law_852 : decode cL_law 852 = .ok (.iload 6, 2) := by decide +kernel
theorem dL_law_854 : decode cL_law 854 = .ok (.ifCond .eq 7, 3) := by decide +kernel
theorem dL_law_857 : decode cL_law 857 = .ok (.lconst 1, 1) := by decide +kernel
theorem dL_law_858 : decode cL_law 858 = .ok (.goto 4, 3) := by decide +kernel
theorem dL_law_861 : decode cL_law 861 = .ok (.lconst 0, 1) := by decide +kernel
theorem dL_law_862 : decode cL_law 862 = .ok (.lcmp, 1) := by decide +kernel
theorem dL_law_863 : decode cL_law 863 = .ok (.ifCond .eq 5, 3) := by decide +kernel
theorem dL_law_866 : decode cL_law 866 = .ok (.iconst 0, 1) := by decide +kernel
theorem dL_law_867 : decode cL_law 867 = .ok (.ireturn, 1) := by decide +kernel
theorem dL_law_868 : decode cL_law 868 = .ok (.goto 1080, 3) := by decide +kernel
theorem dL_law_871 : decode cL_law 871 = .ok (.aload_n 1, 1) := by decide +kernel
theorem dL_law_872 : decode cL_law 872 = .ok (.aload_n 0, 1) := by decide +kernel
theorem dL_law_873 : decode cL_law 873 = .ok (.iload 4, 2) := by decide +kernel
theorem dL_law_875 : decode cL_law 875 = .ok (.iconst 1, 1) := by decide +kernel
theorem dL_law_876 : decode cL_law 876 = .ok (.iadd, 1) := by decide +kernel
theorem dL_law_877 : decode cL_law 877 = .ok (.iaload, 1) := by decide +kernel
theorem dL_law_878 : decode cL_law 878 = .ok (.aload_n 3, 1) := by decide +kernel
theorem dL_law_879 : decode cL_law 879 = .ok (.invokestatic 171, 3) := by decide +kernel
theorem dL_law_882 : decode cL_law 882 = .ok (.istore 5, 2) := by decide +kernel
theorem dL_law_884 : decode cL_law 884 = .ok (.aload_n 2, 1) := by decide +kernel
theorem dL_law_885 : decode cL_law 885 = .ok (.aload_n 0, 1) := by decide +kernel
theorem dL_law_886 : decode cL_law 886 = .ok (.iload 4, 2) := by decide +kernel
theorem dL_law_888 : decode cL_law 888 = .ok (.iconst 1, 1) := by decide +kernel
theorem dL_law_889 : decode cL_law 889 = .ok (.iadd, 1) := by decide +kernel
theorem dL_law_890 : decode cL_law 890 = .ok (.iaload, 1) := by decide +kernel
theorem dL_law_891 : decode cL_law 891 = .ok (.invokevirtual 173, 3) := by decide +kernel
theorem dL_law_894 : decode cL_law 894 = .ok (.istore 6, 2) := by decide +kernel
theorem dL_law_896 : decode cL_law 896 = .ok (.aload_n 2, 1) := by decide +kernel
theorem dL_law_897 : decode cL_law 897 = .ok (.invokevirtual 106, 3) := by decide +kernel
theorem dL_law_900 : decode cL_law 900 = .ok (.iload 5, 2) := by decide +kernel
theorem dL_law_902 : decode cL_law 902 = .ok (.if_icmp .eq 5, 3) := by decide +kernel
theorem dL_law_905 : decode cL_law 905 = .ok (.iconst 0, 1) := by decide +kernel
theorem dL_law_906 : decode cL_law 906 = .ok (.ireturn, 1) := by decide +kernel
theorem dL_law_907 : decode cL_law 907 = .ok (.iload 5, 2) := by decide +kernel
theorem dL_law_909 : decode cL_law 909 = .ok (.ifCond .ne 15, 3) := by decide +kernel
theorem dL_law_912 : decode cL_law 912 = .ok (.aload_n 3, 1) := by decide +kernel
theorem dL_law_913 : decode cL_law 913 = .ok (.iconst 0, 1) := by decide +kernel
theorem dL_law_914 : decode cL_law 914 = .ok (.laload, 1) := by decide +kernel
theorem dL_law_915 : decode cL_law 915 = .ok (.iload 6, 2) := by decide +kernel
theorem dL_law_917 : decode cL_law 917 = .ok (.i2l, 1) := by decide +kernel
theorem dL_law_918 : decode cL_law 918 = .ok (.lcmp, 1) := by decide +kernel
theorem dL_law_919 : decode cL_law 919 = .ok (.ifCond .eq 5, 3) := by decide +kernel
theorem dL_law_922 : decode cL_law 922 = .ok (.iconst 0, 1) := by decide +kernel
theorem dL_law_923 : decode cL_law 923 = .ok (.ireturn, 1) := by decide +kernel
theorem dL_law_924 : decode cL_law 924 = .ok (.goto 1024, 3) := by decide +kernel
theorem dL_law_927 : decode cL_law 927 = .ok (.aload_n 1, 1) := by decide +kernel
theorem dL_law_928 : decode cL_law 928 = .ok (.aload_n 0, 1) := by decide +kernel
theorem dL_law_929 : decode cL_law 929 = .ok (.iload 4, 2) := by decide +kernel
theorem dL_law_931 : decode cL_law 931 = .ok (.iconst 1, 1) := by decide +kernel
theorem dL_law_932 : decode cL_law 932 = .ok (.iadd, 1) := by decide +kernel
theorem dL_law_933 : decode cL_law 933 = .ok (.iaload, 1) := by decide +kernel
theorem dL_law_934 : decode cL_law 934 = .ok (.aload_n 3, 1) := by decide +kernel
theorem dL_law_935 : decode cL_law 935 = .ok (.invokestatic 174, 3) := by decide +kernel
theorem dL_law_938 : decode cL_law 938 = .ok (.istore 5, 2) := by decide +kernel
theorem dL_law_940 : decode cL_law 940 = .ok (.aload_n 2, 1) := by decide +kernel
theorem dL_law_941 : decode cL_law 941 = .ok (.aload_n 0, 1) := by decide +kernel
theorem dL_law_942 : decode cL_law 942 = .ok (.iload 4, 2) := by decide +kernel
theorem dL_law_944 : decode cL_law 944 = .ok (.iconst 1, 1) := by decide +kernel
theorem dL_law_945 : decode cL_law 945 = .ok (.iadd, 1) := by decide +kernel
theorem dL_law_946 : decode cL_law 946 = .ok (.iaload, 1) := by decide +kernel
theorem dL_law_947 : decode cL_law 947 = .ok (.invokevirtual 176, 3) := by decide +kernel
theorem dL_law_950 : decode cL_law 950 = .ok (.istore 6, 2) := by decide +kernel
theorem dL_law_952 : decode cL_law 952 = .ok (.aload_n 2, 1) := by decide +kernel
theorem dL_law_953 : decode cL_law 953 = .ok (.invokevirtual 106, 3) := by decide +kernel
theorem dL_law_956 : decode cL_law 956 = .ok (.iload 5, 2) := by decide +kernel
theorem dL_law_958 : decode cL_law 958 = .ok (.if_icmp .eq 5, 3) := by decide +kernel
theorem dL_law_961 : decode cL_law 961 = .ok (.iconst 0, 1) := by decide +kernel
theorem dL_law_962 : decode cL_law 962 = .ok (.ireturn, 1) := by decide +kernel
theorem dL_law_963 : decode cL_law 963 = .ok (.iload 5, 2) := by decide +kernel
theorem dL_law_965 : decode cL_law 965 = .ok (.ifCond .ne 15, 3) := by decide +kernel
theorem dL_law_968 : decode cL_law 968 = .ok (.aload_n 3, 1) := by decide +kernel
theorem dL_law_969 : decode cL_law 969 = .ok (.iconst 0, 1) := by decide +kernel
theorem dL_law_970 : decode cL_law 970 = .ok (.laload, 1) := by decide +kernel
theorem dL_law_971 : decode cL_law 971 = .ok (.iload 6, 2) := by decide +kernel
theorem dL_law_973 : decode cL_law 973 = .ok (.i2l, 1) := by decide +kernel
theorem dL_law_974 : decode cL_law 974 = .ok (.lcmp, 1) := by decide +kernel
theorem dL_law_975 : decode cL_law 975 = .ok (.ifCond .eq 5, 3) := by decide +kernel
theorem dL_law_978 : decode cL_law 978 = .ok (.iconst 0, 1) := by decide +kernel
theorem dL_law_979 : decode cL_law 979 = .ok (.ireturn, 1) := by decide +kernel
theorem dL_law_980 : decode cL_law 980 = .ok (.goto 968, 3) := by decide +kernel
theorem dL_law_983 : decode cL_law 983 = .ok (.aload_n 1, 1) := by decide +kernel
theorem dL_law_984 : decode cL_law 984 = .ok (.aload_n 0, 1) := by decide +kernel
theorem dL_law_985 : decode cL_law 985 = .ok (.iload 4, 2) := by decide +kernel
theorem dL_law_987 : decode cL_law 987 = .ok (.iconst 1, 1) := by decide +kernel
theorem dL_law_988 : decode cL_law 988 = .ok (.iadd, 1) := by decide +kernel
theorem dL_law_989 : decode cL_law 989 = .ok (.iaload, 1) := by decide +kernel
theorem dL_law_990 : decode cL_law 990 = .ok (.aload_n 3, 1) := by decide +kernel
theorem dL_law_991 : decode cL_law 991 = .ok (.invokestatic 177, 3) := by decide +kernel
theorem dL_law_994 : decode cL_law 994 = .ok (.istore 5, 2) := by decide +kernel
theorem dL_law_996 : decode cL_law 996 = .ok (.aload_n 2, 1) := by decide +kernel
theorem dL_law_997 : decode cL_law 997 = .ok (.aload_n 0, 1) := by decide +kernel
theorem dL_law_998 : decode cL_law 998 = .ok (.iload 4, 2) := by decide +kernel
theorem dL_law_1000 : decode cL_law 1000 = .ok (.iconst 1, 1) := by decide +kernel
theorem dL_law_1001 : decode cL_law 1001 = .ok (.iadd, 1) := by decide +kernel
theorem dL_law_1002 : decode cL_law 1002 = .ok (.iaload, 1) := by decide +kernel
theorem dL_law_1003 : decode cL_law 1003 = .ok (.invokevirtual 179, 3) := by decide +kernel
theorem dL_law_1006 : decode cL_law 1006 = .ok (.istore 6, 2) := by decide +kernel
theorem dL_law_1008 : decode cL_law 1008 = .ok (.aload_n 2, 1) := by decide +kernel
theorem dL_law_1009 : decode cL_law 1009 = .ok (.invokevirtual 106, 3) := by decide +kernel
theorem dL_law_1012 : decode cL_law 1012 = .ok (.iload 5, 2) := by decide +kernel
theorem dL_law_1014 : decode cL_law 1014 = .ok (.if_icmp .eq 5, 3) := by decide +kernel
theorem dL_law_1017 : decode cL_law 1017 = .ok (.iconst 0, 1) := by decide +kernel
theorem dL_law_1018 : decode cL_law 1018 = .ok (.ireturn, 1) := by decide +kernel
theorem dL_law_1019 : decode cL_law 1019 = .ok (.iload 5, 2) := by decide +kernel
theorem dL_law_1021 : decode cL_law 1021 = .ok (.ifCond .ne 15, 3) := by decide +kernel
theorem dL_law_1024 : decode cL_law 1024 = .ok (.aload_n 3, 1) := by decide +kernel
theorem dL_law_1025 : decode cL_law 1025 = .ok (.iconst 0, 1) := by decide +kernel
theorem dL_law_1026 : decode cL_law 1026 = .ok (.laload, 1) := by decide +kernel
theorem dL_law_1027 : decode cL_law 1027 = .ok (.iload 6, 2) := by decide +kernel
theorem dL_law_1029 : decode cL_law 1029 = .ok (.i2l, 1) := by decide +kernel
theorem dL_law_1030 : decode cL_law 1030 = .ok (.lcmp, 1) := by decide +kernel
theorem dL_law_1031 : decode cL_law 1031 = .ok (.ifCond .eq 5, 3) := by decide +kernel
theorem dL_law_1034 : decode cL_law 1034 = .ok (.iconst 0, 1) := by decide +kernel
theorem dL_law_1035 : decode cL_law 1035 = .ok (.ireturn, 1) := by decide +kernel
theorem dL_law_1036 : decode cL_law 1036 = .ok (.goto 912, 3) := by decide +kernel
theorem dL_law_1039 : decode cL_law 1039 = .ok (.aload_n 1, 1) := by decide +kernel
theorem dL_law_1040 : decode cL_law 1040 = .ok (.aload_n 0, 1) := by decide +kernel
theorem dL_law_1041 : decode cL_law 1041 = .ok (.iload 4, 2) := by decide +kernel
theorem dL_law_1043 : decode cL_law 1043 = .ok (.iconst 1, 1) := by decide +kernel
theorem dL_law_1044 : decode cL_law 1044 = .ok (.iadd, 1) := by decide +kernel
theorem dL_law_1045 : decode cL_law 1045 = .ok (.iaload, 1) := by decide +kernel
theorem dL_law_1046 : decode cL_law 1046 = .ok (.aload_n 3, 1) := by decide +kernel
theorem dL_law_1047 : decode cL_law 1047 = .ok (.invokestatic 180, 3) := by decide +kernel
theorem dL_law_1050 : decode cL_law 1050 = .ok (.istore 5, 2) := by decide +kernel
theorem dL_law_1052 : decode cL_law 1052 = .ok (.aload_n 2, 1) := by decide +kernel
theorem dL_law_1053 : decode cL_law 1053 = .ok (.aload_n 0, 1) := by decide +kernel
theorem dL_law_1054 : decode cL_law 1054 = .ok (.iload 4, 2) := by decide +kernel
theorem dL_law_1056 : decode cL_law 1056 = .ok (.iconst 1, 1) := by decide +kernel
theorem dL_law_1057 : decode cL_law 1057 = .ok (.iadd, 1) := by decide +kernel
theorem dL_law_1058 : decode cL_law 1058 = .ok (.iaload, 1) := by decide +kernel
theorem dL_law_1059 : decode cL_law 1059 = .ok (.invokevirtual 182, 3) := by decide +kernel
theorem dL_law_1062 : decode cL_law 1062 = .ok (.istore 6, 2) := by decide +kernel
theorem dL_law_1064 : decode cL_law 1064 = .ok (.aload_n 2, 1) := by decide +kernel
theorem dL_law_1065 : decode cL_law 1065 = .ok (.invokevirtual 106, 3) := by decide +kernel
theorem dL_law_1068 : decode cL_law 1068 = .ok (.iload 5, 2) := by decide +kernel
theorem dL_law_1070 : decode cL_law 1070 = .ok (.if_icmp .eq 5, 3) := by decide +kernel
theorem dL_law_1073 : decode cL_law 1073 = .ok (.iconst 0, 1) := by decide +kernel
theorem dL_law_1074 : decode cL_law 1074 = .ok (.ireturn, 1) := by decide +kernel
theorem dL_law_1075 : decode cL_law 1075 = .ok (.iload 5, 2) := by decide +kernel
theorem dL_law_1077 : decode cL_law 1077 = .ok (.ifCond .ne 15, 3) := by decide +kernel
theorem dL_law_1080 : decode cL_law 1080 = .ok (.aload_n 3, 1) := by decide +kernel
theorem dL_law_1081 : decode cL_law 1081 = .ok (.iconst 0, 1) := by decide +kernel
theorem dL_law_1082 : decode cL_law 1082 = .ok (.laload, 1) := by decide +kernel
theorem dL_law_1083 : decode cL_law 1083 = .ok (.iload 6, 2) := by decide +kernel
theorem dL_law_1085 : decode cL_law 1085 = .ok (.i2l, 1) := by decide +kernel
theorem dL_law_1086 : decode cL_law 1086 = .ok (.lcmp, 1) := by decide +kernel
theorem dL_law_1087 : decode cL_law 1087 = .ok (.ifCond .eq 5, 3) := by decide +kernel
theorem dL_law_1090 : decode cL_law 1090 = .ok (.iconst 0, 1) := by decide +kernel
theorem dL_law_1091 : decode cL_law 1091 = .ok (.ireturn, 1) := by decide +kernel
theorem dL_law_1092 : decode cL_law 1092 = .ok (.goto 856, 3) := by decide +kernel
theorem dL_law_1095 : decode cL_law 1095 = .ok (.aload_n 1, 1) := by decide +kernel
theorem dL_law_1096 : decode cL_law 1096 = .ok (.aload_n 0, 1) := by decide +kernel
theorem dL_law_1097 : decode cL_law 1097 = .ok (.iload 4, 2) := by decide +kernel
theorem dL_law_1099 : decode cL_law 1099 = .ok (.iconst 1, 1) := by decide +kernel
theorem dL_law_1100 : decode cL_law 1100 = .ok (.iadd, 1) := by decide +kernel
theorem dL_law_1101 : decode cL_law 1101 = .ok (.iaload, 1) := by decide +kernel
theorem dL_law_1102 : decode cL_law 1102 = .ok (.aload_n 3, 1) := by decide +kernel
theorem dL_law_1103 : decode cL_law 1103 = .ok (.invokestatic 183, 3) := by decide +kernel
theorem dL_law_1106 : decode cL_law 1106 = .ok (.istore 5, 2) := by decide +kernel
theorem dL_law_1108 : decode cL_law 1108 = .ok (.aload_n 2, 1) := by decide +kernel
theorem dL_law_1109 : decode cL_law 1109 = .ok (.aload_n 0, 1) := by decide +kernel
theorem dL_law_1110 : decode cL_law 1110 = .ok (.iload 4, 2) := by decide +kernel
theorem dL_law_1112 : decode cL_law 1112 = .ok (.iconst 1, 1) := by decide +kernel
theorem dL_law_1113 : decode cL_law 1113 = .ok (.iadd, 1) := by decide +kernel
theorem dL_law_1114 : decode cL_law 1114 = .ok (.iaload, 1) := by decide +kernel
theorem dL_law_1115 : decode cL_law 1115 = .ok (.invokevirtual 185, 3) := by decide +kernel
theorem dL_law_1118 : decode cL_law 1118 = .ok (.istore 6, 2) := by decide +kernel
theorem dL_law_1120 : decode cL_law 1120 = .ok (.aload_n 2, 1) := by decide +kernel
theorem dL_law_1121 : decode cL_law 1121 = .ok (.invokevirtual 106, 3) := by decide +kernel
theorem dL_law_1124 : decode cL_law 1124 = .ok (.iload 5, 2) := by decide +kernel
theorem dL_law_1126 : decode cL_law 1126 = .ok (.if_icmp .eq 5, 3) := by decide +kernel
theorem dL_law_1129 : decode cL_law 1129 = .ok (.iconst 0, 1) := by decide +kernel
theorem dL_law_1130 : decode cL_law 1130 = .ok (.ireturn, 1) := by decide +kernel
theorem dL_law_1131 : decode cL_law 1131 = .ok (.iload 5, 2) := by decide +kernel
theorem dL_law_1133 : decode cL_law 1133 = .ok (.ifCond .ne 15, 3) := by decide +kernel
theorem dL_law_1136 : decode cL_law 1136 = .ok (.aload_n 3, 1) := by decide +kernel
theorem dL_law_1137 : decode cL_law 1137 = .ok (.iconst 0, 1) := by decide +kernel
theorem dL_law_1138 : decode cL_law 1138 = .ok (.laload, 1) := by decide +kernel
theorem dL_law_1139 : decode cL_law 1139 = .ok (.iload 6, 2) := by decide +kernel
theorem dL_law_1141 : decode cL_law 1141 = .ok (.i2l, 1) := by decide +kernel
theorem dL_law_1142 : decode cL_law 1142 = .ok (.lcmp, 1) := by decide +kernel
end
section
/-! decode rows: the law -/
theorem dL_law_1143 : decode cL_law 1143 = .ok (.ifCond .eq 5, 3) := by decide +kernel
theorem dL_law_1146 : decode cL_law 1146 = .ok (.iconst 0, 1) := by decide +kernel
theorem dL_law_1147 : decode cL_law 1147 = .ok (.ireturn, 1) := by decide +kernel
theorem dL_law_1148 : decode cL_law 1148 = .ok (.goto 800, 3) := by decide +kernel
theorem dL_law_1151 : decode cL_law 1151 = .ok (.aload_n 1, 1) := by decide +kernel
theorem dL_law_1152 : decode cL_law 1152 = .ok (.aload_n 0, 1) := by decide +kernel
theorem dL_law_1153 : decode cL_law 1153 = .ok (.iload 4, 2) := by decide +kernel
theorem dL_law_1155 : decode cL_law 1155 = .ok (.iconst 1, 1) := by decide +kernel
theorem dL_law_1156 : decode cL_law 1156 = .ok (.iadd, 1) := by decide +kernel
theorem dL_law_1157 : decode cL_law 1157 = .ok (.iaload, 1) := by decide +kernel
theorem dL_law_1158 : decode cL_law 1158 = .ok (.aload_n 3, 1) := by decide +kernel
theorem dL_law_1159 : decode cL_law 1159 = .ok (.invokestatic 186, 3) := by decide +kernel
theorem dL_law_1162 : decode cL_law 1162 = .ok (.istore 5, 2) := by decide +kernel
theorem dL_law_1164 : decode cL_law 1164 = .ok (.aload_n 2, 1) := by decide +kernel
theorem dL_law_1165 : decode cL_law 1165 = .ok (.aload_n 0, 1) := by decide +kernel
theorem dL_law_1166 : decode cL_law 1166 = .ok (.iload 4, 2) := by decide +kernel
theorem dL_law_1168 : decode cL_law 1168 = .ok (.iconst 1, 1) := by decide +kernel
theorem dL_law_1169 : decode cL_law 1169 = .ok (.iadd, 1) := by decide +kernel
theorem dL_law_1170 : decode cL_law 1170 = .ok (.iaload, 1) := by decide +kernel
theorem dL_law_1171 : decode cL_law 1171 = .ok (.invokevirtual 188, 3) := by decide +kernel
theorem dL_law_1174 : decode cL_law 1174 = .ok (.istore 6, 2) := by decide +kernel
theorem dL_law_1176 : decode cL_law 1176 = .ok (.aload_n 2, 1) := by decide +kernel
theorem dL_law_1177 : decode cL_law 1177 = .ok (.invokevirtual 106, 3) := by decide +kernel
theorem dL_law_1180 : decode cL_law 1180 = .ok (.iload 5, 2) := by decide +kernel
theorem dL_law_1182 : decode cL_law 1182 = .ok (.if_icmp .eq 5, 3) := by decide +kernel
theorem dL_law_1185 : decode cL_law 1185 = .ok (.iconst 0, 1) := by decide +kernel
theorem dL_law_1186 : decode cL_law 1186 = .ok (.ireturn, 1) := by decide +kernel
theorem dL_law_1187 : decode cL_law 1187 = .ok (.iload 5, 2) := by decide +kernel
theorem dL_law_1189 : decode cL_law 1189 = .ok (.ifCond .ne 15, 3) := by decide +kernel
theorem dL_law_1192 : decode cL_law 1192 = .ok (.aload_n 3, 1) := by decide +kernel
theorem dL_law_1193 : decode cL_law 1193 = .ok (.iconst 0, 1) := by decide +kernel
theorem dL_law_1194 : decode cL_law 1194 = .ok (.laload, 1) := by decide +kernel
theorem dL_law_1195 : decode cL_law 1195 = .ok (.iload 6, 2) := by decide +kernel
theorem dL_law_1197 : decode cL_law 1197 = .ok (.i2l, 1) := by decide +kernel
theorem dL_law_1198 : decode cL_law 1198 = .ok (.lcmp, 1) := by decide +kernel
theorem dL_law_1199 : decode cL_law 1199 = .ok (.ifCond .eq 5, 3) := by decide +kernel
theorem dL_law_1202 : decode cL_law 1202 = .ok (.iconst 0, 1) := by decide +kernel
theorem dL_law_1203 : decode cL_law 1203 = .ok (.ireturn, 1) := by decide +kernel
theorem dL_law_1204 : decode cL_law 1204 = .ok (.goto 744, 3) := by decide +kernel
theorem dL_law_1207 : decode cL_law 1207 = .ok (.aload_n 1, 1) := by decide +kernel
theorem dL_law_1208 : decode cL_law 1208 = .ok (.aload_n 0, 1) := by decide +kernel
theorem dL_law_1209 : decode cL_law 1209 = .ok (.iload 4, 2) := by decide +kernel
theorem dL_law_1211 : decode cL_law 1211 = .ok (.iconst 1, 1) := by decide +kernel
theorem dL_law_1212 : decode cL_law 1212 = .ok (.iadd, 1) := by decide +kernel
theorem dL_law_1213 : decode cL_law 1213 = .ok (.iaload, 1) := by decide +kernel
theorem dL_law_1214 : decode cL_law 1214 = .ok (.aload_n 3, 1) := by decide +kernel
theorem dL_law_1215 : decode cL_law 1215 = .ok (.invokestatic 189, 3) := by decide +kernel
theorem dL_law_1218 : decode cL_law 1218 = .ok (.istore 5, 2) := by decide +kernel
theorem dL_law_1220 : decode cL_law 1220 = .ok (.aload_n 2, 1) := by decide +kernel
theorem dL_law_1221 : decode cL_law 1221 = .ok (.aload_n 0, 1) := by decide +kernel
theorem dL_law_1222 : decode cL_law 1222 = .ok (.iload 4, 2) := by decide +kernel
theorem dL_law_1224 : decode cL_law 1224 = .ok (.iconst 1, 1) := by decide +kernel
theorem dL_law_1225 : decode cL_law 1225 = .ok (.iadd, 1) := by decide +kernel
theorem dL_law_1226 : decode cL_law 1226 = .ok (.iaload, 1) := by decide +kernel
theorem dL_law_1227 : decode cL_law 1227 = .ok (.invokevirtual 191, 3) := by decide +kernel
theorem dL_law_1230 : decode cL_law 1230 = .ok (.istore 6, 2) := by decide +kernel
theorem dL_law_1232 : decode cL_law 1232 = .ok (.aload_n 2, 1) := by decide +kernel
theorem dL_law_1233 : decode cL_law 1233 = .ok (.invokevirtual 106, 3) := by decide +kernel
theorem dL_law_1236 : decode cL_law 1236 = .ok (.iload 5, 2) := by decide +kernel
theorem dL_law_1238 : decode cL_law 1238 = .ok (.if_icmp .eq 5, 3) := by decide +kernel
theorem dL_law_1241 : decode cL_law 1241 = .ok (.iconst 0, 1) := by decide +kernel
theorem dL_law_1242 : decode cL_law 1242 = .ok (.ireturn, 1) := by decide +kernel
theorem dL_law_1243 : decode cL_law 1243 = .ok (.iload 5, 2) := by decide +kernel
theorem dL_law_1245 : decode cL_law 1245 = .ok (.ifCond .ne 15, 3) := by decide +kernel
theorem dL_law_1248 : decode cL_law 1248 = .ok (.aload_n 3, 1) := by decide +kernel
theorem dL_law_1249 : decode cL_law 1249 = .ok (.iconst 0, 1) := by decide +kernel
theorem dL_law_1250 : decode cL_law 1250 = .ok (.laload, 1) := by decide +kernel
theorem dL_law_1251 : decode cL_law 1251 = .ok (.iload 6, 2) := by decide +kernel
theorem dL_law_1253 : decode cL_law 1253 = .ok (.i2l, 1) := by decide +kernel
theorem dL_law_1254 : decode cL_law 1254 = .ok (.lcmp, 1) := by decide +kernel
theorem dL_law_1255 : decode cL_law 1255 = .ok (.ifCond .eq 5, 3) := by decide +kernel
theorem dL_law_1258 : decode cL_law 1258 = .ok (.iconst 0, 1) := by decide +kernel
theorem dL_law_1259 : decode cL_law 1259 = .ok (.ireturn, 1) := by decide +kernel
theorem dL_law_1260 : decode cL_law 1260 = .ok (.goto 688, 3) := by decide +kernel
theorem dL_law_1263 : decode cL_law 1263 = .ok (.aload_n 1, 1) := by decide +kernel
theorem dL_law_1264 : decode cL_law 1264 = .ok (.aload_n 0, 1) := by decide +kernel
theorem dL_law_1265 : decode cL_law 1265 = .ok (.iload 4, 2) := by decide +kernel
theorem dL_law_1267 : decode cL_law 1267 = .ok (.iconst 1, 1) := by decide +kernel
theorem dL_law_1268 : decode cL_law 1268 = .ok (.iadd, 1) := by decide +kernel
theorem dL_law_1269 : decode cL_law 1269 = .ok (.iaload, 1) := by decide +kernel
theorem dL_law_1270 : decode cL_law 1270 = .ok (.aload_n 3, 1) := by decide +kernel
theorem dL_law_1271 : decode cL_law 1271 = .ok (.invokestatic 192, 3) := by decide +kernel
theorem dL_law_1274 : decode cL_law 1274 = .ok (.istore 5, 2) := by decide +kernel
theorem dL_law_1276 : decode cL_law 1276 = .ok (.aload_n 2, 1) := by decide +kernel
theorem dL_law_1277 : decode cL_law 1277 = .ok (.aload_n 0, 1) := by decide +kernel
theorem dL_law_1278 : decode cL_law 1278 = .ok (.iload 4, 2) := by decide +kernel
theorem dL_law_1280 : decode cL_law 1280 = .ok (.iconst 1, 1) := by decide +kernel
theorem dL_law_1281 : decode cL_law 1281 = .ok (.iadd, 1) := by decide +kernel
theorem dL_law_1282 : decode cL_law 1282 = .ok (.iaload, 1) := by decide +kernel
theorem dL_law_1283 : decode cL_law 1283 = .ok (.invokevirtual 194, 3) := by decide +kernel
theorem dL_law_1286 : decode cL_law 1286 = .ok (.istore 6, 2) := by decide +kernel
theorem dL_law_1288 : decode cL_law 1288 = .ok (.aload_n 2, 1) := by decide +kernel
theorem dL_law_1289 : decode cL_law 1289 = .ok (.invokevirtual 106, 3) := by decide +kernel
theorem dL_law_1292 : decode cL_law 1292 = .ok (.iload 5, 2) := by decide +kernel
theorem dL_law_1294 : decode cL_law 1294 = .ok (.if_icmp .eq 5, 3) := by decide +kernel
theorem dL_law_1297 : decode cL_law 1297 = .ok (.iconst 0, 1) := by decide +kernel
theorem dL_law_1298 : decode cL_law 1298 = .ok (.ireturn, 1) := by decide +kernel
theorem dL_law_1299 : decode cL_law 1299 = .ok (.iload 5, 2) := by decide +kernel
theorem dL_law_1301 : decode cL_law 1301 = .ok (.ifCond .ne 15, 3) := by decide +kernel
theorem dL_law_1304 : decode cL_law 1304 = .ok (.aload_n 3, 1) := by decide +kernel
theorem dL_law_1305 : decode cL_law 1305 = .ok (.iconst 0, 1) := by decide +kernel
theorem dL_law_1306 : decode cL_law 1306 = .ok (.laload, 1) := by decide +kernel
theorem dL_law_1307 : decode cL_law 1307 = .ok (.iload 6, 2) := by decide +kernel
theorem dL_law_1309 : decode cL_law 1309 = .ok (.i2l, 1) := by decide +kernel
theorem dL_law_1310 : decode cL_law 1310 = .ok (.lcmp, 1) := by decide +kernel
theorem dL_law_1311 : decode cL_law 1311 = .ok (.ifCond .eq 5, 3) := by decide +kernel
theorem dL_law_1314 : decode cL_law 1314 = .ok (.iconst 0, 1) := by decide +kernel
theorem dL_law_1315 : decode cL_law 1315 = .ok (.ireturn, 1) := by decide +kernel
theorem dL_law_1316 : decode cL_law 1316 = .ok (.goto 632, 3) := by decide +kernel
theorem dL_law_1319 : decode cL_law 1319 = .ok (.aload_n 1, 1) := by decide +kernel
theorem dL_law_1320 : decode cL_law 1320 = .ok (.aload_n 0, 1) := by decide +kernel
theorem dL_law_1321 : decode cL_law 1321 = .ok (.iload 4, 2) := by decide +kernel
theorem dL_law_1323 : decode cL_law 1323 = .ok (.iconst 1, 1) := by decide +kernel
theorem dL_law_1324 : decode cL_law 1324 = .ok (.iadd, 1) := by decide +kernel
theorem dL_law_1325 : decode cL_law 1325 = .ok (.iaload, 1) := by decide +kernel
theorem dL_law_1326 : decode cL_law 1326 = .ok (.aload_n 3, 1) := by decide +kernel
theorem dL_law_1327 : decode cL_law 1327 = .ok (.invokestatic 195, 3) := by decide +kernel
theorem dL_law_1330 : decode cL_law 1330 = .ok (.istore 5, 2) := by decide +kernel
theorem dL_law_1332 : decode cL_law 1332 = .ok (.aload_n 2, 1) := by decide +kernel
theorem dL_law_1333 : decode cL_law 1333 = .ok (.aload_n 0, 1) := by decide +kernel
theorem dL_law_1334 : decode cL_law 1334 = .ok (.iload 4, 2) := by decide +kernel
theorem dL_law_1336 : decode cL_law 1336 = .ok (.iconst 1, 1) := by decide +kernel
theorem dL_law_1337 : decode cL_law 1337 = .ok (.iadd, 1) := by decide +kernel
theorem dL_law_1338 : decode cL_law 1338 = .ok (.iaload, 1) := by decide +kernel
theorem dL_law_1339 : decode cL_law 1339 = .ok (.invokevirtual 197, 3) := by decide +kernel
theorem dL_law_1342 : decode cL_law 1342 = .ok (.istore 6, 2) := by decide +kernel
theorem dL_law_1344 : decode cL_law 1344 = .ok (.aload_n 2, 1) := by decide +kernel
theorem dL_law_1345 : decode cL_law 1345 = .ok (.invokevirtual 106, 3) := by decide +kernel
theorem dL_law_1348 : decode cL_law 1348 = .ok (.iload 5, 2) := by decide +kernel
theorem dL_law_1350 : decode cL_law 1350 = .ok (.if_icmp .eq 5, 3) := by decide +kernel
theorem dL_law_1353 : decode cL_law 1353 = .ok (.iconst 0, 1) := by decide +kernel
theorem dL_law_1354 : decode cL_law 1354 = .ok (.ireturn, 1) := by decide +kernel
theorem dL_law_1355 : decode cL_law 1355 = .ok (.iload 5, 2) := by decide +kernel
theorem dL_law_1357 : decode cL_law 1357 = .ok (.ifCond .ne 15, 3) := by decide +kernel
theorem dL_law_1360 : decode cL_law 1360 = .ok (.aload_n 3, 1) := by decide +kernel
theorem dL_law_1361 : decode cL_law 1361 = .ok (.iconst 0, 1) := by decide +kernel
theorem dL_law_1362 : decode cL_law 1362 = .ok (.laload, 1) := by decide +kernel
theorem dL_law_1363 : decode cL_law 1363 = .ok (.iload 6, 2) := by decide +kernel
theorem dL_law_1365 : decode cL_law 1365 = .ok (.i2l, 1) := by decide +kernel
theorem dL_law_1366 : decode cL_law 1366 = .ok (.lcmp, 1) := by decide +kernel
theorem dL_law_1367 : decode cL_law 1367 = .ok (.ifCond .eq 5, 3) := by decide +kernel
theorem dL_law_1370 : decode cL_law 1370 = .ok (.iconst 0, 1) := by decide +kernel
theorem dL_law_1371 : decode cL_law 1371 = .ok (.ireturn, 1) := by decide +kernel
theorem dL_law_1372 : decode cL_law 1372 = .ok (.goto 576, 3) := by decide +kernel
theorem dL_law_1375 : decode cL_law 1375 = .ok (.aload_n 1, 1) := by decide +kernel
theorem dL_law_1376 : decode cL_law 1376 = .ok (.aload_n 0, 1) := by decide +kernel
theorem dL_law_1377 : decode cL_law 1377 = .ok (.iload 4, 2) := by decide +kernel
theorem dL_law_1379 : decode cL_law 1379 = .ok (.iconst 1, 1) := by decide +kernel
theorem dL_law_1380 : decode cL_law 1380 = .ok (.iadd, 1) := by decide +kernel
theorem dL_law_1381 : decode cL_law 1381 = .ok (.iaload, 1) := by decide +kernel
theorem dL_law_1382 : decode cL_law 1382 = .ok (.aload_n 3, 1) := by decide +kernel
theorem dL_law_1383 : decode cL_law 1383 = .ok (.invokestatic 198, 3) := by decide +kernel
theorem dL_law_1386 : decode cL_law 1386 = .ok (.istore 5, 2) := by decide +kernel
theorem dL_law_1388 : decode cL_law 1388 = .ok (.aload_n 2, 1) := by decide +kernel
theorem dL_law_1389 : decode cL_law 1389 = .ok (.aload_n 0, 1) := by decide +kernel
theorem dL_law_1390 : decode cL_law 1390 = .ok (.iload 4, 2) := by decide +kernel
theorem dL_law_1392 : decode cL_law 1392 = .ok (.iconst 1, 1) := by decide +kernel
theorem dL_law_1393 : decode cL_law 1393 = .ok (.iadd, 1) := by decide +kernel
theorem dL_law_1394 : decode cL_law 1394 = .ok (.iaload, 1) := by decide +kernel
theorem dL_law_1395 : decode cL_law 1395 = .ok (.invokevirtual 200, 3) := by decide +kernel
theorem dL_law_1398 : decode cL_law 1398 = .ok (.istore 6, 2) := by decide +kernel
theorem dL_law_1400 : decode cL_law 1400 = .ok (.aload_n 2, 1) := by decide +kernel
theorem dL_law_1401 : decode cL_law 1401 = .ok (.invokevirtual 106, 3) := by decide +kernel
theorem dL_law_1404 : decode cL_law 1404 = .ok (.iload 5, 2) := by decide +kernel
theorem dL_law_1406 : decode cL_law 1406 = .ok (.if_icmp .eq 5, 3) := by decide +kernel
theorem dL_law_1409 : decode cL_law 1409 = .ok (.iconst 0, 1) := by decide +kernel
theorem dL_law_1410 : decode cL_law 1410 = .ok (.ireturn, 1) := by decide +kernel
theorem dL_law_1411 : decode cL_law 1411 = .ok (.iload 5, 2) := by decide +kernel
theorem dL_law_1413 : decode cL_law 1413 = .ok (.ifCond .ne 22, 3) := by decide +kernel
theorem dL_law_1416 : decode cL_law 1416 = .ok (.aload_n 3, 1) := by decide +kernel
theorem dL_law_1417 : decode cL_law 1417 = .ok (.iconst 0, 1) := by decide +kernel
theorem dL_law_1418 : decode cL_law 1418 = .ok (.laload, 1) := by decide +kernel
theorem dL_law_1419 : decode cL_law 1419 = .ok (.iload 6, 2) := by decide +kernel
theorem dL_law_1421 : decode cL_law 1421 = .ok (.ifCond .eq 7, 3) := by decide +kernel
theorem dL_law_1424 : decode cL_law 1424 = .ok (.lconst 1, 1) := by decide +kernel
theorem dL_law_1425 : decode cL_law 1425 = .ok (.goto 4, 3) := by decide +kernel
theorem dL_law_1428 : decode cL_law 1428 = .ok (.lconst 0, 1) := by decide +kernel
theorem dL_law_1429 : decode cL_law 1429 = .ok (.lcmp, 1) := by decide +kernel
theorem dL_law_1430 : decode cL_law 1430 = .ok (.ifCond .eq 5, 3) := by decide +kernel
theorem dL_law_1433 : decode cL_law 1433 = .ok (.iconst 0, 1) := by decide +kernel
theorem dL_law_1434 : decode cL_law 1434 = .ok (.ireturn, 1) := by decide +kernel
theorem dL_law_1435 : decode cL_law 1435 = .ok (.goto 513, 3) := by decide +kernel
theorem dL_law_1438 : decode cL_law 1438 = .ok (.aload_n 1, 1) := by decide +kernel
theorem dL_law_1439 : decode cL_law 1439 = .ok (.aload_n 0, 1) := by decide +kernel
theorem dL_law_1440 : decode cL_law 1440 = .ok (.iload 4, 2) := by decide +kernel
theorem dL_law_1442 : decode cL_law 1442 = .ok (.iconst 1, 1) := by decide +kernel
theorem dL_law_1443 : decode cL_law 1443 = .ok (.iadd, 1) := by decide +kernel
theorem dL_law_1444 : decode cL_law 1444 = .ok (.iaload, 1) := by decide +kernel
theorem dL_law_1445 : decode cL_law 1445 = .ok (.aload_n 0, 1) := by decide +kernel
theorem dL_law_1446 : decode cL_law 1446 = .ok (.iload 4, 2) := by decide +kernel
theorem dL_law_1448 : decode cL_law 1448 = .ok (.iconst 2, 1) := by decide +kernel
theorem dL_law_1449 : decode cL_law 1449 = .ok (.iadd, 1) := by decide +kernel
theorem dL_law_1450 : decode cL_law 1450 = .ok (.iaload, 1) := by decide +kernel
theorem dL_law_1451 : decode cL_law 1451 = .ok (.aload_n 3, 1) := by decide +kernel
theorem dL_law_1452 : decode cL_law 1452 = .ok (.invokestatic 201, 3) := by decide +kernel
theorem dL_law_1455 : decode cL_law 1455 = .ok (.istore 5, 2) := by decide +kernel
theorem dL_law_1457 : decode cL_law 1457 = .ok (.aload_n 2, 1) := by decide +kernel
theorem dL_law_1458 : decode cL_law 1458 = .ok (.aload_n 0, 1) := by decide +kernel
theorem dL_law_1459 : decode cL_law 1459 = .ok (.iload 4, 2) := by decide +kernel
theorem dL_law_1461 : decode cL_law 1461 = .ok (.iconst 1, 1) := by decide +kernel
theorem dL_law_1462 : decode cL_law 1462 = .ok (.iadd, 1) := by decide +kernel
theorem dL_law_1463 : decode cL_law 1463 = .ok (.iaload, 1) := by decide +kernel
theorem dL_law_1464 : decode cL_law 1464 = .ok (.aload_n 0, 1) := by decide +kernel
theorem dL_law_1465 : decode cL_law 1465 = .ok (.iload 4, 2) := by decide +kernel
theorem dL_law_1467 : decode cL_law 1467 = .ok (.iconst 2, 1) := by decide +kernel
theorem dL_law_1468 : decode cL_law 1468 = .ok (.iadd, 1) := by decide +kernel
theorem dL_law_1469 : decode cL_law 1469 = .ok (.iaload, 1) := by decide +kernel
theorem dL_law_1470 : decode cL_law 1470 = .ok (.invokevirtual 203, 3) := by decide +kernel
theorem dL_law_1473 : decode cL_law 1473 = .ok (.istore 6, 2) := by decide +kernel
theorem dL_law_1475 : decode cL_law 1475 = .ok (.aload_n 2, 1) := by decide +kernel
theorem dL_law_1476 : decode cL_law 1476 = .ok (.invokevirtual 106, 3) := by decide +kernel
theorem dL_law_1479 : decode cL_law 1479 = .ok (.iload 5, 2) := by decide +kernel
theorem dL_law_1481 : decode cL_law 1481 = .ok (.if_icmp .eq 5, 3) := by decide +kernel
theorem dL_law_1484 : decode cL_law 1484 = .ok (.iconst 0, 1) := by decide +kernel
theorem dL_law_1485 : decode cL_law 1485 = .ok (.ireturn, 1) := by decide +kernel
theorem dL_law_1486 : decode cL_law 1486 = .ok (.iload 5, 2) := by decide +kernel
theorem dL_law_1488 : decode cL_law 1488 = .ok (.ifCond .ne 15, 3) := by decide +kernel
theorem dL_law_1491 : decode cL_law 1491 = .ok (.aload_n 3, 1) := by decide +kernel
theorem dL_law_1492 : decode cL_law 1492 = .ok (.iconst 0, 1) := by decide +kernel
theorem dL_law_1493 : decode cL_law 1493 = .ok (.laload, 1) := by decide +kernel
theorem dL_law_1494 : decode cL_law 1494 = .ok (.iload 6, 2) := by decide +kernel
theorem dL_law_1496 : decode cL_law 1496 = .ok (.i2l, 1) := by decide +kernel
theorem dL_law_1497 : decode cL_law 1497 = .ok (.lcmp, 1) := by decide +kernel
theorem dL_law_1498 : decode cL_law 1498 = .ok (.ifCond .eq 5, 3) := by decide +kernel
theorem dL_law_1501 : decode cL_law 1501 = .ok (.iconst 0, 1) := by decide +kernel
theorem dL_law_1502 : decode cL_law 1502 = .ok (.ireturn, 1) := by decide +kernel
theorem dL_law_1503 : decode cL_law 1503 = .ok (.goto 445, 3) := by decide +kernel
theorem dL_law_1506 : decode cL_law 1506 = .ok (.aload_n 1, 1) := by decide +kernel
theorem dL_law_1507 : decode cL_law 1507 = .ok (.aload_n 0, 1) := by decide +kernel
theorem dL_law_1508 : decode cL_law 1508 = .ok (.iload 4, 2) := by decide +kernel
theorem dL_law_1510 : decode cL_law 1510 = .ok (.iconst 1, 1) := by decide +kernel
theorem dL_law_1511 : decode cL_law 1511 = .ok (.iadd, 1) := by decide +kernel
theorem dL_law_1512 : decode cL_law 1512 = .ok (.iaload, 1) := by decide +kernel
theorem dL_law_1513 : decode cL_law 1513 = .ok (.aload_n 3, 1) := by decide +kernel
theorem dL_law_1514 : decode cL_law 1514 = .ok (.invokestatic 204, 3) := by decide +kernel
theorem dL_law_1517 : decode cL_law 1517 = .ok (.istore 5, 2) := by decide +kernel
theorem dL_law_1519 : decode cL_law 1519 = .ok (.aload_n 2, 1) := by decide +kernel
theorem dL_law_1520 : decode cL_law 1520 = .ok (.aload_n 0, 1) := by decide +kernel
theorem dL_law_1521 : decode cL_law 1521 = .ok (.iload 4, 2) := by decide +kernel
theorem dL_law_1523 : decode cL_law 1523 = .ok (.iconst 1, 1) := by decide +kernel
theorem dL_law_1524 : decode cL_law 1524 = .ok (.iadd, 1) := by decide +kernel
theorem dL_law_1525 : decode cL_law 1525 = .ok (.iaload, 1) := by decide +kernel
theorem dL_law_1526 : decode cL_law 1526 = .ok (.invokevirtual 206, 3) := by decide +kernel
theorem dL_law_1529 : decode cL_law 1529 = .ok (.istore 6, 2) := by decide +kernel
theorem dL_law_1531 : decode cL_law 1531 = .ok (.aload_n 2, 1) := by decide +kernel
theorem dL_law_1532 : decode cL_law 1532 = .ok (.invokevirtual 106, 3) := by decide +kernel
theorem dL_law_1535 : decode cL_law 1535 = .ok (.iload 5, 2) := by decide +kernel
theorem dL_law_1537 : decode cL_law 1537 = .ok (.if_icmp .eq 5, 3) := by decide +kernel
theorem dL_law_1540 : decode cL_law 1540 = .ok (.iconst 0, 1) := by decide +kernel
theorem dL_law_1541 : decode cL_law 1541 = .ok (.ireturn, 1) := by decide +kernel
theorem dL_law_1542 : decode cL_law 1542 = .ok (.iload 5, 2) := by decide +kernel
theorem dL_law_1544 : decode cL_law 1544 = .ok (.ifCond .ne 15, 3) := by decide +kernel
theorem dL_law_1547 : decode cL_law 1547 = .ok (.aload_n 3, 1) := by decide +kernel
theorem dL_law_1548 : decode cL_law 1548 = .ok (.iconst 0, 1) := by decide +kernel
theorem dL_law_1549 : decode cL_law 1549 = .ok (.laload, 1) := by decide +kernel
theorem dL_law_1550 : decode cL_law 1550 = .ok (.iload 6, 2) := by decide +kernel
theorem dL_law_1552 : decode cL_law 1552 = .ok (.i2l, 1) := by decide +kernel
theorem dL_law_1553 : decode cL_law 1553 = .ok (.lcmp, 1) := by decide +kernel
theorem dL_law_1554 : decode cL_law 1554 = .ok (.ifCond .eq 5, 3) := by decide +kernel
theorem dL_law_1557 : decode cL_law 1557 = .ok (.iconst 0, 1) := by decide +kernel
theorem dL_law_1558 : decode cL_law 1558 = .ok (.ireturn, 1) := by decide +kernel
theorem dL_law_1559 : decode cL_law 1559 = .ok (.goto 389, 3) := by decide +kernel
theorem dL_law_1562 : decode cL_law 1562 = .ok (.aload_n 1, 1) := by decide +kernel
theorem dL_law_1563 : decode cL_law 1563 = .ok (.aload_n 0, 1) := by decide +kernel
theorem dL_law_1564 : decode cL_law 1564 = .ok (.iload 4, 2) := by decide +kernel
theorem dL_law_1566 : decode cL_law 1566 = .ok (.iconst 1, 1) := by decide +kernel
theorem dL_law_1567 : decode cL_law 1567 = .ok (.iadd, 1) := by decide +kernel
theorem dL_law_1568 : decode cL_law 1568 = .ok (.iaload, 1) := by decide +kernel
theorem dL_law_1569 : decode cL_law 1569 = .ok (.aload_n 3, 1) := by decide +kernel
theorem dL_law_1570 : decode cL_law 1570 = .ok (.invokestatic 207, 3) := by decide +kernel
theorem dL_law_1573 : decode cL_law 1573 = .ok (.istore 5, 2) := by decide +kernel
theorem dL_law_1575 : decode cL_law 1575 = .ok (.aload_n 2, 1) := by decide +kernel
theorem dL_law_1576 : decode cL_law 1576 = .ok (.aload_n 0, 1) := by decide +kernel
theorem dL_law_1577 : decode cL_law 1577 = .ok (.iload 4, 2) := by decide +kernel
theorem dL_law_1579 : decode cL_law 1579 = .ok (.iconst 1, 1) := by decide +kernel
theorem dL_law_1580 : decode cL_law 1580 = .ok (.iadd, 1) := by decide +kernel
theorem dL_law_1581 : decode cL_law 1581 = .ok (.iaload, 1) := by decide +kernel
theorem dL_law_1582 : decode cL_law 1582 = .ok (.invokevirtual 209, 3) := by decide +kernel
theorem dL_law_1585 : decode cL_law 1585 = .ok (.istore 6, 2) := by decide +kernel
theorem dL_law_1587 : decode cL_law 1587 = .ok (.aload_n 2, 1) := by decide +kernel
theorem dL_law_1588 : decode cL_law 1588 = .ok (.invokevirtual 106, 3) := by decide +kernel
theorem dL_law_1591 : decode cL_law 1591 = .ok (.iload 5, 2) := by decide +kernel
theorem dL_law_1593 : decode cL_law 1593 = .ok (.if_icmp .eq 5, 3) := by decide +kernel
theorem dL_law_1596 : decode cL_law 1596 = .ok (.iconst 0, 1) := by decide +kernel
theorem dL_law_1597 : decode cL_law 1597 = .ok (.ireturn, 1) := by decide +kernel
theorem dL_law_1598 : decode cL_law 1598 = .ok (.iload 5, 2) := by decide +kernel
theorem dL_law_1600 : decode cL_law 1600 = .ok (.ifCond .ne 15, 3) := by decide +kernel
theorem dL_law_1603 : decode cL_law 1603 = .ok (.aload_n 3, 1) := by decide +kernel
theorem dL_law_1604 : decode cL_law 1604 = .ok (.iconst 0, 1) := by decide +kernel
theorem dL_law_1605 : decode cL_law 1605 = .ok (.laload, 1) := by decide +kernel
theorem dL_law_1606 : decode cL_law 1606 = .ok (.iload 6, 2) := by decide +kernel
theorem dL_law_1608 : decode cL_law 1608 = .ok (.i2l, 1) := by decide +kernel
theorem dL_law_1609 : decode cL_law 1609 = .ok (.lcmp, 1) := by decide +kernel
theorem dL_law_1610 : decode cL_law 1610 = .ok (.ifCond .eq 5, 3) := by decide +kernel
theorem dL_law_1613 : decode cL_law 1613 = .ok (.iconst 0, 1) := by decide +kernel
theorem dL_law_1614 : decode cL_law 1614 = .ok (.ireturn, 1) := by decide +kernel
theorem dL_law_1615 : decode cL_law 1615 = .ok (.goto 333, 3) := by decide +kernel
theorem dL_law_1618 : decode cL_law 1618 = .ok (.aload_n 1, 1) := by decide +kernel
theorem dL_law_1619 : decode cL_law 1619 = .ok (.aload_n 0, 1) := by decide +kernel
theorem dL_law_1620 : decode cL_law 1620 = .ok (.iload 4, 2) := by decide +kernel
end
section
/-! decode rows: the law -/
theorem dL_law_1622 : decode cL_law 1622 = .ok (.iconst 1, 1) := by decide +kernel
theorem dL_law_1623 : decode cL_law 1623 = .ok (.iadd, 1) := by decide +kernel
theorem dL_law_1624 : decode cL_law 1624 = .ok (.iaload, 1) := by decide +kernel
theorem dL_law_1625 : decode cL_law 1625 = .ok (.aload_n 3, 1) := by decide +kernel
theorem dL_law_1626 : decode cL_law 1626 = .ok (.invokestatic 210, 3) := by decide +kernel
theorem dL_law_1629 : decode cL_law 1629 = .ok (.istore 5, 2) := by decide +kernel
theorem dL_law_1631 : decode cL_law 1631 = .ok (.aload_n 2, 1) := by decide +kernel
theorem dL_law_1632 : decode cL_law 1632 = .ok (.aload_n 0, 1) := by decide +kernel
theorem dL_law_1633 : decode cL_law 1633 = .ok (.iload 4, 2) := by decide +kernel
theorem dL_law_1635 : decode cL_law 1635 = .ok (.iconst 1, 1) := by decide +kernel
theorem dL_law_1636 : decode cL_law 1636 = .ok (.iadd, 1) := by decide +kernel
theorem dL_law_1637 : decode cL_law 1637 = .ok (.iaload, 1) := by decide +kernel
theorem dL_law_1638 : decode cL_law 1638 = .ok (.invokevirtual 212, 3) := by decide +kernel
theorem dL_law_1641 : decode cL_law 1641 = .ok (.istore 6, 2) := by decide +kernel
theorem dL_law_1643 : decode cL_law 1643 = .ok (.aload_n 2, 1) := by decide +kernel
theorem dL_law_1644 : decode cL_law 1644 = .ok (.invokevirtual 106, 3) := by decide +kernel
theorem dL_law_1647 : decode cL_law 1647 = .ok (.iload 5, 2) := by decide +kernel
theorem dL_law_1649 : decode cL_law 1649 = .ok (.if_icmp .eq 5, 3) := by decide +kernel
theorem dL_law_1652 : decode cL_law 1652 = .ok (.iconst 0, 1) := by decide +kernel
theorem dL_law_1653 : decode cL_law 1653 = .ok (.ireturn, 1) := by decide +kernel
theorem dL_law_1654 : decode cL_law 1654 = .ok (.iload 5, 2) := by decide +kernel
theorem dL_law_1656 : decode cL_law 1656 = .ok (.ifCond .ne 15, 3) := by decide +kernel
theorem dL_law_1659 : decode cL_law 1659 = .ok (.aload_n 3, 1) := by decide +kernel
theorem dL_law_1660 : decode cL_law 1660 = .ok (.iconst 0, 1) := by decide +kernel
theorem dL_law_1661 : decode cL_law 1661 = .ok (.laload, 1) := by decide +kernel
theorem dL_law_1662 : decode cL_law 1662 = .ok (.iload 6, 2) := by decide +kernel
theorem dL_law_1664 : decode cL_law 1664 = .ok (.i2l, 1) := by decide +kernel
theorem dL_law_1665 : decode cL_law 1665 = .ok (.lcmp, 1) := by decide +kernel
theorem dL_law_1666 : decode cL_law 1666 = .ok (.ifCond .eq 5, 3) := by decide +kernel
theorem dL_law_1669 : decode cL_law 1669 = .ok (.iconst 0, 1) := by decide +kernel
theorem dL_law_1670 : decode cL_law 1670 = .ok (.ireturn, 1) := by decide +kernel
theorem dL_law_1671 : decode cL_law 1671 = .ok (.goto 277, 3) := by decide +kernel
theorem dL_law_1674 : decode cL_law 1674 = .ok (.aload_n 1, 1) := by decide +kernel
theorem dL_law_1675 : decode cL_law 1675 = .ok (.aload_n 0, 1) := by decide +kernel
theorem dL_law_1676 : decode cL_law 1676 = .ok (.iload 4, 2) := by decide +kernel
theorem dL_law_1678 : decode cL_law 1678 = .ok (.iconst 1, 1) := by decide +kernel
theorem dL_law_1679 : decode cL_law 1679 = .ok (.iadd, 1) := by decide +kernel
theorem dL_law_1680 : decode cL_law 1680 = .ok (.iaload, 1) := by decide +kernel
theorem dL_law_1681 : decode cL_law 1681 = .ok (.aload_n 3, 1) := by decide +kernel
theorem dL_law_1682 : decode cL_law 1682 = .ok (.invokestatic 213, 3) := by decide +kernel
theorem dL_law_1685 : decode cL_law 1685 = .ok (.istore 5, 2) := by decide +kernel
theorem dL_law_1687 : decode cL_law 1687 = .ok (.aload_n 2, 1) := by decide +kernel
theorem dL_law_1688 : decode cL_law 1688 = .ok (.aload_n 0, 1) := by decide +kernel
theorem dL_law_1689 : decode cL_law 1689 = .ok (.iload 4, 2) := by decide +kernel
theorem dL_law_1691 : decode cL_law 1691 = .ok (.iconst 1, 1) := by decide +kernel
theorem dL_law_1692 : decode cL_law 1692 = .ok (.iadd, 1) := by decide +kernel
theorem dL_law_1693 : decode cL_law 1693 = .ok (.iaload, 1) := by decide +kernel
theorem dL_law_1694 : decode cL_law 1694 = .ok (.invokevirtual 215, 3) := by decide +kernel
theorem dL_law_1697 : decode cL_law 1697 = .ok (.istore 6, 2) := by decide +kernel
theorem dL_law_1699 : decode cL_law 1699 = .ok (.aload_n 2, 1) := by decide +kernel
theorem dL_law_1700 : decode cL_law 1700 = .ok (.invokevirtual 106, 3) := by decide +kernel
theorem dL_law_1703 : decode cL_law 1703 = .ok (.iload 5, 2) := by decide +kernel
theorem dL_law_1705 : decode cL_law 1705 = .ok (.if_icmp .eq 5, 3) := by decide +kernel
theorem dL_law_1708 : decode cL_law 1708 = .ok (.iconst 0, 1) := by decide +kernel
theorem dL_law_1709 : decode cL_law 1709 = .ok (.ireturn, 1) := by decide +kernel
theorem dL_law_1710 : decode cL_law 1710 = .ok (.iload 5, 2) := by decide +kernel
theorem dL_law_1712 : decode cL_law 1712 = .ok (.ifCond .ne 15, 3) := by decide +kernel
theorem dL_law_1715 : decode cL_law 1715 = .ok (.aload_n 3, 1) := by decide +kernel
theorem dL_law_1716 : decode cL_law 1716 = .ok (.iconst 0, 1) := by decide +kernel
theorem dL_law_1717 : decode cL_law 1717 = .ok (.laload, 1) := by decide +kernel
theorem dL_law_1718 : decode cL_law 1718 = .ok (.iload 6, 2) := by decide +kernel
theorem dL_law_1720 : decode cL_law 1720 = .ok (.i2l, 1) := by decide +kernel
theorem dL_law_1721 : decode cL_law 1721 = .ok (.lcmp, 1) := by decide +kernel
theorem dL_law_1722 : decode cL_law 1722 = .ok (.ifCond .eq 5, 3) := by decide +kernel
theorem dL_law_1725 : decode cL_law 1725 = .ok (.iconst 0, 1) := by decide +kernel
theorem dL_law_1726 : decode cL_law 1726 = .ok (.ireturn, 1) := by decide +kernel
theorem dL_law_1727 : decode cL_law 1727 = .ok (.goto 221, 3) := by decide +kernel
theorem dL_law_1730 : decode cL_law 1730 = .ok (.aload_n 1, 1) := by decide +kernel
theorem dL_law_1731 : decode cL_law 1731 = .ok (.aload_n 0, 1) := by decide +kernel
theorem dL_law_1732 : decode cL_law 1732 = .ok (.iload 4, 2) := by decide +kernel
theorem dL_law_1734 : decode cL_law 1734 = .ok (.iconst 1, 1) := by decide +kernel
theorem dL_law_1735 : decode cL_law 1735 = .ok (.iadd, 1) := by decide +kernel
theorem dL_law_1736 : decode cL_law 1736 = .ok (.iaload, 1) := by decide +kernel
theorem dL_law_1737 : decode cL_law 1737 = .ok (.aload_n 0, 1) := by decide +kernel
theorem dL_law_1738 : decode cL_law 1738 = .ok (.iload 4, 2) := by decide +kernel
theorem dL_law_1740 : decode cL_law 1740 = .ok (.iconst 2, 1) := by decide +kernel
theorem dL_law_1741 : decode cL_law 1741 = .ok (.iadd, 1) := by decide +kernel
theorem dL_law_1742 : decode cL_law 1742 = .ok (.iaload, 1) := by decide +kernel
theorem dL_law_1743 : decode cL_law 1743 = .ok (.aload_n 3, 1) := by decide +kernel
theorem dL_law_1744 : decode cL_law 1744 = .ok (.invokestatic 216, 3) := by decide +kernel
theorem dL_law_1747 : decode cL_law 1747 = .ok (.istore 5, 2) := by decide +kernel
theorem dL_law_1749 : decode cL_law 1749 = .ok (.aload_n 2, 1) := by decide +kernel
theorem dL_law_1750 : decode cL_law 1750 = .ok (.aload_n 0, 1) := by decide +kernel
theorem dL_law_1751 : decode cL_law 1751 = .ok (.iload 4, 2) := by decide +kernel
theorem dL_law_1753 : decode cL_law 1753 = .ok (.iconst 1, 1) := by decide +kernel
theorem dL_law_1754 : decode cL_law 1754 = .ok (.iadd, 1) := by decide +kernel
theorem dL_law_1755 : decode cL_law 1755 = .ok (.iaload, 1) := by decide +kernel
theorem dL_law_1756 : decode cL_law 1756 = .ok (.aload_n 0, 1) := by decide +kernel
theorem dL_law_1757 : decode cL_law 1757 = .ok (.iload 4, 2) := by decide +kernel
theorem dL_law_1759 : decode cL_law 1759 = .ok (.iconst 2, 1) := by decide +kernel
theorem dL_law_1760 : decode cL_law 1760 = .ok (.iadd, 1) := by decide +kernel
theorem dL_law_1761 : decode cL_law 1761 = .ok (.iaload, 1) := by decide +kernel
theorem dL_law_1762 : decode cL_law 1762 = .ok (.invokevirtual 218, 3) := by decide +kernel
theorem dL_law_1765 : decode cL_law 1765 = .ok (.istore 6, 2) := by decide +kernel
theorem dL_law_1767 : decode cL_law 1767 = .ok (.aload_n 2, 1) := by decide +kernel
theorem dL_law_1768 : decode cL_law 1768 = .ok (.invokevirtual 106, 3) := by decide +kernel
theorem dL_law_1771 : decode cL_law 1771 = .ok (.iload 5, 2) := by decide +kernel
theorem dL_law_1773 : decode cL_law 1773 = .ok (.if_icmp .eq 5, 3) := by decide +kernel
theorem dL_law_1776 : decode cL_law 1776 = .ok (.iconst 0, 1) := by decide +kernel
theorem dL_law_1777 : decode cL_law 1777 = .ok (.ireturn, 1) := by decide +kernel
theorem dL_law_1778 : decode cL_law 1778 = .ok (.iload 5, 2) := by decide +kernel
theorem dL_law_1780 : decode cL_law 1780 = .ok (.ifCond .ne 15, 3) := by decide +kernel
theorem dL_law_1783 : decode cL_law 1783 = .ok (.aload_n 3, 1) := by decide +kernel
theorem dL_law_1784 : decode cL_law 1784 = .ok (.iconst 0, 1) := by decide +kernel
theorem dL_law_1785 : decode cL_law 1785 = .ok (.laload, 1) := by decide +kernel
theorem dL_law_1786 : decode cL_law 1786 = .ok (.iload 6, 2) := by decide +kernel
theorem dL_law_1788 : decode cL_law 1788 = .ok (.i2l, 1) := by decide +kernel
theorem dL_law_1789 : decode cL_law 1789 = .ok (.lcmp, 1) := by decide +kernel
theorem dL_law_1790 : decode cL_law 1790 = .ok (.ifCond .eq 5, 3) := by decide +kernel
theorem dL_law_1793 : decode cL_law 1793 = .ok (.iconst 0, 1) := by decide +kernel
theorem dL_law_1794 : decode cL_law 1794 = .ok (.ireturn, 1) := by decide +kernel
theorem dL_law_1795 : decode cL_law 1795 = .ok (.goto 153, 3) := by decide +kernel
theorem dL_law_1798 : decode cL_law 1798 = .ok (.aload_n 1, 1) := by decide +kernel
theorem dL_law_1799 : decode cL_law 1799 = .ok (.aload_n 0, 1) := by decide +kernel
theorem dL_law_1800 : decode cL_law 1800 = .ok (.iload 4, 2) := by decide +kernel
theorem dL_law_1802 : decode cL_law 1802 = .ok (.iconst 1, 1) := by decide +kernel
theorem dL_law_1803 : decode cL_law 1803 = .ok (.iadd, 1) := by decide +kernel
theorem dL_law_1804 : decode cL_law 1804 = .ok (.iaload, 1) := by decide +kernel
theorem dL_law_1805 : decode cL_law 1805 = .ok (.aload_n 3, 1) := by decide +kernel
theorem dL_law_1806 : decode cL_law 1806 = .ok (.invokestatic 219, 3) := by decide +kernel
theorem dL_law_1809 : decode cL_law 1809 = .ok (.istore 5, 2) := by decide +kernel
theorem dL_law_1811 : decode cL_law 1811 = .ok (.aload_n 2, 1) := by decide +kernel
theorem dL_law_1812 : decode cL_law 1812 = .ok (.aload_n 0, 1) := by decide +kernel
theorem dL_law_1813 : decode cL_law 1813 = .ok (.iload 4, 2) := by decide +kernel
theorem dL_law_1815 : decode cL_law 1815 = .ok (.iconst 1, 1) := by decide +kernel
theorem dL_law_1816 : decode cL_law 1816 = .ok (.iadd, 1) := by decide +kernel
theorem dL_law_1817 : decode cL_law 1817 = .ok (.iaload, 1) := by decide +kernel
theorem dL_law_1818 : decode cL_law 1818 = .ok (.invokevirtual 221, 3) := by decide +kernel
theorem dL_law_1821 : decode cL_law 1821 = .ok (.istore 6, 2) := by decide +kernel
theorem dL_law_1823 : decode cL_law 1823 = .ok (.aload_n 2, 1) := by decide +kernel
theorem dL_law_1824 : decode cL_law 1824 = .ok (.invokevirtual 106, 3) := by decide +kernel
theorem dL_law_1827 : decode cL_law 1827 = .ok (.iload 5, 2) := by decide +kernel
theorem dL_law_1829 : decode cL_law 1829 = .ok (.if_icmp .eq 5, 3) := by decide +kernel
theorem dL_law_1832 : decode cL_law 1832 = .ok (.iconst 0, 1) := by decide +kernel
theorem dL_law_1833 : decode cL_law 1833 = .ok (.ireturn, 1) := by decide +kernel
theorem dL_law_1834 : decode cL_law 1834 = .ok (.iload 5, 2) := by decide +kernel
theorem dL_law_1836 : decode cL_law 1836 = .ok (.ifCond .ne 15, 3) := by decide +kernel
theorem dL_law_1839 : decode cL_law 1839 = .ok (.aload_n 3, 1) := by decide +kernel
theorem dL_law_1840 : decode cL_law 1840 = .ok (.iconst 0, 1) := by decide +kernel
theorem dL_law_1841 : decode cL_law 1841 = .ok (.laload, 1) := by decide +kernel
theorem dL_law_1842 : decode cL_law 1842 = .ok (.iload 6, 2) := by decide +kernel
theorem dL_law_1844 : decode cL_law 1844 = .ok (.i2l, 1) := by decide +kernel
theorem dL_law_1845 : decode cL_law 1845 = .ok (.lcmp, 1) := by decide +kernel
theorem dL_law_1846 : decode cL_law 1846 = .ok (.ifCond .eq 5, 3) := by decide +kernel
theorem dL_law_1849 : decode cL_law 1849 = .ok (.iconst 0, 1) := by decide +kernel
theorem dL_law_1850 : decode cL_law 1850 = .ok (.ireturn, 1) := by decide +kernel
theorem dL_law_1851 : decode cL_law 1851 = .ok (.goto 97, 3) := by decide +kernel
theorem dL_law_1854 : decode cL_law 1854 = .ok (.aload_n 1, 1) := by decide +kernel
theorem dL_law_1855 : decode cL_law 1855 = .ok (.invokevirtual 222, 3) := by decide +kernel
theorem dL_law_1858 : decode cL_law 1858 = .ok (.aload_n 2, 1) := by decide +kernel
theorem dL_law_1859 : decode cL_law 1859 = .ok (.invokevirtual 225, 3) := by decide +kernel
theorem dL_law_1862 : decode cL_law 1862 = .ok (.if_icmp .eq 86, 3) := by decide +kernel
theorem dL_law_1865 : decode cL_law 1865 = .ok (.iconst 0, 1) := by decide +kernel
theorem dL_law_1866 : decode cL_law 1866 = .ok (.ireturn, 1) := by decide +kernel
theorem dL_law_1867 : decode cL_law 1867 = .ok (.aload_n 1, 1) := by decide +kernel
theorem dL_law_1868 : decode cL_law 1868 = .ok (.invokevirtual 226, 3) := by decide +kernel
theorem dL_law_1871 : decode cL_law 1871 = .ok (.aload_n 2, 1) := by decide +kernel
theorem dL_law_1872 : decode cL_law 1872 = .ok (.invokevirtual 229, 3) := by decide +kernel
theorem dL_law_1875 : decode cL_law 1875 = .ok (.if_icmp .eq 73, 3) := by decide +kernel
theorem dL_law_1878 : decode cL_law 1878 = .ok (.iconst 0, 1) := by decide +kernel
theorem dL_law_1879 : decode cL_law 1879 = .ok (.ireturn, 1) := by decide +kernel
theorem dL_law_1880 : decode cL_law 1880 = .ok (.aload_n 1, 1) := by decide +kernel
theorem dL_law_1881 : decode cL_law 1881 = .ok (.invokevirtual 230, 3) := by decide +kernel
theorem dL_law_1884 : decode cL_law 1884 = .ok (.aload_n 2, 1) := by decide +kernel
theorem dL_law_1885 : decode cL_law 1885 = .ok (.invokevirtual 233, 3) := by decide +kernel
theorem dL_law_1888 : decode cL_law 1888 = .ok (.if_icmp .eq 60, 3) := by decide +kernel
theorem dL_law_1891 : decode cL_law 1891 = .ok (.iconst 0, 1) := by decide +kernel
theorem dL_law_1892 : decode cL_law 1892 = .ok (.ireturn, 1) := by decide +kernel
theorem dL_law_1893 : decode cL_law 1893 = .ok (.aload_n 1, 1) := by decide +kernel
theorem dL_law_1894 : decode cL_law 1894 = .ok (.invokevirtual 234, 3) := by decide +kernel
theorem dL_law_1897 : decode cL_law 1897 = .ok (.dstore 5, 2) := by decide +kernel
theorem dL_law_1899 : decode cL_law 1899 = .ok (.aload_n 2, 1) := by decide +kernel
theorem dL_law_1900 : decode cL_law 1900 = .ok (.invokevirtual 238, 3) := by decide +kernel
theorem dL_law_1903 : decode cL_law 1903 = .ok (.dstore 7, 2) := by decide +kernel
theorem dL_law_1905 : decode cL_law 1905 = .ok (.dload 5, 2) := by decide +kernel
theorem dL_law_1907 : decode cL_law 1907 = .ok (.dload 7, 2) := by decide +kernel
theorem dL_law_1909 : decode cL_law 1909 = .ok (.dcmp .l, 1) := by decide +kernel
theorem dL_law_1910 : decode cL_law 1910 = .ok (.ifCond .eq 21, 3) := by decide +kernel
theorem dL_law_1913 : decode cL_law 1913 = .ok (.dload 5, 2) := by decide +kernel
theorem dL_law_1915 : decode cL_law 1915 = .ok (.dload 5, 2) := by decide +kernel
theorem dL_law_1917 : decode cL_law 1917 = .ok (.dcmp .l, 1) := by decide +kernel
theorem dL_law_1918 : decode cL_law 1918 = .ok (.ifCond .eq 11, 3) := by decide +kernel
theorem dL_law_1921 : decode cL_law 1921 = .ok (.dload 7, 2) := by decide +kernel
theorem dL_law_1923 : decode cL_law 1923 = .ok (.dload 7, 2) := by decide +kernel
theorem dL_law_1925 : decode cL_law 1925 = .ok (.dcmp .l, 1) := by decide +kernel
theorem dL_law_1926 : decode cL_law 1926 = .ok (.ifCond .ne 5, 3) := by decide +kernel
theorem dL_law_1929 : decode cL_law 1929 = .ok (.iconst 0, 1) := by decide +kernel
theorem dL_law_1930 : decode cL_law 1930 = .ok (.ireturn, 1) := by decide +kernel
theorem dL_law_1931 : decode cL_law 1931 = .ok (.goto 17, 3) := by decide +kernel
theorem dL_law_1934 : decode cL_law 1934 = .ok (.aload_n 1, 1) := by decide +kernel
theorem dL_law_1935 : decode cL_law 1935 = .ok (.invokevirtual 239, 3) := by decide +kernel
theorem dL_law_1938 : decode cL_law 1938 = .ok (.aload_n 2, 1) := by decide +kernel
theorem dL_law_1939 : decode cL_law 1939 = .ok (.invokevirtual 243, 3) := by decide +kernel
theorem dL_law_1942 : decode cL_law 1942 = .ok (.lcmp, 1) := by decide +kernel
theorem dL_law_1943 : decode cL_law 1943 = .ok (.ifCond .eq 5, 3) := by decide +kernel
theorem dL_law_1946 : decode cL_law 1946 = .ok (.iconst 0, 1) := by decide +kernel
theorem dL_law_1947 : decode cL_law 1947 = .ok (.ireturn, 1) := by decide +kernel
theorem dL_law_1948 : decode cL_law 1948 = .ok (.iinc 4 3, 3) := by decide +kernel
theorem dL_law_1951 : decode cL_law 1951 = .ok (.goto (-1928), 3) := by decide +kernel
theorem dL_law_1954 : decode cL_law 1954 = .ok (.iconst 1, 1) := by decide +kernel
theorem dL_law_1955 : decode cL_law 1955 = .ok (.ireturn, 1) := by decide +kernel
end
section
/-! the words: one list for every method: all that the tables alone decide -/
def lw_all : List Cond := lw_tbl.filter goodWord
theorem lw_in {w : Cond} (i : Nat) (h : lw_tbl[i]? = some w) (g : goodWord w = true) : w ∈ lw_all := List.mem_filter.mpr ⟨List.mem_of_getElem? h, g⟩
theorem lw_all_tbl {w : Cond} (h : w ∈ lw_all) : w ∈ lw_tbl := (List.mem_filter.mp h).1
theorem lw_good {w : Cond} (h : w ∈ lw_all) : goodWord w = true := (List.mem_filter.mp h).2
theorem lw_gall : GoodIn lw_all lw_all := fun w h => ⟨h, good_of_word (lw_good h)⟩
abbrev ws_ (y : MethodName) (c : ByteArray) (n : Nat) (r : Option FieldType) : List Cond := Cond.code y c n r :: lw_all
abbrev wsH_ (y : MethodName) (c : ByteArray) (n : Nat) (r : Option FieldType) (hh : List (Nat × Nat × Nat × Nat)) : List Cond := Cond.codeWith y c n r hh :: lw_all
theorem gi_cons {c : Cond} (h : c ∈ lw_all) : GoodIn lw_all (c :: lw_all) := fun w hw => (List.mem_cons.mp hw).elim (fun e => by rw [e]; exact ⟨h, good_of_word (lw_good h)⟩) (lw_gall w)
theorem gi_V {own C : String} {idx : Nat} {y : MethodName} {c : Cond} (h1 : Cond.methodLink own idx y ∈ lw_all) (h2 : Cond.instanceMethod y ∈ lw_all) (h3 : Cond.selects C y y ∈ lw_all) (h4 : Cond.initialized C ∈ lw_all) (h5 : c ∈ lw_all) : GoodIn lw_all (wsV own idx C y (c :: lw_all)) := by
  intro w hw
  have hm : w ∈ lw_all := by
    rcases List.mem_append.mp (show w ∈ ([.methodLink own idx y, .instanceMethod y, .selects C y y, .initialized C] : List Cond) ++ (c :: lw_all) from hw) with h | h
    · simp only [List.mem_cons, List.not_mem_nil, or_false] at h
      rcases h with rfl | rfl | rfl | rfl <;> assumption
    · exact (gi_cons h5 w h).1
  exact ⟨hm, good_of_word (lw_good hm)⟩
theorem gi_S {own : String} {idx : Nat} {y : MethodName} {c : Cond} (h1 : Cond.methodLink own idx y ∈ lw_all) (h2 : Cond.static y ∈ lw_all) (h4 : Cond.initialized y.cls ∈ lw_all) (h5 : c ∈ lw_all) : GoodIn lw_all (va_wsS own idx y (c :: lw_all)) := by
  intro w hw
  have hm : w ∈ lw_all := by
    rcases List.mem_append.mp (show w ∈ ([.methodLink own idx y, .static y, .initialized y.cls] : List Cond) ++ (c :: lw_all) from hw) with h | h
    · simp only [List.mem_cons, List.not_mem_nil, or_false] at h
      rcases h with rfl | rfl | rfl <;> assumption
    · exact (gi_cons h5 w h).1
  exact ⟨hm, good_of_word (lw_good hm)⟩
abbrev wsX00_ : List Cond := u_ws RX0 TX0 16
abbrev wsX10_ : List Cond := u_ws RX1 TX1 16
theorem lays_X0 : ∀ w ∈ wsX00_, w ∈ lw_all := fun w hw => have g := goodIn_r (big := lw_tbl) wsX00_ [82, 84, 86, 88, 90, 92, 94, 96, 98, 100, 102, 104, 106, 108, 110, 112] (by decide +kernel) (by decide +kernel); List.mem_filter.mpr ⟨(g w hw).1, List.all_eq_true.mp (show wsX00_.all goodWord = true by decide +kernel) w hw⟩
theorem lays_X1 : ∀ w ∈ wsX10_, w ∈ lw_all := fun w hw => have g := goodIn_r (big := lw_tbl) wsX10_ [684, 686, 688, 690, 692, 694, 696, 698, 700, 702, 704, 706, 708, 710, 712, 714] (by decide +kernel) (by decide +kernel); List.mem_filter.mpr ⟨(g w hw).1, List.all_eq_true.mp (show wsX10_.all goodWord = true by decide +kernel) w hw⟩
theorem mS_X0_isShaken : (Cond.selects RX0 yX0_isShaken yX0_isShaken) ∈ lw_all := lw_in 0 (by decide +kernel) (by decide +kernel)
theorem mS_X0_nightsToCalm : (Cond.selects RX0 yX0_nightsToCalm yX0_nightsToCalm) ∈ lw_all := lw_in 1 (by decide +kernel) (by decide +kernel)
theorem mS_X0_digestRegistry : (Cond.selects RX0 yX0_digestRegistry yX0_digestRegistry) ∈ lw_all := lw_in 2 (by decide +kernel) (by decide +kernel)
theorem mS_X0_requireInches : (Cond.selects RX0 yX0_requireInches yX0_requireInches) ∈ lw_all := lw_in 3 (by decide +kernel) (by decide +kernel)
theorem mS_java_lang_Throwable_fillInStackTrace_I_Ljava_lang_Throwable : (Cond.selects "java/lang/Throwable" ⟨"java/lang/Throwable", "fillInStackTrace", "(I)Ljava/lang/Throwable;"⟩ ⟨"java/lang/Throwable", "fillInStackTrace", "(I)Ljava/lang/Throwable;"⟩) ∈ lw_all := lw_in 4 (by decide +kernel) (by decide +kernel)
theorem mS_X0_middleTale : (Cond.selects RX0 yX0_middleTale yX0_middleTale) ∈ lw_all := lw_in 5 (by decide +kernel) (by decide +kernel)
theorem mS_X0_tale : (Cond.selects RX0 yX0_tale yX0_tale) ∈ lw_all := lw_in 6 (by decide +kernel) (by decide +kernel)
theorem mS_X0_insertTale : (Cond.selects RX0 yX0_insertTale yX0_insertTale) ∈ lw_all := lw_in 7 (by decide +kernel) (by decide +kernel)
theorem mS_X0_isWitness : (Cond.selects RX0 yX0_isWitness yX0_isWitness) ∈ lw_all := lw_in 8 (by decide +kernel) (by decide +kernel)
theorem mS_X0_digestPerson : (Cond.selects RX0 yX0_digestPerson yX0_digestPerson) ∈ lw_all := lw_in 9 (by decide +kernel) (by decide +kernel)
theorem mS_X0_requirePerson : (Cond.selects RX0 yX0_requirePerson yX0_requirePerson) ∈ lw_all := lw_in 10 (by decide +kernel) (by decide +kernel)
theorem mS_X0_isPerson : (Cond.selects RX0 yX0_isPerson yX0_isPerson) ∈ lw_all := lw_in 11 (by decide +kernel) (by decide +kernel)
theorem mS_X0_findLastHeir : (Cond.selects RX0 yX0_findLastHeir yX0_findLastHeir) ∈ lw_all := lw_in 12 (by decide +kernel) (by decide +kernel)
theorem mS_X0_digestLatestMiss : (Cond.selects RX0 yX0_digestLatestMiss yX0_digestLatestMiss) ∈ lw_all := lw_in 13 (by decide +kernel) (by decide +kernel)
theorem mS_X0_requireMiss : (Cond.selects RX0 yX0_requireMiss yX0_requireMiss) ∈ lw_all := lw_in 14 (by decide +kernel) (by decide +kernel)
theorem mS_X0_requireAlive : (Cond.selects RX0 yX0_requireAlive yX0_requireAlive) ∈ lw_all := lw_in 15 (by decide +kernel) (by decide +kernel)
theorem mS_X0_fatePrice : (Cond.selects RX0 yX0_fatePrice yX0_fatePrice) ∈ lw_all := lw_in 16 (by decide +kernel) (by decide +kernel)
theorem mS_X0_requireWitness : (Cond.selects RX0 yX0_requireWitness yX0_requireWitness) ∈ lw_all := lw_in 17 (by decide +kernel) (by decide +kernel)
theorem mS_X0_refundFate : (Cond.selects RX0 yX0_refundFate yX0_refundFate) ∈ lw_all := lw_in 18 (by decide +kernel) (by decide +kernel)
theorem mS_X0_usesFate : (Cond.selects RX0 yX0_usesFate yX0_usesFate) ∈ lw_all := lw_in 19 (by decide +kernel) (by decide +kernel)
theorem mS_X0_refundCoins : (Cond.selects RX0 yX0_refundCoins yX0_refundCoins) ∈ lw_all := lw_in 20 (by decide +kernel) (by decide +kernel)
theorem mS_X0_frightenWitnesses : (Cond.selects RX0 yX0_frightenWitnesses yX0_frightenWitnesses) ∈ lw_all := lw_in 21 (by decide +kernel) (by decide +kernel)
theorem mS_X0_passOneNight : (Cond.selects RX0 yX0_passOneNight yX0_passOneNight) ∈ lw_all := lw_in 22 (by decide +kernel) (by decide +kernel)
theorem mS_X1_fail : (Cond.selects RX1 yX1_fail yX1_fail) ∈ lw_all := lw_in 23 (by decide +kernel) (by decide +kernel)
theorem mS_X1_isPerson : (Cond.selects RX1 yX1_isPerson yX1_isPerson) ∈ lw_all := lw_in 24 (by decide +kernel) (by decide +kernel)
theorem mS_X1_price : (Cond.selects RX1 yX1_price yX1_price) ∈ lw_all := lw_in 25 (by decide +kernel) (by decide +kernel)
theorem mS_X1_isWitness : (Cond.selects RX1 yX1_isWitness yX1_isWitness) ∈ lw_all := lw_in 26 (by decide +kernel) (by decide +kernel)
theorem mS_X1_middle : (Cond.selects RX1 yX1_middle yX1_middle) ∈ lw_all := lw_in 27 (by decide +kernel) (by decide +kernel)
theorem mS_X1_tells : (Cond.selects RX1 yX1_tells yX1_tells) ∈ lw_all := lw_in 28 (by decide +kernel) (by decide +kernel)
theorem mS_X1_refund : (Cond.selects RX1 yX1_refund yX1_refund) ∈ lw_all := lw_in 29 (by decide +kernel) (by decide +kernel)
theorem mS_X1_last : (Cond.selects RX1 yX1_last yX1_last) ∈ lw_all := lw_in 30 (by decide +kernel) (by decide +kernel)
theorem mS_X1_shakenNow : (Cond.selects RX1 yX1_shakenNow yX1_shakenNow) ∈ lw_all := lw_in 31 (by decide +kernel) (by decide +kernel)
theorem mS_X1_told : (Cond.selects RX1 yX1_told yX1_told) ∈ lw_all := lw_in 32 (by decide +kernel) (by decide +kernel)
theorem mS_X1_living : (Cond.selects RX1 yX1_living yX1_living) ∈ lw_all := lw_in 33 (by decide +kernel) (by decide +kernel)
theorem mS_X1_sealed : (Cond.selects RX1 yX1_sealed yX1_sealed) ∈ lw_all := lw_in 34 (by decide +kernel) (by decide +kernel)
theorem mS_X1_of : (Cond.selects RX1 yX1_of yX1_of) ∈ lw_all := lw_in 35 (by decide +kernel) (by decide +kernel)
theorem mS_X1_many : (Cond.selects RX1 yX1_many yX1_many) ∈ lw_all := lw_in 36 (by decide +kernel) (by decide +kernel)
theorem mS_X1_closest : (Cond.selects RX1 yX1_closest yX1_closest) ∈ lw_all := lw_in 37 (by decide +kernel) (by decide +kernel)
theorem mS_X1_isMiss : (Cond.selects RX1 yX1_isMiss yX1_isMiss) ∈ lw_all := lw_in 38 (by decide +kernel) (by decide +kernel)
theorem mS_X1_sealAt : (Cond.selects RX1 yX1_sealAt yX1_sealAt) ∈ lw_all := lw_in 39 (by decide +kernel) (by decide +kernel)
theorem mS_X1_untilShaken : (Cond.selects RX1 yX1_untilShaken yX1_untilShaken) ∈ lw_all := lw_in 40 (by decide +kernel) (by decide +kernel)
theorem mS_X1_untilCalm : (Cond.selects RX1 yX1_untilCalm yX1_untilCalm) ∈ lw_all := lw_in 41 (by decide +kernel) (by decide +kernel)
theorem mS_X1_steady : (Cond.selects RX1 yX1_steady yX1_steady) ∈ lw_all := lw_in 42 (by decide +kernel) (by decide +kernel)
theorem mS_X1_lucky : (Cond.selects RX1 yX1_lucky yX1_lucky) ∈ lw_all := lw_in 43 (by decide +kernel) (by decide +kernel)
theorem mI_MissRegistryLaw : (Cond.initialized RL) ∈ lw_all := lw_in 44 (by decide +kernel) (by decide +kernel)
theorem mI_MissRegistry : (Cond.initialized RX0) ∈ lw_all := lw_in 45 (by decide +kernel) (by decide +kernel)
theorem mI_MissRegistryModel : (Cond.initialized RX1) ∈ lw_all := lw_in 46 (by decide +kernel) (by decide +kernel)
theorem mI_Throwable : (Cond.initialized "java/lang/Throwable") ∈ lw_all := lw_in 47 (by decide +kernel) (by decide +kernel)
theorem mI_Exception : (Cond.initialized "java/lang/Exception") ∈ lw_all := lw_in 48 (by decide +kernel) (by decide +kernel)
theorem mI_RuntimeException : (Cond.initialized "java/lang/RuntimeException") ∈ lw_all := lw_in 49 (by decide +kernel) (by decide +kernel)
theorem mI_IllegalArgumentException : (Cond.initialized "java/lang/IllegalArgumentException") ∈ lw_all := lw_in 50 (by decide +kernel) (by decide +kernel)
theorem mI_IllegalStateException : (Cond.initialized "java/lang/IllegalStateException") ∈ lw_all := lw_in 51 (by decide +kernel) (by decide +kernel)
theorem mI_IndexOutOfBoundsException : (Cond.initialized "java/lang/IndexOutOfBoundsException") ∈ lw_all := lw_in 52 (by decide +kernel) (by decide +kernel)
theorem mI_Math : (Cond.initialized "java/lang/Math") ∈ lw_all := lw_in 53 (by decide +kernel) (by decide +kernel)
theorem mI_String : (Cond.initialized RJ0) ∈ lw_all := lw_in 54 (by decide +kernel) (by decide +kernel)
theorem mI_StringLatin1 : (Cond.initialized RJ1) ∈ lw_all := lw_in 55 (by decide +kernel) (by decide +kernel)
theorem mI_Preconditions : (Cond.initialized RJ3) ∈ lw_all := lw_in 56 (by decide +kernel) (by decide +kernel)
theorem mI_StringUTF16 : (Cond.initialized RJ2) ∈ lw_all := lw_in 57 (by decide +kernel) (by decide +kernel)
theorem mK_L_8 : (Cond.classLink RL 8 RX0) ∈ lw_all := lw_in 58 (by decide +kernel) (by decide +kernel)
theorem mB_MissRegistry : (Cond.instantiable RX0 16) ∈ lw_all := lw_in 59 (by decide +kernel) (by decide +kernel)
theorem mM_L_96 : (Cond.methodLink RL 96 yX0_init) ∈ lw_all := lw_in 60 (by decide +kernel) (by decide +kernel)
theorem mV_X0_init : (Cond.instanceMethod yX0_init) ∈ lw_all := lw_in 61 (by decide +kernel) (by decide +kernel)
theorem mC_X0_init : (Cond.code yX0_init cX0_init 1 none) ∈ lw_all := lw_in 62 (by decide +kernel) (by decide +kernel)
theorem mM_X0_1 : (Cond.methodLink RX0 1 objectInit) ∈ lw_all := lw_in 63 (by decide +kernel) (by decide +kernel)
theorem mV_obj : (Cond.instanceMethod objectInit) ∈ lw_all := lw_in 64 (by decide +kernel) (by decide +kernel)
theorem mC_obj : (Cond.code objectInit ⟨#[0xb1]⟩ 1 none) ∈ lw_all := lw_in 65 (by decide +kernel) (by decide +kernel)
theorem mF_X0_9 : (Cond.fieldLink RX0 9 "MissRegistry" "living" "[Z") ∈ lw_all := lw_in 66 (by decide +kernel) (by decide +kernel)
theorem mF_X0_13 : (Cond.fieldLink RX0 13 "MissRegistry" "luck" "[I") ∈ lw_all := lw_in 67 (by decide +kernel) (by decide +kernel)
theorem mF_X0_17 : (Cond.fieldLink RX0 17 "MissRegistry" "purse" "[I") ∈ lw_all := lw_in 68 (by decide +kernel) (by decide +kernel)
theorem mF_X0_20 : (Cond.fieldLink RX0 20 "MissRegistry" "fates" "[I") ∈ lw_all := lw_in 69 (by decide +kernel) (by decide +kernel)
theorem mF_X0_23 : (Cond.fieldLink RX0 23 "MissRegistry" "heirs" "[I") ∈ lw_all := lw_in 70 (by decide +kernel) (by decide +kernel)
theorem mF_X0_48 : (Cond.fieldLink RX0 48 "MissRegistry" "personCount" "I") ∈ lw_all := lw_in 71 (by decide +kernel) (by decide +kernel)
theorem mF_X0_26 : (Cond.fieldLink RX0 26 "MissRegistry" "nerve" "[I") ∈ lw_all := lw_in 72 (by decide +kernel) (by decide +kernel)
theorem mF_X0_29 : (Cond.fieldLink RX0 29 "MissRegistry" "onDuty" "[Z") ∈ lw_all := lw_in 73 (by decide +kernel) (by decide +kernel)
theorem mF_X0_32 : (Cond.fieldLink RX0 32 "MissRegistry" "tales" "[I") ∈ lw_all := lw_in 74 (by decide +kernel) (by decide +kernel)
theorem mF_X0_59 : (Cond.fieldLink RX0 59 "MissRegistry" "witnessCount" "I") ∈ lw_all := lw_in 75 (by decide +kernel) (by decide +kernel)
theorem mF_X0_35 : (Cond.fieldLink RX0 35 "MissRegistry" "missPerson" "[I") ∈ lw_all := lw_in 76 (by decide +kernel) (by decide +kernel)
theorem mF_X0_38 : (Cond.fieldLink RX0 38 "MissRegistry" "missInches" "[I") ∈ lw_all := lw_in 77 (by decide +kernel) (by decide +kernel)
theorem mF_X0_90 : (Cond.fieldLink RX0 90 "MissRegistry" "missCount" "I") ∈ lw_all := lw_in 78 (by decide +kernel) (by decide +kernel)
theorem mF_X0_133 : (Cond.fieldLink RX0 133 "MissRegistry" "nightCount" "I") ∈ lw_all := lw_in 79 (by decide +kernel) (by decide +kernel)
theorem mF_X0_81 : (Cond.fieldLink RX0 81 "MissRegistry" "fundCoins" "I") ∈ lw_all := lw_in 80 (by decide +kernel) (by decide +kernel)
theorem mF_X0_139 : (Cond.fieldLink RX0 139 "MissRegistry" "refundedCoins" "I") ∈ lw_all := lw_in 81 (by decide +kernel) (by decide +kernel)
theorem mA_boolean : (Cond.arrayClass .boolean) ∈ lw_all := lw_in 115 (by decide +kernel) (by decide +kernel)
theorem mA_int : (Cond.arrayClass .int) ∈ lw_all := lw_in 116 (by decide +kernel) (by decide +kernel)
theorem mM_L_132 : (Cond.methodLink RL 132 yX0_night) ∈ lw_all := lw_in 117 (by decide +kernel) (by decide +kernel)
theorem mV_X0_night : (Cond.instanceMethod yX0_night) ∈ lw_all := lw_in 118 (by decide +kernel) (by decide +kernel)
theorem mS_X0_night : (Cond.selects RX0 yX0_night yX0_night) ∈ lw_all := lw_in 119 (by decide +kernel) (by decide +kernel)
theorem mC_X0_night : (Cond.code yX0_night cX0_night 1 (some .int)) ∈ lw_all := lw_in 120 (by decide +kernel) (by decide +kernel)
theorem mM_L_136 : (Cond.methodLink RL 136 yX0_persons) ∈ lw_all := lw_in 121 (by decide +kernel) (by decide +kernel)
theorem mV_X0_persons : (Cond.instanceMethod yX0_persons) ∈ lw_all := lw_in 122 (by decide +kernel) (by decide +kernel)
theorem mS_X0_persons : (Cond.selects RX0 yX0_persons yX0_persons) ∈ lw_all := lw_in 123 (by decide +kernel) (by decide +kernel)
theorem mC_X0_persons : (Cond.code yX0_persons cX0_persons 1 (some .int)) ∈ lw_all := lw_in 124 (by decide +kernel) (by decide +kernel)
theorem mM_L_140 : (Cond.methodLink RL 140 yX0_alive) ∈ lw_all := lw_in 125 (by decide +kernel) (by decide +kernel)
theorem mV_X0_alive : (Cond.instanceMethod yX0_alive) ∈ lw_all := lw_in 126 (by decide +kernel) (by decide +kernel)
theorem mS_X0_alive : (Cond.selects RX0 yX0_alive yX0_alive) ∈ lw_all := lw_in 127 (by decide +kernel) (by decide +kernel)
theorem mC_X0_alive : (Cond.code yX0_alive cX0_alive 3 (some .int)) ∈ lw_all := lw_in 128 (by decide +kernel) (by decide +kernel)
theorem mM_L_144 : (Cond.methodLink RL 144 yX0_witnesses) ∈ lw_all := lw_in 129 (by decide +kernel) (by decide +kernel)
theorem mV_X0_witnesses : (Cond.instanceMethod yX0_witnesses) ∈ lw_all := lw_in 130 (by decide +kernel) (by decide +kernel)
theorem mS_X0_witnesses : (Cond.selects RX0 yX0_witnesses yX0_witnesses) ∈ lw_all := lw_in 131 (by decide +kernel) (by decide +kernel)
theorem mC_X0_witnesses : (Cond.code yX0_witnesses cX0_witnesses 1 (some .int)) ∈ lw_all := lw_in 132 (by decide +kernel) (by decide +kernel)
theorem mM_L_148 : (Cond.methodLink RL 148 yX0_shaken) ∈ lw_all := lw_in 133 (by decide +kernel) (by decide +kernel)
theorem mV_X0_shaken : (Cond.instanceMethod yX0_shaken) ∈ lw_all := lw_in 134 (by decide +kernel) (by decide +kernel)
theorem mS_X0_shaken : (Cond.selects RX0 yX0_shaken yX0_shaken) ∈ lw_all := lw_in 135 (by decide +kernel) (by decide +kernel)
theorem mC_X0_shaken : (Cond.code yX0_shaken cX0_shaken 3 (some .int)) ∈ lw_all := lw_in 136 (by decide +kernel) (by decide +kernel)
theorem mM_X0_136 : (Cond.methodLink RX0 136 yX0_isShaken) ∈ lw_all := lw_in 137 (by decide +kernel) (by decide +kernel)
theorem mV_X0_isShaken : (Cond.instanceMethod yX0_isShaken) ∈ lw_all := lw_in 139 (by decide +kernel) (by decide +kernel)
theorem mC_X0_isShaken : (Cond.code yX0_isShaken cX0_isShaken 2 (some .boolean)) ∈ lw_all := lw_in 140 (by decide +kernel) (by decide +kernel)
theorem mM_L_152 : (Cond.methodLink RL 152 yX0_fund) ∈ lw_all := lw_in 141 (by decide +kernel) (by decide +kernel)
theorem mV_X0_fund : (Cond.instanceMethod yX0_fund) ∈ lw_all := lw_in 142 (by decide +kernel) (by decide +kernel)
theorem mS_X0_fund : (Cond.selects RX0 yX0_fund yX0_fund) ∈ lw_all := lw_in 143 (by decide +kernel) (by decide +kernel)
theorem mC_X0_fund : (Cond.code yX0_fund cX0_fund 1 (some .int)) ∈ lw_all := lw_in 144 (by decide +kernel) (by decide +kernel)
theorem mM_L_156 : (Cond.methodLink RL 156 yX0_refunded) ∈ lw_all := lw_in 145 (by decide +kernel) (by decide +kernel)
theorem mV_X0_refunded : (Cond.instanceMethod yX0_refunded) ∈ lw_all := lw_in 146 (by decide +kernel) (by decide +kernel)
theorem mS_X0_refunded : (Cond.selects RX0 yX0_refunded yX0_refunded) ∈ lw_all := lw_in 147 (by decide +kernel) (by decide +kernel)
theorem mC_X0_refunded : (Cond.code yX0_refunded cX0_refunded 1 (some .int)) ∈ lw_all := lw_in 148 (by decide +kernel) (by decide +kernel)
theorem mM_L_160 : (Cond.methodLink RL 160 yX0_misses) ∈ lw_all := lw_in 149 (by decide +kernel) (by decide +kernel)
theorem mV_X0_misses : (Cond.instanceMethod yX0_misses) ∈ lw_all := lw_in 150 (by decide +kernel) (by decide +kernel)
theorem mS_X0_misses : (Cond.selects RX0 yX0_misses yX0_misses) ∈ lw_all := lw_in 151 (by decide +kernel) (by decide +kernel)
theorem mC_X0_misses : (Cond.code yX0_misses cX0_misses 1 (some .int)) ∈ lw_all := lw_in 152 (by decide +kernel) (by decide +kernel)
theorem mM_L_164 : (Cond.methodLink RL 164 yX0_certified) ∈ lw_all := lw_in 153 (by decide +kernel) (by decide +kernel)
theorem mV_X0_certified : (Cond.instanceMethod yX0_certified) ∈ lw_all := lw_in 154 (by decide +kernel) (by decide +kernel)
theorem mS_X0_certified : (Cond.selects RX0 yX0_certified yX0_certified) ∈ lw_all := lw_in 155 (by decide +kernel) (by decide +kernel)
theorem mC_X0_certified : (Cond.code yX0_certified cX0_certified 3 (some .int)) ∈ lw_all := lw_in 156 (by decide +kernel) (by decide +kernel)
theorem mM_L_222 : (Cond.methodLink RL 222 yX0_nightsUntilCalm) ∈ lw_all := lw_in 157 (by decide +kernel) (by decide +kernel)
theorem mV_X0_nightsUntilCalm : (Cond.instanceMethod yX0_nightsUntilCalm) ∈ lw_all := lw_in 158 (by decide +kernel) (by decide +kernel)
theorem mS_X0_nightsUntilCalm : (Cond.selects RX0 yX0_nightsUntilCalm yX0_nightsUntilCalm) ∈ lw_all := lw_in 159 (by decide +kernel) (by decide +kernel)
theorem mC_X0_nightsUntilCalm : (Cond.code yX0_nightsUntilCalm cX0_nightsUntilCalm 3 (some .int)) ∈ lw_all := lw_in 160 (by decide +kernel) (by decide +kernel)
theorem mM_X0_160 : (Cond.methodLink RX0 160 yX0_nightsToCalm) ∈ lw_all := lw_in 161 (by decide +kernel) (by decide +kernel)
theorem mV_X0_nightsToCalm : (Cond.instanceMethod yX0_nightsToCalm) ∈ lw_all := lw_in 163 (by decide +kernel) (by decide +kernel)
theorem mC_X0_nightsToCalm : (Cond.code yX0_nightsToCalm cX0_nightsToCalm 4 (some .int)) ∈ lw_all := lw_in 164 (by decide +kernel) (by decide +kernel)
theorem mM_X0_204 : (Cond.methodLink RX0 204 yX0_nerveGain) ∈ lw_all := lw_in 165 (by decide +kernel) (by decide +kernel)
theorem mT_X0_nerveGain : (Cond.static yX0_nerveGain) ∈ lw_all := lw_in 166 (by decide +kernel) (by decide +kernel)
theorem mC_X0_nerveGain : (Cond.code yX0_nerveGain cX0_nerveGain 1 (some .int)) ∈ lw_all := lw_in 167 (by decide +kernel) (by decide +kernel)
theorem mM_X0_102 : (Cond.methodLink RX0 102 Lib.Math.max.name) ∈ lw_all := lw_in 168 (by decide +kernel) (by decide +kernel)
theorem mT_max : (Cond.static Lib.Math.max.name) ∈ lw_all := lw_in 169 (by decide +kernel) (by decide +kernel)
theorem mC_max : (Cond.code Lib.Math.max.name Lib.Math.max.code 2 (some .int)) ∈ lw_all := lw_in 170 (by decide +kernel) (by decide +kernel)
theorem mM_L_226 : (Cond.methodLink RL 226 yX0_steadiest) ∈ lw_all := lw_in 171 (by decide +kernel) (by decide +kernel)
theorem mV_X0_steadiest : (Cond.instanceMethod yX0_steadiest) ∈ lw_all := lw_in 172 (by decide +kernel) (by decide +kernel)
theorem mS_X0_steadiest : (Cond.selects RX0 yX0_steadiest yX0_steadiest) ∈ lw_all := lw_in 173 (by decide +kernel) (by decide +kernel)
theorem mC_X0_steadiest : (Cond.code yX0_steadiest cX0_steadiest 4 (some .int)) ∈ lw_all := lw_in 174 (by decide +kernel) (by decide +kernel)
theorem mM_L_230 : (Cond.methodLink RL 230 yX0_luckiest) ∈ lw_all := lw_in 175 (by decide +kernel) (by decide +kernel)
theorem mV_X0_luckiest : (Cond.instanceMethod yX0_luckiest) ∈ lw_all := lw_in 176 (by decide +kernel) (by decide +kernel)
theorem mS_X0_luckiest : (Cond.selects RX0 yX0_luckiest yX0_luckiest) ∈ lw_all := lw_in 177 (by decide +kernel) (by decide +kernel)
theorem mC_X0_luckiest : (Cond.code yX0_luckiest cX0_luckiest 4 (some .int)) ∈ lw_all := lw_in 178 (by decide +kernel) (by decide +kernel)
theorem mM_L_234 : (Cond.methodLink RL 234 yX0_meanLuck) ∈ lw_all := lw_in 179 (by decide +kernel) (by decide +kernel)
theorem mV_X0_meanLuck : (Cond.instanceMethod yX0_meanLuck) ∈ lw_all := lw_in 180 (by decide +kernel) (by decide +kernel)
theorem mS_X0_meanLuck : (Cond.selects RX0 yX0_meanLuck yX0_meanLuck) ∈ lw_all := lw_in 181 (by decide +kernel) (by decide +kernel)
theorem mC_X0_meanLuck : (Cond.code yX0_meanLuck cX0_meanLuck 4 (some .double)) ∈ lw_all := lw_in 182 (by decide +kernel) (by decide +kernel)
theorem mM_L_239 : (Cond.methodLink RL 239 yX0_digest) ∈ lw_all := lw_in 183 (by decide +kernel) (by decide +kernel)
theorem mV_X0_digest : (Cond.instanceMethod yX0_digest) ∈ lw_all := lw_in 184 (by decide +kernel) (by decide +kernel)
theorem mS_X0_digest : (Cond.selects RX0 yX0_digest yX0_digest) ∈ lw_all := lw_in 185 (by decide +kernel) (by decide +kernel)
theorem mC_X0_digest : (Cond.code yX0_digest cX0_digest 4 (some .long)) ∈ lw_all := lw_in 186 (by decide +kernel) (by decide +kernel)
theorem mL_X0_163 : (Cond.constantLong RX0 163 1951) ∈ lw_all := lw_in 187 (by decide +kernel) (by decide +kernel)
theorem mM_X0_165 : (Cond.methodLink RX0 165 yX0_digestRegistry) ∈ lw_all := lw_in 188 (by decide +kernel) (by decide +kernel)
theorem mV_X0_digestRegistry : (Cond.instanceMethod yX0_digestRegistry) ∈ lw_all := lw_in 190 (by decide +kernel) (by decide +kernel)
theorem mC_X0_digestRegistry : (Cond.code yX0_digestRegistry cX0_digestRegistry 3 (some .long)) ∈ lw_all := lw_in 191 (by decide +kernel) (by decide +kernel)
theorem mM_X0_233 : (Cond.methodLink RX0 233 yX0_night) ∈ lw_all := lw_in 192 (by decide +kernel) (by decide +kernel)
theorem mM_X0_173 : (Cond.methodLink RX0 173 yX0_mix) ∈ lw_all := lw_in 193 (by decide +kernel) (by decide +kernel)
theorem mT_X0_mix : (Cond.static yX0_mix) ∈ lw_all := lw_in 194 (by decide +kernel) (by decide +kernel)
theorem mC_X0_mix : (Cond.code yX0_mix cX0_mix 4 (some .long)) ∈ lw_all := lw_in 195 (by decide +kernel) (by decide +kernel)
theorem mL_X0_231 : (Cond.constantLong RX0 231 31) ∈ lw_all := lw_in 196 (by decide +kernel) (by decide +kernel)
theorem mM_X0_236 : (Cond.methodLink RX0 236 yX0_persons) ∈ lw_all := lw_in 197 (by decide +kernel) (by decide +kernel)
theorem mM_X0_239 : (Cond.methodLink RX0 239 yX0_alive) ∈ lw_all := lw_in 198 (by decide +kernel) (by decide +kernel)
theorem mM_X0_242 : (Cond.methodLink RX0 242 yX0_witnesses) ∈ lw_all := lw_in 199 (by decide +kernel) (by decide +kernel)
theorem mM_X0_129 : (Cond.methodLink RX0 129 yX0_shaken) ∈ lw_all := lw_in 200 (by decide +kernel) (by decide +kernel)
theorem mM_X0_245 : (Cond.methodLink RX0 245 yX0_fund) ∈ lw_all := lw_in 201 (by decide +kernel) (by decide +kernel)
theorem mM_X0_248 : (Cond.methodLink RX0 248 yX0_refunded) ∈ lw_all := lw_in 202 (by decide +kernel) (by decide +kernel)
theorem mM_X0_251 : (Cond.methodLink RX0 251 yX0_misses) ∈ lw_all := lw_in 203 (by decide +kernel) (by decide +kernel)
theorem mM_X0_254 : (Cond.methodLink RX0 254 yX0_certified) ∈ lw_all := lw_in 204 (by decide +kernel) (by decide +kernel)
theorem mM_X0_257 : (Cond.methodLink RX0 257 yX0_wouldCertify) ∈ lw_all := lw_in 205 (by decide +kernel) (by decide +kernel)
theorem mV_X0_wouldCertify : (Cond.instanceMethod yX0_wouldCertify) ∈ lw_all := lw_in 206 (by decide +kernel) (by decide +kernel)
theorem mS_X0_wouldCertify : (Cond.selects RX0 yX0_wouldCertify yX0_wouldCertify) ∈ lw_all := lw_in 207 (by decide +kernel) (by decide +kernel)
theorem mC_X0_wouldCertify : (Cond.code yX0_wouldCertify cX0_wouldCertify 2 (some .int)) ∈ lw_all := lw_in 208 (by decide +kernel) (by decide +kernel)
theorem mM_X0_87 : (Cond.methodLink RX0 87 yX0_requireInches) ∈ lw_all := lw_in 209 (by decide +kernel) (by decide +kernel)
theorem mV_X0_requireInches : (Cond.instanceMethod yX0_requireInches) ∈ lw_all := lw_in 211 (by decide +kernel) (by decide +kernel)
theorem mC_X0_requireInches : (Cond.code yX0_requireInches cX0_requireInches 2 none) ∈ lw_all := lw_in 212 (by decide +kernel) (by decide +kernel)
theorem mK_X0_41 : (Cond.classLink RX0 41 "java/lang/IllegalArgumentException") ∈ lw_all := lw_in 213 (by decide +kernel) (by decide +kernel)
theorem mB_IllegalArgumentException : (Cond.instantiable "java/lang/IllegalArgumentException" 6) ∈ lw_all := lw_in 214 (by decide +kernel) (by decide +kernel)
theorem mS_java_lang_Throwable_fillInStackTrace_I_Ljava_lang_Throwable_IllegalArgumentException : (Cond.selects "java/lang/IllegalArgumentException" ⟨"java/lang/Throwable", "fillInStackTrace", "(I)Ljava/lang/Throwable;"⟩ ⟨"java/lang/Throwable", "fillInStackTrace", "(I)Ljava/lang/Throwable;"⟩) ∈ lw_all := lw_in 222 (by decide +kernel) (by decide +kernel)
theorem mS_java_lang_Throwable_fillInStackTrace_Ljava_lang_Throwable_IllegalArgumentException : (Cond.selects "java/lang/IllegalArgumentException" ⟨"java/lang/Throwable", "fillInStackTrace", "()Ljava/lang/Throwable;"⟩ ⟨"java/lang/Throwable", "fillInStackTrace", "()Ljava/lang/Throwable;"⟩) ∈ lw_all := lw_in 223 (by decide +kernel) (by decide +kernel)
theorem mF_java_lang_Throwable_198 : (Cond.fieldLink "java/lang/Throwable" 198 "java/lang/Throwable" "backtrace" "Ljava/lang/Object;") ∈ lw_all := lw_in 234 (by decide +kernel) (by decide +kernel)
theorem mV_java_lang_Throwable_init_V : (Cond.instanceMethod ⟨"java/lang/Throwable", "<init>", "()V"⟩) ∈ lw_all := lw_in 236 (by decide +kernel) (by decide +kernel)
theorem mC_java_lang_Throwable_init_V : (Cond.code ⟨"java/lang/Throwable", "<init>", "()V"⟩ prog_13_method_1_code 1 none) ∈ lw_all := lw_in 237 (by decide +kernel) (by decide +kernel)
theorem mM_java_lang_Throwable_1 : (Cond.methodLink "java/lang/Throwable" 1 objectInit) ∈ lw_all := lw_in 238 (by decide +kernel) (by decide +kernel)
theorem mF_java_lang_Throwable_13 : (Cond.fieldLink "java/lang/Throwable" 13 "java/lang/Throwable" "UNASSIGNED_STACK" "[Ljava/lang/StackTraceElement;") ∈ lw_all := lw_in 239 (by decide +kernel) (by decide +kernel)
theorem mF_java_lang_Throwable_20 : (Cond.fieldLink "java/lang/Throwable" 20 "java/lang/Throwable" "SUPPRESSED_SENTINEL" "Ljava/util/List;") ∈ lw_all := lw_in 241 (by decide +kernel) (by decide +kernel)
theorem mM_java_lang_Throwable_27 : (Cond.methodLink "java/lang/Throwable" 27 ⟨"java/lang/Throwable", "fillInStackTrace", "()Ljava/lang/Throwable;"⟩) ∈ lw_all := lw_in 243 (by decide +kernel) (by decide +kernel)
theorem mV_java_lang_Throwable_fillInStackTrace_Ljava_lang_Throwable : (Cond.instanceMethod ⟨"java/lang/Throwable", "fillInStackTrace", "()Ljava/lang/Throwable;"⟩) ∈ lw_all := lw_in 244 (by decide +kernel) (by decide +kernel)
theorem mS_java_lang_Throwable_fillInStackTrace_Ljava_lang_Throwable_IllegalStateException : (Cond.selects "java/lang/IllegalStateException" ⟨"java/lang/Throwable", "fillInStackTrace", "()Ljava/lang/Throwable;"⟩ ⟨"java/lang/Throwable", "fillInStackTrace", "()Ljava/lang/Throwable;"⟩) ∈ lw_all := lw_in 246 (by decide +kernel) (by decide +kernel)
theorem mS_java_lang_Throwable_fillInStackTrace_Ljava_lang_Throwable_IndexOutOfBoundsException : (Cond.selects "java/lang/IndexOutOfBoundsException" ⟨"java/lang/Throwable", "fillInStackTrace", "()Ljava/lang/Throwable;"⟩ ⟨"java/lang/Throwable", "fillInStackTrace", "()Ljava/lang/Throwable;"⟩) ∈ lw_all := lw_in 247 (by decide +kernel) (by decide +kernel)
theorem mC_java_lang_Throwable_fillInStackTrace_Ljava_lang_Throwable : (Cond.codeSync ⟨"java/lang/Throwable", "fillInStackTrace", "()Ljava/lang/Throwable;"⟩ prog_13_method_18_code 1 (some (.object "java/lang/Throwable"))) ∈ lw_all := lw_in 248 (by decide +kernel) (by decide +kernel)
theorem mM_java_lang_Throwable_202 : (Cond.methodLink "java/lang/Throwable" 202 ⟨"java/lang/Throwable", "fillInStackTrace", "(I)Ljava/lang/Throwable;"⟩) ∈ lw_all := lw_in 249 (by decide +kernel) (by decide +kernel)
theorem mV_java_lang_Throwable_fillInStackTrace_I_Ljava_lang_Throwable : (Cond.instanceMethod ⟨"java/lang/Throwable", "fillInStackTrace", "(I)Ljava/lang/Throwable;"⟩) ∈ lw_all := lw_in 251 (by decide +kernel) (by decide +kernel)
theorem mB_Throwable : (Cond.instantiable "java/lang/Throwable" 6) ∈ lw_all := lw_in 252 (by decide +kernel) (by decide +kernel)
theorem mN_java_lang_Throwable_fillInStackTrace_I_Ljava_lang_Throwable : (Cond.native ⟨"java/lang/Throwable", "fillInStackTrace", "(I)Ljava/lang/Throwable;"⟩) ∈ lw_all := lw_in 253 (by decide +kernel) (by decide +kernel)
theorem mM_X0_45 : (Cond.methodLink RX0 45 ⟨"java/lang/IllegalArgumentException", "<init>", "(Ljava/lang/String;)V"⟩) ∈ lw_all := lw_in 255 (by decide +kernel) (by decide +kernel)
theorem mV_java_lang_IllegalArgumentException_init_Ljava_lang_String_V : (Cond.instanceMethod ⟨"java/lang/IllegalArgumentException", "<init>", "(Ljava/lang/String;)V"⟩) ∈ lw_all := lw_in 256 (by decide +kernel) (by decide +kernel)
theorem mC_java_lang_IllegalArgumentException_init_Ljava_lang_String_V : (Cond.code ⟨"java/lang/IllegalArgumentException", "<init>", "(Ljava/lang/String;)V"⟩ prog_5_method_2_code 2 none) ∈ lw_all := lw_in 257 (by decide +kernel) (by decide +kernel)
theorem mM_java_lang_IllegalArgumentException_7 : (Cond.methodLink "java/lang/IllegalArgumentException" 7 ⟨"java/lang/RuntimeException", "<init>", "(Ljava/lang/String;)V"⟩) ∈ lw_all := lw_in 258 (by decide +kernel) (by decide +kernel)
theorem mV_java_lang_RuntimeException_init_Ljava_lang_String_V : (Cond.instanceMethod ⟨"java/lang/RuntimeException", "<init>", "(Ljava/lang/String;)V"⟩) ∈ lw_all := lw_in 259 (by decide +kernel) (by decide +kernel)
theorem mC_java_lang_RuntimeException_init_Ljava_lang_String_V : (Cond.code ⟨"java/lang/RuntimeException", "<init>", "(Ljava/lang/String;)V"⟩ prog_9_method_2_code 2 none) ∈ lw_all := lw_in 260 (by decide +kernel) (by decide +kernel)
theorem mM_java_lang_RuntimeException_7 : (Cond.methodLink "java/lang/RuntimeException" 7 ⟨"java/lang/Exception", "<init>", "(Ljava/lang/String;)V"⟩) ∈ lw_all := lw_in 261 (by decide +kernel) (by decide +kernel)
theorem mV_java_lang_Exception_init_Ljava_lang_String_V : (Cond.instanceMethod ⟨"java/lang/Exception", "<init>", "(Ljava/lang/String;)V"⟩) ∈ lw_all := lw_in 262 (by decide +kernel) (by decide +kernel)
theorem mC_java_lang_Exception_init_Ljava_lang_String_V : (Cond.code ⟨"java/lang/Exception", "<init>", "(Ljava/lang/String;)V"⟩ prog_4_method_2_code 2 none) ∈ lw_all := lw_in 263 (by decide +kernel) (by decide +kernel)
theorem mM_java_lang_Exception_7 : (Cond.methodLink "java/lang/Exception" 7 ⟨"java/lang/Throwable", "<init>", "(Ljava/lang/String;)V"⟩) ∈ lw_all := lw_in 264 (by decide +kernel) (by decide +kernel)
theorem mV_java_lang_Throwable_init_Ljava_lang_String_V : (Cond.instanceMethod ⟨"java/lang/Throwable", "<init>", "(Ljava/lang/String;)V"⟩) ∈ lw_all := lw_in 265 (by decide +kernel) (by decide +kernel)
theorem mC_java_lang_Throwable_init_Ljava_lang_String_V : (Cond.code ⟨"java/lang/Throwable", "<init>", "(Ljava/lang/String;)V"⟩ prog_13_method_2_code 2 none) ∈ lw_all := lw_in 266 (by decide +kernel) (by decide +kernel)
theorem mF_java_lang_Throwable_31 : (Cond.fieldLink "java/lang/Throwable" 31 "java/lang/Throwable" "detailMessage" "Ljava/lang/String;") ∈ lw_all := lw_in 268 (by decide +kernel) (by decide +kernel)
theorem mF_java_lang_Throwable_7 : (Cond.fieldLink "java/lang/Throwable" 7 "java/lang/Throwable" "cause" "Ljava/lang/Throwable;") ∈ lw_all := lw_in 269 (by decide +kernel) (by decide +kernel)
theorem mF_java_lang_Throwable_17 : (Cond.fieldLink "java/lang/Throwable" 17 "java/lang/Throwable" "stackTrace" "[Ljava/lang/StackTraceElement;") ∈ lw_all := lw_in 270 (by decide +kernel) (by decide +kernel)
theorem mF_java_lang_Throwable_24 : (Cond.fieldLink "java/lang/Throwable" 24 "java/lang/Throwable" "suppressedExceptions" "Ljava/util/List;") ∈ lw_all := lw_in 271 (by decide +kernel) (by decide +kernel)
theorem mA_byte : (Cond.arrayClass .byte) ∈ lw_all := lw_in 280 (by decide +kernel) (by decide +kernel)
theorem mM_X0_95 : (Cond.methodLink RX0 95 yX0_middleTale) ∈ lw_all := lw_in 281 (by decide +kernel) (by decide +kernel)
theorem mV_X0_middleTale : (Cond.instanceMethod yX0_middleTale) ∈ lw_all := lw_in 283 (by decide +kernel) (by decide +kernel)
theorem mC_X0_middleTale : (Cond.code yX0_middleTale cX0_middleTale 4 (some .int)) ∈ lw_all := lw_in 284 (by decide +kernel) (by decide +kernel)
theorem mM_X0_142 : (Cond.methodLink RX0 142 yX0_tale) ∈ lw_all := lw_in 285 (by decide +kernel) (by decide +kernel)
theorem mV_X0_tale : (Cond.instanceMethod yX0_tale) ∈ lw_all := lw_in 287 (by decide +kernel) (by decide +kernel)
theorem mC_X0_tale : (Cond.code yX0_tale cX0_tale 3 (some .int)) ∈ lw_all := lw_in 288 (by decide +kernel) (by decide +kernel)
theorem mM_X0_197 : (Cond.methodLink RX0 197 yX0_insertTale) ∈ lw_all := lw_in 289 (by decide +kernel) (by decide +kernel)
theorem mV_X0_insertTale : (Cond.instanceMethod yX0_insertTale) ∈ lw_all := lw_in 291 (by decide +kernel) (by decide +kernel)
theorem mC_X0_insertTale : (Cond.code yX0_insertTale cX0_insertTale 4 none) ∈ lw_all := lw_in 292 (by decide +kernel) (by decide +kernel)
theorem mM_X0_260 : (Cond.methodLink RX0 260 yX0_missesUntilShaken) ∈ lw_all := lw_in 293 (by decide +kernel) (by decide +kernel)
theorem mV_X0_missesUntilShaken : (Cond.instanceMethod yX0_missesUntilShaken) ∈ lw_all := lw_in 294 (by decide +kernel) (by decide +kernel)
theorem mS_X0_missesUntilShaken : (Cond.selects RX0 yX0_missesUntilShaken yX0_missesUntilShaken) ∈ lw_all := lw_in 295 (by decide +kernel) (by decide +kernel)
theorem mC_X0_missesUntilShaken : (Cond.code yX0_missesUntilShaken cX0_missesUntilShaken 5 (some .int)) ∈ lw_all := lw_in 296 (by decide +kernel) (by decide +kernel)
theorem mM_X0_154 : (Cond.methodLink RX0 154 yX0_steadiest) ∈ lw_all := lw_in 297 (by decide +kernel) (by decide +kernel)
theorem mM_X0_157 : (Cond.methodLink RX0 157 yX0_isWitness) ∈ lw_all := lw_in 298 (by decide +kernel) (by decide +kernel)
theorem mV_X0_isWitness : (Cond.instanceMethod yX0_isWitness) ∈ lw_all := lw_in 300 (by decide +kernel) (by decide +kernel)
theorem mC_X0_isWitness : (Cond.code yX0_isWitness cX0_isWitness 2 (some .boolean)) ∈ lw_all := lw_in 301 (by decide +kernel) (by decide +kernel)
theorem mM_X0_108 : (Cond.methodLink RX0 108 yX0_nerveLoss) ∈ lw_all := lw_in 302 (by decide +kernel) (by decide +kernel)
theorem mT_X0_nerveLoss : (Cond.static yX0_nerveLoss) ∈ lw_all := lw_in 303 (by decide +kernel) (by decide +kernel)
theorem mC_X0_nerveLoss : (Cond.code yX0_nerveLoss cX0_nerveLoss 1 (some .int)) ∈ lw_all := lw_in 304 (by decide +kernel) (by decide +kernel)
theorem mM_X0_263 : (Cond.methodLink RX0 263 yX0_nightsUntilCalm) ∈ lw_all := lw_in 305 (by decide +kernel) (by decide +kernel)
theorem mM_X0_266 : (Cond.methodLink RX0 266 yX0_luckiest) ∈ lw_all := lw_in 306 (by decide +kernel) (by decide +kernel)
theorem mM_X0_169 : (Cond.methodLink RX0 169 yX0_digestPerson) ∈ lw_all := lw_in 307 (by decide +kernel) (by decide +kernel)
theorem mV_X0_digestPerson : (Cond.instanceMethod yX0_digestPerson) ∈ lw_all := lw_in 309 (by decide +kernel) (by decide +kernel)
theorem mC_X0_digestPerson : (Cond.code yX0_digestPerson cX0_digestPerson 4 (some .long)) ∈ lw_all := lw_in 310 (by decide +kernel) (by decide +kernel)
theorem mM_X0_269 : (Cond.methodLink RX0 269 yX0_isAlive) ∈ lw_all := lw_in 311 (by decide +kernel) (by decide +kernel)
theorem mV_X0_isAlive : (Cond.instanceMethod yX0_isAlive) ∈ lw_all := lw_in 312 (by decide +kernel) (by decide +kernel)
theorem mS_X0_isAlive : (Cond.selects RX0 yX0_isAlive yX0_isAlive) ∈ lw_all := lw_in 313 (by decide +kernel) (by decide +kernel)
theorem mC_X0_isAlive : (Cond.code yX0_isAlive cX0_isAlive 2 (some .boolean)) ∈ lw_all := lw_in 314 (by decide +kernel) (by decide +kernel)
theorem mM_X0_64 : (Cond.methodLink RX0 64 yX0_requirePerson) ∈ lw_all := lw_in 315 (by decide +kernel) (by decide +kernel)
theorem mV_X0_requirePerson : (Cond.instanceMethod yX0_requirePerson) ∈ lw_all := lw_in 317 (by decide +kernel) (by decide +kernel)
theorem mC_X0_requirePerson : (Cond.code yX0_requirePerson cX0_requirePerson 2 none) ∈ lw_all := lw_in 318 (by decide +kernel) (by decide +kernel)
theorem mM_X0_117 : (Cond.methodLink RX0 117 yX0_isPerson) ∈ lw_all := lw_in 319 (by decide +kernel) (by decide +kernel)
theorem mV_X0_isPerson : (Cond.instanceMethod yX0_isPerson) ∈ lw_all := lw_in 321 (by decide +kernel) (by decide +kernel)
theorem mC_X0_isPerson : (Cond.code yX0_isPerson cX0_isPerson 2 (some .boolean)) ∈ lw_all := lw_in 322 (by decide +kernel) (by decide +kernel)
theorem mK_X0_184 : (Cond.classLink RX0 184 "java/lang/IndexOutOfBoundsException") ∈ lw_all := lw_in 323 (by decide +kernel) (by decide +kernel)
theorem mB_IndexOutOfBoundsException : (Cond.instantiable "java/lang/IndexOutOfBoundsException" 6) ∈ lw_all := lw_in 324 (by decide +kernel) (by decide +kernel)
theorem mS_java_lang_Throwable_fillInStackTrace_I_Ljava_lang_Throwable_IndexOutOfBoundsException : (Cond.selects "java/lang/IndexOutOfBoundsException" ⟨"java/lang/Throwable", "fillInStackTrace", "(I)Ljava/lang/Throwable;"⟩ ⟨"java/lang/Throwable", "fillInStackTrace", "(I)Ljava/lang/Throwable;"⟩) ∈ lw_all := lw_in 326 (by decide +kernel) (by decide +kernel)
theorem mM_X0_188 : (Cond.methodLink RX0 188 ⟨"java/lang/IndexOutOfBoundsException", "<init>", "(Ljava/lang/String;)V"⟩) ∈ lw_all := lw_in 333 (by decide +kernel) (by decide +kernel)
theorem mV_java_lang_IndexOutOfBoundsException_init_Ljava_lang_String_V : (Cond.instanceMethod ⟨"java/lang/IndexOutOfBoundsException", "<init>", "(Ljava/lang/String;)V"⟩) ∈ lw_all := lw_in 334 (by decide +kernel) (by decide +kernel)
theorem mC_java_lang_IndexOutOfBoundsException_init_Ljava_lang_String_V : (Cond.code ⟨"java/lang/IndexOutOfBoundsException", "<init>", "(Ljava/lang/String;)V"⟩ prog_7_method_2_code 2 none) ∈ lw_all := lw_in 335 (by decide +kernel) (by decide +kernel)
theorem mM_java_lang_IndexOutOfBoundsException_7 : (Cond.methodLink "java/lang/IndexOutOfBoundsException" 7 ⟨"java/lang/RuntimeException", "<init>", "(Ljava/lang/String;)V"⟩) ∈ lw_all := lw_in 336 (by decide +kernel) (by decide +kernel)
theorem mM_X0_177 : (Cond.methodLink RX0 177 yX0_asNumber) ∈ lw_all := lw_in 339 (by decide +kernel) (by decide +kernel)
theorem mT_X0_asNumber : (Cond.static yX0_asNumber) ∈ lw_all := lw_in 340 (by decide +kernel) (by decide +kernel)
theorem mC_X0_asNumber : (Cond.code yX0_asNumber cX0_asNumber 1 (some .int)) ∈ lw_all := lw_in 341 (by decide +kernel) (by decide +kernel)
theorem mM_X0_272 : (Cond.methodLink RX0 272 yX0_luckOf) ∈ lw_all := lw_in 342 (by decide +kernel) (by decide +kernel)
theorem mV_X0_luckOf : (Cond.instanceMethod yX0_luckOf) ∈ lw_all := lw_in 343 (by decide +kernel) (by decide +kernel)
theorem mS_X0_luckOf : (Cond.selects RX0 yX0_luckOf yX0_luckOf) ∈ lw_all := lw_in 344 (by decide +kernel) (by decide +kernel)
theorem mC_X0_luckOf : (Cond.code yX0_luckOf cX0_luckOf 2 (some .int)) ∈ lw_all := lw_in 345 (by decide +kernel) (by decide +kernel)
theorem mM_X0_275 : (Cond.methodLink RX0 275 yX0_purseOf) ∈ lw_all := lw_in 346 (by decide +kernel) (by decide +kernel)
theorem mV_X0_purseOf : (Cond.instanceMethod yX0_purseOf) ∈ lw_all := lw_in 347 (by decide +kernel) (by decide +kernel)
theorem mS_X0_purseOf : (Cond.selects RX0 yX0_purseOf yX0_purseOf) ∈ lw_all := lw_in 348 (by decide +kernel) (by decide +kernel)
theorem mC_X0_purseOf : (Cond.code yX0_purseOf cX0_purseOf 2 (some .int)) ∈ lw_all := lw_in 349 (by decide +kernel) (by decide +kernel)
theorem mM_X0_278 : (Cond.methodLink RX0 278 yX0_fatesOf) ∈ lw_all := lw_in 350 (by decide +kernel) (by decide +kernel)
theorem mV_X0_fatesOf : (Cond.instanceMethod yX0_fatesOf) ∈ lw_all := lw_in 351 (by decide +kernel) (by decide +kernel)
theorem mS_X0_fatesOf : (Cond.selects RX0 yX0_fatesOf yX0_fatesOf) ∈ lw_all := lw_in 352 (by decide +kernel) (by decide +kernel)
theorem mC_X0_fatesOf : (Cond.code yX0_fatesOf cX0_fatesOf 2 (some .int)) ∈ lw_all := lw_in 353 (by decide +kernel) (by decide +kernel)
theorem mM_X0_281 : (Cond.methodLink RX0 281 yX0_heirOf) ∈ lw_all := lw_in 354 (by decide +kernel) (by decide +kernel)
theorem mV_X0_heirOf : (Cond.instanceMethod yX0_heirOf) ∈ lw_all := lw_in 355 (by decide +kernel) (by decide +kernel)
theorem mS_X0_heirOf : (Cond.selects RX0 yX0_heirOf yX0_heirOf) ∈ lw_all := lw_in 356 (by decide +kernel) (by decide +kernel)
theorem mC_X0_heirOf : (Cond.code yX0_heirOf cX0_heirOf 2 (some .int)) ∈ lw_all := lw_in 357 (by decide +kernel) (by decide +kernel)
theorem mM_X0_284 : (Cond.methodLink RX0 284 yX0_lastHeirOf) ∈ lw_all := lw_in 358 (by decide +kernel) (by decide +kernel)
theorem mV_X0_lastHeirOf : (Cond.instanceMethod yX0_lastHeirOf) ∈ lw_all := lw_in 359 (by decide +kernel) (by decide +kernel)
theorem mS_X0_lastHeirOf : (Cond.selects RX0 yX0_lastHeirOf yX0_lastHeirOf) ∈ lw_all := lw_in 360 (by decide +kernel) (by decide +kernel)
theorem mC_X0_lastHeirOf : (Cond.code yX0_lastHeirOf cX0_lastHeirOf 2 (some .int)) ∈ lw_all := lw_in 361 (by decide +kernel) (by decide +kernel)
theorem mM_X0_114 : (Cond.methodLink RX0 114 yX0_findLastHeir) ∈ lw_all := lw_in 362 (by decide +kernel) (by decide +kernel)
theorem mV_X0_findLastHeir : (Cond.instanceMethod yX0_findLastHeir) ∈ lw_all := lw_in 364 (by decide +kernel) (by decide +kernel)
theorem mC_X0_findLastHeir : (Cond.code yX0_findLastHeir cX0_findLastHeir 4 (some .int)) ∈ lw_all := lw_in 365 (by decide +kernel) (by decide +kernel)
theorem mM_X0_287 : (Cond.methodLink RX0 287 yX0_missesOf) ∈ lw_all := lw_in 366 (by decide +kernel) (by decide +kernel)
theorem mV_X0_missesOf : (Cond.instanceMethod yX0_missesOf) ∈ lw_all := lw_in 367 (by decide +kernel) (by decide +kernel)
theorem mS_X0_missesOf : (Cond.selects RX0 yX0_missesOf yX0_missesOf) ∈ lw_all := lw_in 368 (by decide +kernel) (by decide +kernel)
theorem mC_X0_missesOf : (Cond.code yX0_missesOf cX0_missesOf 4 (some .int)) ∈ lw_all := lw_in 369 (by decide +kernel) (by decide +kernel)
theorem mM_X0_290 : (Cond.methodLink RX0 290 yX0_closestOf) ∈ lw_all := lw_in 370 (by decide +kernel) (by decide +kernel)
theorem mV_X0_closestOf : (Cond.instanceMethod yX0_closestOf) ∈ lw_all := lw_in 371 (by decide +kernel) (by decide +kernel)
theorem mS_X0_closestOf : (Cond.selects RX0 yX0_closestOf yX0_closestOf) ∈ lw_all := lw_in 372 (by decide +kernel) (by decide +kernel)
theorem mC_X0_closestOf : (Cond.code yX0_closestOf cX0_closestOf 5 (some .int)) ∈ lw_all := lw_in 373 (by decide +kernel) (by decide +kernel)
theorem mM_X0_181 : (Cond.methodLink RX0 181 yX0_digestLatestMiss) ∈ lw_all := lw_in 374 (by decide +kernel) (by decide +kernel)
theorem mV_X0_digestLatestMiss : (Cond.instanceMethod yX0_digestLatestMiss) ∈ lw_all := lw_in 376 (by decide +kernel) (by decide +kernel)
theorem mC_X0_digestLatestMiss : (Cond.code yX0_digestLatestMiss cX0_digestLatestMiss 4 (some .long)) ∈ lw_all := lw_in 377 (by decide +kernel) (by decide +kernel)
theorem mM_X0_293 : (Cond.methodLink RX0 293 yX0_inchesOf) ∈ lw_all := lw_in 378 (by decide +kernel) (by decide +kernel)
theorem mV_X0_inchesOf : (Cond.instanceMethod yX0_inchesOf) ∈ lw_all := lw_in 379 (by decide +kernel) (by decide +kernel)
theorem mS_X0_inchesOf : (Cond.selects RX0 yX0_inchesOf yX0_inchesOf) ∈ lw_all := lw_in 380 (by decide +kernel) (by decide +kernel)
theorem mC_X0_inchesOf : (Cond.code yX0_inchesOf cX0_inchesOf 2 (some .int)) ∈ lw_all := lw_in 381 (by decide +kernel) (by decide +kernel)
theorem mM_X0_145 : (Cond.methodLink RX0 145 yX0_requireMiss) ∈ lw_all := lw_in 382 (by decide +kernel) (by decide +kernel)
theorem mV_X0_requireMiss : (Cond.instanceMethod yX0_requireMiss) ∈ lw_all := lw_in 384 (by decide +kernel) (by decide +kernel)
theorem mC_X0_requireMiss : (Cond.code yX0_requireMiss cX0_requireMiss 2 none) ∈ lw_all := lw_in 385 (by decide +kernel) (by decide +kernel)
theorem mM_X0_296 : (Cond.methodLink RX0 296 yX0_sealOf) ∈ lw_all := lw_in 387 (by decide +kernel) (by decide +kernel)
theorem mV_X0_sealOf : (Cond.instanceMethod yX0_sealOf) ∈ lw_all := lw_in 388 (by decide +kernel) (by decide +kernel)
theorem mS_X0_sealOf : (Cond.selects RX0 yX0_sealOf yX0_sealOf) ∈ lw_all := lw_in 389 (by decide +kernel) (by decide +kernel)
theorem mC_X0_sealOf : (Cond.code yX0_sealOf cX0_sealOf 2 (some .int)) ∈ lw_all := lw_in 390 (by decide +kernel) (by decide +kernel)
theorem mM_X0_148 : (Cond.methodLink RX0 148 yX0_certificateSeal) ∈ lw_all := lw_in 391 (by decide +kernel) (by decide +kernel)
theorem mT_X0_certificateSeal : (Cond.static yX0_certificateSeal) ∈ lw_all := lw_in 392 (by decide +kernel) (by decide +kernel)
theorem mC_X0_certificateSeal : (Cond.code yX0_certificateSeal cX0_certificateSeal 3 (some .int)) ∈ lw_all := lw_in 393 (by decide +kernel) (by decide +kernel)
theorem mM_X0_209 : (Cond.methodLink RX0 209 yX0_sealText) ∈ lw_all := lw_in 395 (by decide +kernel) (by decide +kernel)
theorem mT_X0_sealText : (Cond.static yX0_sealText) ∈ lw_all := lw_in 396 (by decide +kernel) (by decide +kernel)
theorem mC_X0_sealText : (Cond.code yX0_sealText cX0_sealText 3 (some .int)) ∈ lw_all := lw_in 397 (by decide +kernel) (by decide +kernel)
theorem mM_X0_222 : (Cond.methodLink RX0 222 yJ0_length_8abf5) ∈ lw_all := lw_in 398 (by decide +kernel) (by decide +kernel)
theorem mV_J0_length_8abf5 : (Cond.instanceMethod yJ0_length_8abf5) ∈ lw_all := lw_in 399 (by decide +kernel) (by decide +kernel)
theorem mS_J0_length_8abf5 : (Cond.selects RJ0 yJ0_length_8abf5 yJ0_length_8abf5) ∈ lw_all := lw_in 400 (by decide +kernel) (by decide +kernel)
theorem mC_J0_length_8abf5 : (Cond.code yJ0_length_8abf5 cJ0_length_8abf5 1 (some .int)) ∈ lw_all := lw_in 401 (by decide +kernel) (by decide +kernel)
theorem mM_J0_335 : (Cond.methodLink RJ0 335 yJ0_coder_7d493) ∈ lw_all := lw_in 402 (by decide +kernel) (by decide +kernel)
theorem mV_J0_coder_7d493 : (Cond.instanceMethod yJ0_coder_7d493) ∈ lw_all := lw_in 403 (by decide +kernel) (by decide +kernel)
theorem mS_J0_coder_7d493 : (Cond.selects RJ0 yJ0_coder_7d493 yJ0_coder_7d493) ∈ lw_all := lw_in 404 (by decide +kernel) (by decide +kernel)
theorem mC_J0_coder_7d493 : (Cond.code yJ0_coder_7d493 cJ0_coder_7d493 1 (some .byte)) ∈ lw_all := lw_in 405 (by decide +kernel) (by decide +kernel)
theorem mF_J0_38 : (Cond.fieldLink RJ0 38 "java/lang/String" "COMPACT_STRINGS" "Z") ∈ lw_all := lw_in 406 (by decide +kernel) (by decide +kernel)
theorem mM_X0_227 : (Cond.methodLink RX0 227 yJ0_charAt_5068e) ∈ lw_all := lw_in 408 (by decide +kernel) (by decide +kernel)
theorem mV_J0_charAt_5068e : (Cond.instanceMethod yJ0_charAt_5068e) ∈ lw_all := lw_in 409 (by decide +kernel) (by decide +kernel)
theorem mS_J0_charAt_5068e : (Cond.selects RJ0 yJ0_charAt_5068e yJ0_charAt_5068e) ∈ lw_all := lw_in 410 (by decide +kernel) (by decide +kernel)
theorem mC_J0_charAt_5068e : (Cond.code yJ0_charAt_5068e cJ0_charAt_5068e 2 (some .char)) ∈ lw_all := lw_in 411 (by decide +kernel) (by decide +kernel)
theorem mM_J0_492 : (Cond.methodLink RJ0 492 yJ0_isLatin1_aae02) ∈ lw_all := lw_in 412 (by decide +kernel) (by decide +kernel)
theorem mV_J0_isLatin1_aae02 : (Cond.instanceMethod yJ0_isLatin1_aae02) ∈ lw_all := lw_in 413 (by decide +kernel) (by decide +kernel)
theorem mS_J0_isLatin1_aae02 : (Cond.selects RJ0 yJ0_isLatin1_aae02 yJ0_isLatin1_aae02) ∈ lw_all := lw_in 414 (by decide +kernel) (by decide +kernel)
theorem mC_J0_isLatin1_aae02 : (Cond.code yJ0_isLatin1_aae02 cJ0_isLatin1_aae02 1 (some .boolean)) ∈ lw_all := lw_in 415 (by decide +kernel) (by decide +kernel)
theorem mM_J0_495 : (Cond.methodLink RJ0 495 yJ1_charAt_3b067) ∈ lw_all := lw_in 416 (by decide +kernel) (by decide +kernel)
theorem mT_J1_charAt_3b067 : (Cond.static yJ1_charAt_3b067) ∈ lw_all := lw_in 417 (by decide +kernel) (by decide +kernel)
theorem mC_J1_charAt_3b067 : (Cond.code yJ1_charAt_3b067 cJ1_charAt_3b067 2 (some .char)) ∈ lw_all := lw_in 418 (by decide +kernel) (by decide +kernel)
theorem mM_J1_9 : (Cond.methodLink RJ1 9 yJ0_checkIndex_df160) ∈ lw_all := lw_in 419 (by decide +kernel) (by decide +kernel)
theorem mT_J0_checkIndex_df160 : (Cond.static yJ0_checkIndex_df160) ∈ lw_all := lw_in 420 (by decide +kernel) (by decide +kernel)
theorem mC_J0_checkIndex_df160 : (Cond.code yJ0_checkIndex_df160 cJ0_checkIndex_df160 2 none) ∈ lw_all := lw_in 421 (by decide +kernel) (by decide +kernel)
theorem mF_J0_1053 : (Cond.fieldLink RJ0 1053 "jdk/internal/util/Preconditions" "SIOOBE_FORMATTER" "Ljava/util/function/BiFunction;") ∈ lw_all := lw_in 422 (by decide +kernel) (by decide +kernel)
theorem mM_J0_1059 : (Cond.methodLink RJ0 1059 yJ3_checkIndex_8e157) ∈ lw_all := lw_in 424 (by decide +kernel) (by decide +kernel)
theorem mT_J3_checkIndex_8e157 : (Cond.static yJ3_checkIndex_8e157) ∈ lw_all := lw_in 425 (by decide +kernel) (by decide +kernel)
theorem mC_J3_checkIndex_8e157 : (Cond.code yJ3_checkIndex_8e157 cJ3_checkIndex_8e157 3 (some .int)) ∈ lw_all := lw_in 426 (by decide +kernel) (by decide +kernel)
theorem mM_J0_498 : (Cond.methodLink RJ0 498 yJ2_charAt_3b067) ∈ lw_all := lw_in 427 (by decide +kernel) (by decide +kernel)
theorem mT_J2_charAt_3b067 : (Cond.static yJ2_charAt_3b067) ∈ lw_all := lw_in 428 (by decide +kernel) (by decide +kernel)
theorem mC_J2_charAt_3b067 : (Cond.code yJ2_charAt_3b067 cJ2_charAt_3b067 2 (some .char)) ∈ lw_all := lw_in 429 (by decide +kernel) (by decide +kernel)
theorem mM_J2_67 : (Cond.methodLink RJ2 67 yJ2_checkIndex_2214a) ∈ lw_all := lw_in 430 (by decide +kernel) (by decide +kernel)
theorem mT_J2_checkIndex_2214a : (Cond.static yJ2_checkIndex_2214a) ∈ lw_all := lw_in 431 (by decide +kernel) (by decide +kernel)
theorem mC_J2_checkIndex_2214a : (Cond.code yJ2_checkIndex_2214a cJ2_checkIndex_2214a 2 none) ∈ lw_all := lw_in 432 (by decide +kernel) (by decide +kernel)
theorem mM_J2_48 : (Cond.methodLink RJ2 48 yJ2_length_9d52b) ∈ lw_all := lw_in 433 (by decide +kernel) (by decide +kernel)
theorem mT_J2_length_9d52b : (Cond.static yJ2_length_9d52b) ∈ lw_all := lw_in 434 (by decide +kernel) (by decide +kernel)
theorem mC_J2_length_9d52b : (Cond.code yJ2_length_9d52b cJ2_length_9d52b 1 (some .int)) ∈ lw_all := lw_in 435 (by decide +kernel) (by decide +kernel)
theorem mM_J2_414 : (Cond.methodLink RJ2 414 yJ0_checkIndex_df160) ∈ lw_all := lw_in 436 (by decide +kernel) (by decide +kernel)
theorem mM_J2_71 : (Cond.methodLink RJ2 71 yJ2_getChar_3b067) ∈ lw_all := lw_in 437 (by decide +kernel) (by decide +kernel)
theorem mT_J2_getChar_3b067 : (Cond.static yJ2_getChar_3b067) ∈ lw_all := lw_in 438 (by decide +kernel) (by decide +kernel)
theorem mC_J2_getChar_3b067 : (Cond.code yJ2_getChar_3b067 cJ2_getChar_3b067 2 (some .char)) ∈ lw_all := lw_in 439 (by decide +kernel) (by decide +kernel)
theorem mF_J2_44 : (Cond.fieldLink RJ2 44 "java/lang/StringUTF16" "$assertionsDisabled" "Z") ∈ lw_all := lw_in 440 (by decide +kernel) (by decide +kernel)
theorem mF_J2_59 : (Cond.fieldLink RJ2 59 "java/lang/StringUTF16" "HI_BYTE_SHIFT" "I") ∈ lw_all := lw_in 442 (by decide +kernel) (by decide +kernel)
theorem mF_J2_63 : (Cond.fieldLink RJ2 63 "java/lang/StringUTF16" "LO_BYTE_SHIFT" "I") ∈ lw_all := lw_in 444 (by decide +kernel) (by decide +kernel)
theorem mM_X0_213 : (Cond.methodLink RX0 213 yX0_sealNumber) ∈ lw_all := lw_in 446 (by decide +kernel) (by decide +kernel)
theorem mT_X0_sealNumber : (Cond.static yX0_sealNumber) ∈ lw_all := lw_in 447 (by decide +kernel) (by decide +kernel)
theorem mC_X0_sealNumber : (Cond.code yX0_sealNumber cX0_sealNumber 2 (some .int)) ∈ lw_all := lw_in 448 (by decide +kernel) (by decide +kernel)
theorem mM_L_100 : (Cond.methodLink RL 100 yL_addPerson) ∈ lw_all := lw_in 452 (by decide +kernel) (by decide +kernel)
theorem mT_L_addPerson : (Cond.static yL_addPerson) ∈ lw_all := lw_in 453 (by decide +kernel) (by decide +kernel)
theorem mC_L_addPerson : (Cond.codeWith yL_addPerson cL_addPerson 4 (some .int) [(0, 9, 12, 13), (0, 9, 15, 15)]) ∈ lw_all := lw_in 454 (by decide +kernel) (by decide +kernel)
theorem mK_L_13 : (Cond.classLink RL 13 "java/lang/IllegalArgumentException") ∈ lw_all := lw_in 455 (by decide +kernel) (by decide +kernel)
theorem mK_L_15 : (Cond.classLink RL 15 "java/lang/IllegalStateException") ∈ lw_all := lw_in 456 (by decide +kernel) (by decide +kernel)
theorem mM_L_7 : (Cond.methodLink RL 7 yX0_addPerson) ∈ lw_all := lw_in 457 (by decide +kernel) (by decide +kernel)
theorem mV_X0_addPerson : (Cond.instanceMethod yX0_addPerson) ∈ lw_all := lw_in 458 (by decide +kernel) (by decide +kernel)
theorem mS_X0_addPerson : (Cond.selects RX0 yX0_addPerson yX0_addPerson) ∈ lw_all := lw_in 459 (by decide +kernel) (by decide +kernel)
theorem mC_X0_addPerson : (Cond.code yX0_addPerson cX0_addPerson 3 (some .int)) ∈ lw_all := lw_in 460 (by decide +kernel) (by decide +kernel)
theorem mK_X0_52 : (Cond.classLink RX0 52 "java/lang/IllegalStateException") ∈ lw_all := lw_in 462 (by decide +kernel) (by decide +kernel)
theorem mB_IllegalStateException : (Cond.instantiable "java/lang/IllegalStateException" 6) ∈ lw_all := lw_in 463 (by decide +kernel) (by decide +kernel)
theorem mS_java_lang_Throwable_fillInStackTrace_I_Ljava_lang_Throwable_IllegalStateException : (Cond.selects "java/lang/IllegalStateException" ⟨"java/lang/Throwable", "fillInStackTrace", "(I)Ljava/lang/Throwable;"⟩ ⟨"java/lang/Throwable", "fillInStackTrace", "(I)Ljava/lang/Throwable;"⟩) ∈ lw_all := lw_in 465 (by decide +kernel) (by decide +kernel)
theorem mM_X0_56 : (Cond.methodLink RX0 56 ⟨"java/lang/IllegalStateException", "<init>", "(Ljava/lang/String;)V"⟩) ∈ lw_all := lw_in 472 (by decide +kernel) (by decide +kernel)
theorem mV_java_lang_IllegalStateException_init_Ljava_lang_String_V : (Cond.instanceMethod ⟨"java/lang/IllegalStateException", "<init>", "(Ljava/lang/String;)V"⟩) ∈ lw_all := lw_in 473 (by decide +kernel) (by decide +kernel)
theorem mC_java_lang_IllegalStateException_init_Ljava_lang_String_V : (Cond.code ⟨"java/lang/IllegalStateException", "<init>", "(Ljava/lang/String;)V"⟩ prog_6_method_2_code 2 none) ∈ lw_all := lw_in 474 (by decide +kernel) (by decide +kernel)
theorem mM_java_lang_IllegalStateException_7 : (Cond.methodLink "java/lang/IllegalStateException" 7 ⟨"java/lang/RuntimeException", "<init>", "(Ljava/lang/String;)V"⟩) ∈ lw_all := lw_in 475 (by decide +kernel) (by decide +kernel)
theorem mM_L_110 : (Cond.methodLink RL 110 yL_addWitness) ∈ lw_all := lw_in 478 (by decide +kernel) (by decide +kernel)
theorem mT_L_addWitness : (Cond.static yL_addWitness) ∈ lw_all := lw_in 479 (by decide +kernel) (by decide +kernel)
theorem mC_L_addWitness : (Cond.codeWith yL_addWitness cL_addWitness 4 (some .int) [(0, 9, 12, 13), (0, 9, 15, 15)]) ∈ lw_all := lw_in 480 (by decide +kernel) (by decide +kernel)
theorem mM_L_17 : (Cond.methodLink RL 17 yX0_addWitness) ∈ lw_all := lw_in 481 (by decide +kernel) (by decide +kernel)
theorem mV_X0_addWitness : (Cond.instanceMethod yX0_addWitness) ∈ lw_all := lw_in 482 (by decide +kernel) (by decide +kernel)
theorem mS_X0_addWitness : (Cond.selects RX0 yX0_addWitness yX0_addWitness) ∈ lw_all := lw_in 483 (by decide +kernel) (by decide +kernel)
theorem mC_X0_addWitness : (Cond.code yX0_addWitness cX0_addWitness 3 (some .int)) ∈ lw_all := lw_in 484 (by decide +kernel) (by decide +kernel)
theorem mM_L_113 : (Cond.methodLink RL 113 yL_setHeir) ∈ lw_all := lw_in 487 (by decide +kernel) (by decide +kernel)
theorem mT_L_setHeir : (Cond.static yL_setHeir) ∈ lw_all := lw_in 488 (by decide +kernel) (by decide +kernel)
theorem mC_L_setHeir : (Cond.codeWith yL_setHeir cL_setHeir 5 (some .int) [(0, 10, 13, 24), (0, 10, 17, 13), (0, 10, 21, 15)]) ∈ lw_all := lw_in 489 (by decide +kernel) (by decide +kernel)
theorem mK_L_24 : (Cond.classLink RL 24 "java/lang/IndexOutOfBoundsException") ∈ lw_all := lw_in 490 (by decide +kernel) (by decide +kernel)
theorem mM_L_20 : (Cond.methodLink RL 20 yX0_setHeir) ∈ lw_all := lw_in 491 (by decide +kernel) (by decide +kernel)
theorem mV_X0_setHeir : (Cond.instanceMethod yX0_setHeir) ∈ lw_all := lw_in 492 (by decide +kernel) (by decide +kernel)
theorem mS_X0_setHeir : (Cond.selects RX0 yX0_setHeir yX0_setHeir) ∈ lw_all := lw_in 493 (by decide +kernel) (by decide +kernel)
theorem mC_X0_setHeir : (Cond.code yX0_setHeir cX0_setHeir 4 (some .int)) ∈ lw_all := lw_in 494 (by decide +kernel) (by decide +kernel)
theorem mM_X0_70 : (Cond.methodLink RX0 70 yX0_requireAlive) ∈ lw_all := lw_in 496 (by decide +kernel) (by decide +kernel)
theorem mV_X0_requireAlive : (Cond.instanceMethod yX0_requireAlive) ∈ lw_all := lw_in 498 (by decide +kernel) (by decide +kernel)
theorem mC_X0_requireAlive : (Cond.code yX0_requireAlive cX0_requireAlive 2 none) ∈ lw_all := lw_in 499 (by decide +kernel) (by decide +kernel)
theorem mM_L_117 : (Cond.methodLink RL 117 yL_buyFate) ∈ lw_all := lw_in 501 (by decide +kernel) (by decide +kernel)
theorem mT_L_buyFate : (Cond.static yL_buyFate) ∈ lw_all := lw_in 502 (by decide +kernel) (by decide +kernel)
theorem mC_L_buyFate : (Cond.codeWith yL_buyFate cL_buyFate 4 (some .int) [(0, 9, 12, 24), (0, 9, 15, 15)]) ∈ lw_all := lw_in 503 (by decide +kernel) (by decide +kernel)
theorem mM_L_26 : (Cond.methodLink RL 26 yX0_buyFate) ∈ lw_all := lw_in 504 (by decide +kernel) (by decide +kernel)
theorem mV_X0_buyFate : (Cond.instanceMethod yX0_buyFate) ∈ lw_all := lw_in 505 (by decide +kernel) (by decide +kernel)
theorem mS_X0_buyFate : (Cond.selects RX0 yX0_buyFate yX0_buyFate) ∈ lw_all := lw_in 506 (by decide +kernel) (by decide +kernel)
theorem mC_X0_buyFate : (Cond.code yX0_buyFate cX0_buyFate 3 (some .int)) ∈ lw_all := lw_in 507 (by decide +kernel) (by decide +kernel)
theorem mM_X0_75 : (Cond.methodLink RX0 75 yX0_fatePrice) ∈ lw_all := lw_in 509 (by decide +kernel) (by decide +kernel)
theorem mV_X0_fatePrice : (Cond.instanceMethod yX0_fatePrice) ∈ lw_all := lw_in 511 (by decide +kernel) (by decide +kernel)
theorem mC_X0_fatePrice : (Cond.code yX0_fatePrice cX0_fatePrice 2 (some .int)) ∈ lw_all := lw_in 512 (by decide +kernel) (by decide +kernel)
theorem mM_L_120 : (Cond.methodLink RL 120 yL_turnDuty) ∈ lw_all := lw_in 514 (by decide +kernel) (by decide +kernel)
theorem mT_L_turnDuty : (Cond.static yL_turnDuty) ∈ lw_all := lw_in 515 (by decide +kernel) (by decide +kernel)
theorem mC_L_turnDuty : (Cond.codeWith yL_turnDuty cL_turnDuty 4 (some .int) [(0, 16, 19, 24)]) ∈ lw_all := lw_in 516 (by decide +kernel) (by decide +kernel)
theorem mM_L_29 : (Cond.methodLink RL 29 yX0_turnDuty) ∈ lw_all := lw_in 517 (by decide +kernel) (by decide +kernel)
theorem mV_X0_turnDuty : (Cond.instanceMethod yX0_turnDuty) ∈ lw_all := lw_in 518 (by decide +kernel) (by decide +kernel)
theorem mS_X0_turnDuty : (Cond.selects RX0 yX0_turnDuty yX0_turnDuty) ∈ lw_all := lw_in 519 (by decide +kernel) (by decide +kernel)
theorem mC_X0_turnDuty : (Cond.code yX0_turnDuty cX0_turnDuty 2 (some .boolean)) ∈ lw_all := lw_in 520 (by decide +kernel) (by decide +kernel)
theorem mM_X0_84 : (Cond.methodLink RX0 84 yX0_requireWitness) ∈ lw_all := lw_in 521 (by decide +kernel) (by decide +kernel)
theorem mV_X0_requireWitness : (Cond.instanceMethod yX0_requireWitness) ∈ lw_all := lw_in 523 (by decide +kernel) (by decide +kernel)
theorem mC_X0_requireWitness : (Cond.code yX0_requireWitness cX0_requireWitness 2 none) ∈ lw_all := lw_in 524 (by decide +kernel) (by decide +kernel)
theorem mM_L_123 : (Cond.methodLink RL 123 yL_miss) ∈ lw_all := lw_in 526 (by decide +kernel) (by decide +kernel)
theorem mT_L_miss : (Cond.static yL_miss) ∈ lw_all := lw_in 527 (by decide +kernel) (by decide +kernel)
theorem mC_L_miss : (Cond.codeWith yL_miss cL_miss 5 (some .int) [(0, 10, 13, 24), (0, 10, 17, 13), (0, 10, 21, 15)]) ∈ lw_all := lw_in 528 (by decide +kernel) (by decide +kernel)
theorem mM_L_33 : (Cond.methodLink RL 33 yX0_miss) ∈ lw_all := lw_in 529 (by decide +kernel) (by decide +kernel)
theorem mV_X0_miss : (Cond.instanceMethod yX0_miss) ∈ lw_all := lw_in 530 (by decide +kernel) (by decide +kernel)
theorem mS_X0_miss : (Cond.selects RX0 yX0_miss yX0_miss) ∈ lw_all := lw_in 531 (by decide +kernel) (by decide +kernel)
theorem mC_X0_miss : (Cond.code yX0_miss cX0_miss 4 (some .int)) ∈ lw_all := lw_in 532 (by decide +kernel) (by decide +kernel)
theorem mM_X0_98 : (Cond.methodLink RX0 98 yX0_refundFate) ∈ lw_all := lw_in 534 (by decide +kernel) (by decide +kernel)
theorem mV_X0_refundFate : (Cond.instanceMethod yX0_refundFate) ∈ lw_all := lw_in 536 (by decide +kernel) (by decide +kernel)
theorem mC_X0_refundFate : (Cond.code yX0_refundFate cX0_refundFate 4 none) ∈ lw_all := lw_in 537 (by decide +kernel) (by decide +kernel)
theorem mM_X0_200 : (Cond.methodLink RX0 200 yX0_usesFate) ∈ lw_all := lw_in 538 (by decide +kernel) (by decide +kernel)
theorem mV_X0_usesFate : (Cond.instanceMethod yX0_usesFate) ∈ lw_all := lw_in 540 (by decide +kernel) (by decide +kernel)
theorem mC_X0_usesFate : (Cond.code yX0_usesFate cX0_usesFate 3 (some .boolean)) ∈ lw_all := lw_in 541 (by decide +kernel) (by decide +kernel)
theorem mM_X0_151 : (Cond.methodLink RX0 151 yX0_refundCoins) ∈ lw_all := lw_in 542 (by decide +kernel) (by decide +kernel)
theorem mV_X0_refundCoins : (Cond.instanceMethod yX0_refundCoins) ∈ lw_all := lw_in 544 (by decide +kernel) (by decide +kernel)
theorem mC_X0_refundCoins : (Cond.code yX0_refundCoins cX0_refundCoins 3 (some .int)) ∈ lw_all := lw_in 545 (by decide +kernel) (by decide +kernel)
theorem mM_X0_121 : (Cond.methodLink RX0 121 Lib.Math.min.name) ∈ lw_all := lw_in 546 (by decide +kernel) (by decide +kernel)
theorem mT_min : (Cond.static Lib.Math.min.name) ∈ lw_all := lw_in 547 (by decide +kernel) (by decide +kernel)
theorem mC_min : (Cond.code Lib.Math.min.name Lib.Math.min.code 2 (some .int)) ∈ lw_all := lw_in 548 (by decide +kernel) (by decide +kernel)
theorem mM_X0_111 : (Cond.methodLink RX0 111 yX0_frightenWitnesses) ∈ lw_all := lw_in 549 (by decide +kernel) (by decide +kernel)
theorem mV_X0_frightenWitnesses : (Cond.instanceMethod yX0_frightenWitnesses) ∈ lw_all := lw_in 551 (by decide +kernel) (by decide +kernel)
theorem mC_X0_frightenWitnesses : (Cond.code yX0_frightenWitnesses cX0_frightenWitnesses 3 none) ∈ lw_all := lw_in 552 (by decide +kernel) (by decide +kernel)
theorem mM_L_126 : (Cond.methodLink RL 126 yL_hit) ∈ lw_all := lw_in 553 (by decide +kernel) (by decide +kernel)
theorem mT_L_hit : (Cond.static yL_hit) ∈ lw_all := lw_in 554 (by decide +kernel) (by decide +kernel)
theorem mC_L_hit : (Cond.codeWith yL_hit cL_hit 4 (some .int) [(0, 9, 12, 24), (0, 9, 15, 15)]) ∈ lw_all := lw_in 555 (by decide +kernel) (by decide +kernel)
theorem mM_L_36 : (Cond.methodLink RL 36 yX0_hit) ∈ lw_all := lw_in 556 (by decide +kernel) (by decide +kernel)
theorem mV_X0_hit : (Cond.instanceMethod yX0_hit) ∈ lw_all := lw_in 557 (by decide +kernel) (by decide +kernel)
theorem mS_X0_hit : (Cond.selects RX0 yX0_hit yX0_hit) ∈ lw_all := lw_in 558 (by decide +kernel) (by decide +kernel)
theorem mC_X0_hit : (Cond.code yX0_hit cX0_hit 3 (some .int)) ∈ lw_all := lw_in 559 (by decide +kernel) (by decide +kernel)
theorem mM_L_129 : (Cond.methodLink RL 129 yL_pass) ∈ lw_all := lw_in 560 (by decide +kernel) (by decide +kernel)
theorem mT_L_pass : (Cond.static yL_pass) ∈ lw_all := lw_in 561 (by decide +kernel) (by decide +kernel)
theorem mC_L_pass : (Cond.codeWith yL_pass cL_pass 4 (some .int) [(0, 9, 12, 13)]) ∈ lw_all := lw_in 562 (by decide +kernel) (by decide +kernel)
theorem mM_L_39 : (Cond.methodLink RL 39 yX0_pass) ∈ lw_all := lw_in 563 (by decide +kernel) (by decide +kernel)
theorem mV_X0_pass : (Cond.instanceMethod yX0_pass) ∈ lw_all := lw_in 564 (by decide +kernel) (by decide +kernel)
theorem mS_X0_pass : (Cond.selects RX0 yX0_pass yX0_pass) ∈ lw_all := lw_in 565 (by decide +kernel) (by decide +kernel)
theorem mC_X0_pass : (Cond.code yX0_pass cX0_pass 3 (some .int)) ∈ lw_all := lw_in 566 (by decide +kernel) (by decide +kernel)
theorem mM_X0_126 : (Cond.methodLink RX0 126 yX0_passOneNight) ∈ lw_all := lw_in 568 (by decide +kernel) (by decide +kernel)
theorem mV_X0_passOneNight : (Cond.instanceMethod yX0_passOneNight) ∈ lw_all := lw_in 570 (by decide +kernel) (by decide +kernel)
theorem mC_X0_passOneNight : (Cond.code yX0_passOneNight cX0_passOneNight 2 none) ∈ lw_all := lw_in 571 (by decide +kernel) (by decide +kernel)
theorem mM_L_168 : (Cond.methodLink RL 168 yL_isAlive) ∈ lw_all := lw_in 572 (by decide +kernel) (by decide +kernel)
theorem mT_L_isAlive : (Cond.static yL_isAlive) ∈ lw_all := lw_in 573 (by decide +kernel) (by decide +kernel)
theorem mC_L_isAlive : (Cond.codeWith yL_isAlive cL_isAlive 4 (some .int) [(0, 16, 19, 24)]) ∈ lw_all := lw_in 574 (by decide +kernel) (by decide +kernel)
theorem mM_L_42 : (Cond.methodLink RL 42 yX0_isAlive) ∈ lw_all := lw_in 575 (by decide +kernel) (by decide +kernel)
theorem mM_L_171 : (Cond.methodLink RL 171 yL_luckOf) ∈ lw_all := lw_in 576 (by decide +kernel) (by decide +kernel)
theorem mT_L_luckOf : (Cond.static yL_luckOf) ∈ lw_all := lw_in 577 (by decide +kernel) (by decide +kernel)
theorem mC_L_luckOf : (Cond.codeWith yL_luckOf cL_luckOf 4 (some .int) [(0, 9, 12, 24)]) ∈ lw_all := lw_in 578 (by decide +kernel) (by decide +kernel)
theorem mM_L_45 : (Cond.methodLink RL 45 yX0_luckOf) ∈ lw_all := lw_in 579 (by decide +kernel) (by decide +kernel)
theorem mM_L_174 : (Cond.methodLink RL 174 yL_purseOf) ∈ lw_all := lw_in 580 (by decide +kernel) (by decide +kernel)
theorem mT_L_purseOf : (Cond.static yL_purseOf) ∈ lw_all := lw_in 581 (by decide +kernel) (by decide +kernel)
theorem mC_L_purseOf : (Cond.codeWith yL_purseOf cL_purseOf 4 (some .int) [(0, 9, 12, 24)]) ∈ lw_all := lw_in 582 (by decide +kernel) (by decide +kernel)
theorem mM_L_48 : (Cond.methodLink RL 48 yX0_purseOf) ∈ lw_all := lw_in 583 (by decide +kernel) (by decide +kernel)
theorem mM_L_177 : (Cond.methodLink RL 177 yL_fatesOf) ∈ lw_all := lw_in 584 (by decide +kernel) (by decide +kernel)
theorem mT_L_fatesOf : (Cond.static yL_fatesOf) ∈ lw_all := lw_in 585 (by decide +kernel) (by decide +kernel)
theorem mC_L_fatesOf : (Cond.codeWith yL_fatesOf cL_fatesOf 4 (some .int) [(0, 9, 12, 24)]) ∈ lw_all := lw_in 586 (by decide +kernel) (by decide +kernel)
theorem mM_L_51 : (Cond.methodLink RL 51 yX0_fatesOf) ∈ lw_all := lw_in 587 (by decide +kernel) (by decide +kernel)
theorem mM_L_180 : (Cond.methodLink RL 180 yL_heirOf) ∈ lw_all := lw_in 588 (by decide +kernel) (by decide +kernel)
theorem mT_L_heirOf : (Cond.static yL_heirOf) ∈ lw_all := lw_in 589 (by decide +kernel) (by decide +kernel)
theorem mC_L_heirOf : (Cond.codeWith yL_heirOf cL_heirOf 4 (some .int) [(0, 9, 12, 24)]) ∈ lw_all := lw_in 590 (by decide +kernel) (by decide +kernel)
theorem mM_L_54 : (Cond.methodLink RL 54 yX0_heirOf) ∈ lw_all := lw_in 591 (by decide +kernel) (by decide +kernel)
theorem mM_L_183 : (Cond.methodLink RL 183 yL_lastHeirOf) ∈ lw_all := lw_in 592 (by decide +kernel) (by decide +kernel)
theorem mT_L_lastHeirOf : (Cond.static yL_lastHeirOf) ∈ lw_all := lw_in 593 (by decide +kernel) (by decide +kernel)
theorem mC_L_lastHeirOf : (Cond.codeWith yL_lastHeirOf cL_lastHeirOf 4 (some .int) [(0, 9, 12, 24)]) ∈ lw_all := lw_in 594 (by decide +kernel) (by decide +kernel)
theorem mM_L_57 : (Cond.methodLink RL 57 yX0_lastHeirOf) ∈ lw_all := lw_in 595 (by decide +kernel) (by decide +kernel)
theorem mM_L_186 : (Cond.methodLink RL 186 yL_priceFor) ∈ lw_all := lw_in 596 (by decide +kernel) (by decide +kernel)
theorem mT_L_priceFor : (Cond.static yL_priceFor) ∈ lw_all := lw_in 597 (by decide +kernel) (by decide +kernel)
theorem mC_L_priceFor : (Cond.codeWith yL_priceFor cL_priceFor 4 (some .int) [(0, 9, 12, 24)]) ∈ lw_all := lw_in 598 (by decide +kernel) (by decide +kernel)
theorem mM_L_60 : (Cond.methodLink RL 60 yX0_priceFor) ∈ lw_all := lw_in 599 (by decide +kernel) (by decide +kernel)
theorem mV_X0_priceFor : (Cond.instanceMethod yX0_priceFor) ∈ lw_all := lw_in 600 (by decide +kernel) (by decide +kernel)
theorem mS_X0_priceFor : (Cond.selects RX0 yX0_priceFor yX0_priceFor) ∈ lw_all := lw_in 601 (by decide +kernel) (by decide +kernel)
theorem mC_X0_priceFor : (Cond.code yX0_priceFor cX0_priceFor 2 (some .int)) ∈ lw_all := lw_in 602 (by decide +kernel) (by decide +kernel)
theorem mM_L_189 : (Cond.methodLink RL 189 yL_missesOf) ∈ lw_all := lw_in 603 (by decide +kernel) (by decide +kernel)
theorem mT_L_missesOf : (Cond.static yL_missesOf) ∈ lw_all := lw_in 604 (by decide +kernel) (by decide +kernel)
theorem mC_L_missesOf : (Cond.codeWith yL_missesOf cL_missesOf 4 (some .int) [(0, 9, 12, 24)]) ∈ lw_all := lw_in 605 (by decide +kernel) (by decide +kernel)
theorem mM_L_63 : (Cond.methodLink RL 63 yX0_missesOf) ∈ lw_all := lw_in 606 (by decide +kernel) (by decide +kernel)
theorem mM_L_192 : (Cond.methodLink RL 192 yL_closestOf) ∈ lw_all := lw_in 607 (by decide +kernel) (by decide +kernel)
theorem mT_L_closestOf : (Cond.static yL_closestOf) ∈ lw_all := lw_in 608 (by decide +kernel) (by decide +kernel)
theorem mC_L_closestOf : (Cond.codeWith yL_closestOf cL_closestOf 4 (some .int) [(0, 9, 12, 24)]) ∈ lw_all := lw_in 609 (by decide +kernel) (by decide +kernel)
theorem mM_L_66 : (Cond.methodLink RL 66 yX0_closestOf) ∈ lw_all := lw_in 610 (by decide +kernel) (by decide +kernel)
theorem mM_L_195 : (Cond.methodLink RL 195 yL_nerveOf) ∈ lw_all := lw_in 611 (by decide +kernel) (by decide +kernel)
theorem mT_L_nerveOf : (Cond.static yL_nerveOf) ∈ lw_all := lw_in 612 (by decide +kernel) (by decide +kernel)
theorem mC_L_nerveOf : (Cond.codeWith yL_nerveOf cL_nerveOf 4 (some .int) [(0, 9, 12, 24)]) ∈ lw_all := lw_in 613 (by decide +kernel) (by decide +kernel)
theorem mM_L_69 : (Cond.methodLink RL 69 yX0_nerveOf) ∈ lw_all := lw_in 614 (by decide +kernel) (by decide +kernel)
theorem mV_X0_nerveOf : (Cond.instanceMethod yX0_nerveOf) ∈ lw_all := lw_in 615 (by decide +kernel) (by decide +kernel)
theorem mS_X0_nerveOf : (Cond.selects RX0 yX0_nerveOf yX0_nerveOf) ∈ lw_all := lw_in 616 (by decide +kernel) (by decide +kernel)
theorem mC_X0_nerveOf : (Cond.code yX0_nerveOf cX0_nerveOf 2 (some .int)) ∈ lw_all := lw_in 617 (by decide +kernel) (by decide +kernel)
theorem mM_L_198 : (Cond.methodLink RL 198 yL_isOnDuty) ∈ lw_all := lw_in 618 (by decide +kernel) (by decide +kernel)
theorem mT_L_isOnDuty : (Cond.static yL_isOnDuty) ∈ lw_all := lw_in 619 (by decide +kernel) (by decide +kernel)
theorem mC_L_isOnDuty : (Cond.codeWith yL_isOnDuty cL_isOnDuty 4 (some .int) [(0, 16, 19, 24)]) ∈ lw_all := lw_in 620 (by decide +kernel) (by decide +kernel)
theorem mM_L_72 : (Cond.methodLink RL 72 yX0_isOnDuty) ∈ lw_all := lw_in 621 (by decide +kernel) (by decide +kernel)
theorem mV_X0_isOnDuty : (Cond.instanceMethod yX0_isOnDuty) ∈ lw_all := lw_in 622 (by decide +kernel) (by decide +kernel)
theorem mS_X0_isOnDuty : (Cond.selects RX0 yX0_isOnDuty yX0_isOnDuty) ∈ lw_all := lw_in 623 (by decide +kernel) (by decide +kernel)
theorem mC_X0_isOnDuty : (Cond.code yX0_isOnDuty cX0_isOnDuty 2 (some .boolean)) ∈ lw_all := lw_in 624 (by decide +kernel) (by decide +kernel)
theorem mM_L_201 : (Cond.methodLink RL 201 yL_wouldTell) ∈ lw_all := lw_in 625 (by decide +kernel) (by decide +kernel)
theorem mT_L_wouldTell : (Cond.static yL_wouldTell) ∈ lw_all := lw_in 626 (by decide +kernel) (by decide +kernel)
theorem mC_L_wouldTell : (Cond.codeWith yL_wouldTell cL_wouldTell 5 (some .int) [(0, 10, 13, 24), (0, 10, 17, 13)]) ∈ lw_all := lw_in 627 (by decide +kernel) (by decide +kernel)
theorem mM_L_75 : (Cond.methodLink RL 75 yX0_wouldTell) ∈ lw_all := lw_in 628 (by decide +kernel) (by decide +kernel)
theorem mV_X0_wouldTell : (Cond.instanceMethod yX0_wouldTell) ∈ lw_all := lw_in 629 (by decide +kernel) (by decide +kernel)
theorem mS_X0_wouldTell : (Cond.selects RX0 yX0_wouldTell yX0_wouldTell) ∈ lw_all := lw_in 630 (by decide +kernel) (by decide +kernel)
theorem mC_X0_wouldTell : (Cond.code yX0_wouldTell cX0_wouldTell 3 (some .int)) ∈ lw_all := lw_in 631 (by decide +kernel) (by decide +kernel)
theorem mM_L_204 : (Cond.methodLink RL 204 yL_personOf) ∈ lw_all := lw_in 632 (by decide +kernel) (by decide +kernel)
theorem mT_L_personOf : (Cond.static yL_personOf) ∈ lw_all := lw_in 633 (by decide +kernel) (by decide +kernel)
theorem mC_L_personOf : (Cond.codeWith yL_personOf cL_personOf 4 (some .int) [(0, 9, 12, 24)]) ∈ lw_all := lw_in 634 (by decide +kernel) (by decide +kernel)
theorem mM_L_78 : (Cond.methodLink RL 78 yX0_personOf) ∈ lw_all := lw_in 635 (by decide +kernel) (by decide +kernel)
theorem mV_X0_personOf : (Cond.instanceMethod yX0_personOf) ∈ lw_all := lw_in 636 (by decide +kernel) (by decide +kernel)
theorem mS_X0_personOf : (Cond.selects RX0 yX0_personOf yX0_personOf) ∈ lw_all := lw_in 637 (by decide +kernel) (by decide +kernel)
theorem mC_X0_personOf : (Cond.code yX0_personOf cX0_personOf 2 (some .int)) ∈ lw_all := lw_in 638 (by decide +kernel) (by decide +kernel)
theorem mM_L_207 : (Cond.methodLink RL 207 yL_inchesOf) ∈ lw_all := lw_in 639 (by decide +kernel) (by decide +kernel)
theorem mT_L_inchesOf : (Cond.static yL_inchesOf) ∈ lw_all := lw_in 640 (by decide +kernel) (by decide +kernel)
theorem mC_L_inchesOf : (Cond.codeWith yL_inchesOf cL_inchesOf 4 (some .int) [(0, 9, 12, 24)]) ∈ lw_all := lw_in 641 (by decide +kernel) (by decide +kernel)
theorem mM_L_81 : (Cond.methodLink RL 81 yX0_inchesOf) ∈ lw_all := lw_in 642 (by decide +kernel) (by decide +kernel)
theorem mM_L_210 : (Cond.methodLink RL 210 yL_sealOf) ∈ lw_all := lw_in 643 (by decide +kernel) (by decide +kernel)
theorem mT_L_sealOf : (Cond.static yL_sealOf) ∈ lw_all := lw_in 644 (by decide +kernel) (by decide +kernel)
theorem mC_L_sealOf : (Cond.codeWith yL_sealOf cL_sealOf 4 (some .int) [(0, 9, 12, 24)]) ∈ lw_all := lw_in 645 (by decide +kernel) (by decide +kernel)
theorem mM_L_84 : (Cond.methodLink RL 84 yX0_sealOf) ∈ lw_all := lw_in 646 (by decide +kernel) (by decide +kernel)
theorem mM_L_213 : (Cond.methodLink RL 213 yL_wouldCertify) ∈ lw_all := lw_in 647 (by decide +kernel) (by decide +kernel)
theorem mT_L_wouldCertify : (Cond.static yL_wouldCertify) ∈ lw_all := lw_in 648 (by decide +kernel) (by decide +kernel)
theorem mC_L_wouldCertify : (Cond.codeWith yL_wouldCertify cL_wouldCertify 4 (some .int) [(0, 9, 12, 13)]) ∈ lw_all := lw_in 649 (by decide +kernel) (by decide +kernel)
theorem mM_L_87 : (Cond.methodLink RL 87 yX0_wouldCertify) ∈ lw_all := lw_in 650 (by decide +kernel) (by decide +kernel)
theorem mM_L_216 : (Cond.methodLink RL 216 yL_wouldRefund) ∈ lw_all := lw_in 651 (by decide +kernel) (by decide +kernel)
theorem mT_L_wouldRefund : (Cond.static yL_wouldRefund) ∈ lw_all := lw_in 652 (by decide +kernel) (by decide +kernel)
theorem mC_L_wouldRefund : (Cond.codeWith yL_wouldRefund cL_wouldRefund 5 (some .int) [(0, 10, 13, 24), (0, 10, 17, 13)]) ∈ lw_all := lw_in 653 (by decide +kernel) (by decide +kernel)
theorem mM_L_90 : (Cond.methodLink RL 90 yX0_wouldRefund) ∈ lw_all := lw_in 654 (by decide +kernel) (by decide +kernel)
theorem mV_X0_wouldRefund : (Cond.instanceMethod yX0_wouldRefund) ∈ lw_all := lw_in 655 (by decide +kernel) (by decide +kernel)
theorem mS_X0_wouldRefund : (Cond.selects RX0 yX0_wouldRefund yX0_wouldRefund) ∈ lw_all := lw_in 656 (by decide +kernel) (by decide +kernel)
theorem mC_X0_wouldRefund : (Cond.code yX0_wouldRefund cX0_wouldRefund 3 (some .int)) ∈ lw_all := lw_in 657 (by decide +kernel) (by decide +kernel)
theorem mM_L_219 : (Cond.methodLink RL 219 yL_missesUntilShaken) ∈ lw_all := lw_in 658 (by decide +kernel) (by decide +kernel)
theorem mT_L_missesUntilShaken : (Cond.static yL_missesUntilShaken) ∈ lw_all := lw_in 659 (by decide +kernel) (by decide +kernel)
theorem mC_L_missesUntilShaken : (Cond.codeWith yL_missesUntilShaken cL_missesUntilShaken 4 (some .int) [(0, 9, 12, 13)]) ∈ lw_all := lw_in 660 (by decide +kernel) (by decide +kernel)
theorem mM_L_93 : (Cond.methodLink RL 93 yX0_missesUntilShaken) ∈ lw_all := lw_in 661 (by decide +kernel) (by decide +kernel)
theorem mK_L_97 : (Cond.classLink RL 97 RX1) ∈ lw_all := lw_in 662 (by decide +kernel) (by decide +kernel)
theorem mB_MissRegistryModel : (Cond.instantiable RX1 16) ∈ lw_all := lw_in 663 (by decide +kernel) (by decide +kernel)
theorem mM_L_99 : (Cond.methodLink RL 99 yX1_init) ∈ lw_all := lw_in 664 (by decide +kernel) (by decide +kernel)
theorem mV_X1_init : (Cond.instanceMethod yX1_init) ∈ lw_all := lw_in 665 (by decide +kernel) (by decide +kernel)
theorem mC_X1_init : (Cond.code yX1_init cX1_init 1 none) ∈ lw_all := lw_in 666 (by decide +kernel) (by decide +kernel)
theorem mM_X1_1 : (Cond.methodLink RX1 1 objectInit) ∈ lw_all := lw_in 667 (by decide +kernel) (by decide +kernel)
theorem mF_X1_38 : (Cond.fieldLink RX1 38 "MissRegistryModel" "thrown" "I") ∈ lw_all := lw_in 668 (by decide +kernel) (by decide +kernel)
theorem mF_X1_42 : (Cond.fieldLink RX1 42 "MissRegistryModel" "persons" "I") ∈ lw_all := lw_in 669 (by decide +kernel) (by decide +kernel)
theorem mF_X1_49 : (Cond.fieldLink RX1 49 "MissRegistryModel" "witnesses" "I") ∈ lw_all := lw_in 670 (by decide +kernel) (by decide +kernel)
theorem mF_X1_9 : (Cond.fieldLink RX1 9 "MissRegistryModel" "isGone" "[Z") ∈ lw_all := lw_in 671 (by decide +kernel) (by decide +kernel)
theorem mF_X1_13 : (Cond.fieldLink RX1 13 "MissRegistryModel" "luck" "[I") ∈ lw_all := lw_in 672 (by decide +kernel) (by decide +kernel)
theorem mF_X1_17 : (Cond.fieldLink RX1 17 "MissRegistryModel" "purse" "[I") ∈ lw_all := lw_in 673 (by decide +kernel) (by decide +kernel)
theorem mF_X1_20 : (Cond.fieldLink RX1 20 "MissRegistryModel" "fates" "[I") ∈ lw_all := lw_in 674 (by decide +kernel) (by decide +kernel)
theorem mF_X1_23 : (Cond.fieldLink RX1 23 "MissRegistryModel" "heir" "[I") ∈ lw_all := lw_in 675 (by decide +kernel) (by decide +kernel)
theorem mF_X1_26 : (Cond.fieldLink RX1 26 "MissRegistryModel" "nerve" "[I") ∈ lw_all := lw_in 676 (by decide +kernel) (by decide +kernel)
theorem mF_X1_29 : (Cond.fieldLink RX1 29 "MissRegistryModel" "isOff" "[Z") ∈ lw_all := lw_in 677 (by decide +kernel) (by decide +kernel)
theorem mF_X1_32 : (Cond.fieldLink RX1 32 "MissRegistryModel" "whose" "[I") ∈ lw_all := lw_in 678 (by decide +kernel) (by decide +kernel)
theorem mF_X1_35 : (Cond.fieldLink RX1 35 "MissRegistryModel" "inches" "[I") ∈ lw_all := lw_in 679 (by decide +kernel) (by decide +kernel)
theorem mF_X1_52 : (Cond.fieldLink RX1 52 "MissRegistryModel" "misses" "I") ∈ lw_all := lw_in 680 (by decide +kernel) (by decide +kernel)
theorem mF_X1_122 : (Cond.fieldLink RX1 122 "MissRegistryModel" "night" "I") ∈ lw_all := lw_in 681 (by decide +kernel) (by decide +kernel)
theorem mF_X1_64 : (Cond.fieldLink RX1 64 "MissRegistryModel" "fund" "I") ∈ lw_all := lw_in 682 (by decide +kernel) (by decide +kernel)
theorem mF_X1_113 : (Cond.fieldLink RX1 113 "MissRegistryModel" "refunded" "I") ∈ lw_all := lw_in 683 (by decide +kernel) (by decide +kernel)
theorem mM_L_106 : (Cond.methodLink RL 106 yX1_thrown) ∈ lw_all := lw_in 717 (by decide +kernel) (by decide +kernel)
theorem mV_X1_thrown : (Cond.instanceMethod yX1_thrown) ∈ lw_all := lw_in 718 (by decide +kernel) (by decide +kernel)
theorem mS_X1_thrown : (Cond.selects RX1 yX1_thrown yX1_thrown) ∈ lw_all := lw_in 719 (by decide +kernel) (by decide +kernel)
theorem mC_X1_thrown : (Cond.code yX1_thrown cX1_thrown 1 (some .int)) ∈ lw_all := lw_in 720 (by decide +kernel) (by decide +kernel)
theorem mM_L_105 : (Cond.methodLink RL 105 yX1_addPerson) ∈ lw_all := lw_in 721 (by decide +kernel) (by decide +kernel)
theorem mV_X1_addPerson : (Cond.instanceMethod yX1_addPerson) ∈ lw_all := lw_in 722 (by decide +kernel) (by decide +kernel)
theorem mS_X1_addPerson : (Cond.selects RX1 yX1_addPerson yX1_addPerson) ∈ lw_all := lw_in 723 (by decide +kernel) (by decide +kernel)
theorem mC_X1_addPerson : (Cond.code yX1_addPerson cX1_addPerson 2 (some .int)) ∈ lw_all := lw_in 724 (by decide +kernel) (by decide +kernel)
theorem mM_X1_45 : (Cond.methodLink RX1 45 yX1_isIn) ∈ lw_all := lw_in 725 (by decide +kernel) (by decide +kernel)
theorem mT_X1_isIn : (Cond.static yX1_isIn) ∈ lw_all := lw_in 726 (by decide +kernel) (by decide +kernel)
theorem mC_X1_isIn : (Cond.code yX1_isIn cX1_isIn 3 (some .boolean)) ∈ lw_all := lw_in 727 (by decide +kernel) (by decide +kernel)
theorem mM_X1_97 : (Cond.methodLink RX1 97 yX1_fail) ∈ lw_all := lw_in 728 (by decide +kernel) (by decide +kernel)
theorem mV_X1_fail : (Cond.instanceMethod yX1_fail) ∈ lw_all := lw_in 730 (by decide +kernel) (by decide +kernel)
theorem mC_X1_fail : (Cond.code yX1_fail cX1_fail 2 (some .int)) ∈ lw_all := lw_in 731 (by decide +kernel) (by decide +kernel)
theorem mM_L_112 : (Cond.methodLink RL 112 yX1_addWitness) ∈ lw_all := lw_in 732 (by decide +kernel) (by decide +kernel)
theorem mV_X1_addWitness : (Cond.instanceMethod yX1_addWitness) ∈ lw_all := lw_in 733 (by decide +kernel) (by decide +kernel)
theorem mS_X1_addWitness : (Cond.selects RX1 yX1_addWitness yX1_addWitness) ∈ lw_all := lw_in 734 (by decide +kernel) (by decide +kernel)
theorem mC_X1_addWitness : (Cond.code yX1_addWitness cX1_addWitness 2 (some .int)) ∈ lw_all := lw_in 735 (by decide +kernel) (by decide +kernel)
theorem mM_L_116 : (Cond.methodLink RL 116 yX1_setHeir) ∈ lw_all := lw_in 736 (by decide +kernel) (by decide +kernel)
theorem mV_X1_setHeir : (Cond.instanceMethod yX1_setHeir) ∈ lw_all := lw_in 737 (by decide +kernel) (by decide +kernel)
theorem mS_X1_setHeir : (Cond.selects RX1 yX1_setHeir yX1_setHeir) ∈ lw_all := lw_in 738 (by decide +kernel) (by decide +kernel)
theorem mC_X1_setHeir : (Cond.code yX1_setHeir cX1_setHeir 4 (some .int)) ∈ lw_all := lw_in 739 (by decide +kernel) (by decide +kernel)
theorem mM_X1_100 : (Cond.methodLink RX1 100 yX1_isPerson) ∈ lw_all := lw_in 740 (by decide +kernel) (by decide +kernel)
theorem mV_X1_isPerson : (Cond.instanceMethod yX1_isPerson) ∈ lw_all := lw_in 742 (by decide +kernel) (by decide +kernel)
theorem mC_X1_isPerson : (Cond.code yX1_isPerson cX1_isPerson 2 (some .boolean)) ∈ lw_all := lw_in 743 (by decide +kernel) (by decide +kernel)
theorem mM_L_119 : (Cond.methodLink RL 119 yX1_buyFate) ∈ lw_all := lw_in 744 (by decide +kernel) (by decide +kernel)
theorem mV_X1_buyFate : (Cond.instanceMethod yX1_buyFate) ∈ lw_all := lw_in 745 (by decide +kernel) (by decide +kernel)
theorem mS_X1_buyFate : (Cond.selects RX1 yX1_buyFate yX1_buyFate) ∈ lw_all := lw_in 746 (by decide +kernel) (by decide +kernel)
theorem mC_X1_buyFate : (Cond.code yX1_buyFate cX1_buyFate 2 (some .int)) ∈ lw_all := lw_in 747 (by decide +kernel) (by decide +kernel)
theorem mM_X1_67 : (Cond.methodLink RX1 67 yX1_price) ∈ lw_all := lw_in 748 (by decide +kernel) (by decide +kernel)
theorem mV_X1_price : (Cond.instanceMethod yX1_price) ∈ lw_all := lw_in 750 (by decide +kernel) (by decide +kernel)
theorem mC_X1_price : (Cond.code yX1_price cX1_price 2 (some .int)) ∈ lw_all := lw_in 751 (by decide +kernel) (by decide +kernel)
theorem mM_L_122 : (Cond.methodLink RL 122 yX1_turnDuty) ∈ lw_all := lw_in 752 (by decide +kernel) (by decide +kernel)
theorem mV_X1_turnDuty : (Cond.instanceMethod yX1_turnDuty) ∈ lw_all := lw_in 753 (by decide +kernel) (by decide +kernel)
theorem mS_X1_turnDuty : (Cond.selects RX1 yX1_turnDuty yX1_turnDuty) ∈ lw_all := lw_in 754 (by decide +kernel) (by decide +kernel)
theorem mC_X1_turnDuty : (Cond.code yX1_turnDuty cX1_turnDuty 2 (some .boolean)) ∈ lw_all := lw_in 755 (by decide +kernel) (by decide +kernel)
theorem mM_X1_104 : (Cond.methodLink RX1 104 yX1_isWitness) ∈ lw_all := lw_in 756 (by decide +kernel) (by decide +kernel)
theorem mV_X1_isWitness : (Cond.instanceMethod yX1_isWitness) ∈ lw_all := lw_in 758 (by decide +kernel) (by decide +kernel)
theorem mC_X1_isWitness : (Cond.code yX1_isWitness cX1_isWitness 2 (some .boolean)) ∈ lw_all := lw_in 759 (by decide +kernel) (by decide +kernel)
theorem mM_L_125 : (Cond.methodLink RL 125 yX1_miss) ∈ lw_all := lw_in 760 (by decide +kernel) (by decide +kernel)
theorem mV_X1_miss : (Cond.instanceMethod yX1_miss) ∈ lw_all := lw_in 761 (by decide +kernel) (by decide +kernel)
theorem mS_X1_miss : (Cond.selects RX1 yX1_miss yX1_miss) ∈ lw_all := lw_in 762 (by decide +kernel) (by decide +kernel)
theorem mC_X1_miss : (Cond.code yX1_miss cX1_miss 5 (some .int)) ∈ lw_all := lw_in 763 (by decide +kernel) (by decide +kernel)
theorem mM_X1_107 : (Cond.methodLink RX1 107 yX1_middle) ∈ lw_all := lw_in 764 (by decide +kernel) (by decide +kernel)
theorem mV_X1_middle : (Cond.instanceMethod yX1_middle) ∈ lw_all := lw_in 766 (by decide +kernel) (by decide +kernel)
theorem mC_X1_middle : (Cond.code yX1_middle cX1_middle 6 (some .int)) ∈ lw_all := lw_in 767 (by decide +kernel) (by decide +kernel)
theorem mM_X1_61 : (Cond.methodLink RX1 61 yX1_tells) ∈ lw_all := lw_in 768 (by decide +kernel) (by decide +kernel)
theorem mV_X1_tells : (Cond.instanceMethod yX1_tells) ∈ lw_all := lw_in 770 (by decide +kernel) (by decide +kernel)
theorem mC_X1_tells : (Cond.code yX1_tells cX1_tells 3 (some .int)) ∈ lw_all := lw_in 771 (by decide +kernel) (by decide +kernel)
theorem mM_X1_55 : (Cond.methodLink RX1 55 Lib.Math.max.name) ∈ lw_all := lw_in 772 (by decide +kernel) (by decide +kernel)
theorem mM_X1_110 : (Cond.methodLink RX1 110 yX1_refund) ∈ lw_all := lw_in 773 (by decide +kernel) (by decide +kernel)
theorem mV_X1_refund : (Cond.instanceMethod yX1_refund) ∈ lw_all := lw_in 775 (by decide +kernel) (by decide +kernel)
theorem mC_X1_refund : (Cond.code yX1_refund cX1_refund 3 (some .int)) ∈ lw_all := lw_in 776 (by decide +kernel) (by decide +kernel)
theorem mM_X1_71 : (Cond.methodLink RX1 71 Lib.Math.min.name) ∈ lw_all := lw_in 777 (by decide +kernel) (by decide +kernel)
theorem mM_X1_116 : (Cond.methodLink RX1 116 yX1_shock) ∈ lw_all := lw_in 778 (by decide +kernel) (by decide +kernel)
theorem mT_X1_shock : (Cond.static yX1_shock) ∈ lw_all := lw_in 779 (by decide +kernel) (by decide +kernel)
theorem mC_X1_shock : (Cond.code yX1_shock cX1_shock 1 (some .int)) ∈ lw_all := lw_in 780 (by decide +kernel) (by decide +kernel)
theorem mM_L_128 : (Cond.methodLink RL 128 yX1_hit) ∈ lw_all := lw_in 781 (by decide +kernel) (by decide +kernel)
theorem mV_X1_hit : (Cond.instanceMethod yX1_hit) ∈ lw_all := lw_in 782 (by decide +kernel) (by decide +kernel)
theorem mS_X1_hit : (Cond.selects RX1 yX1_hit yX1_hit) ∈ lw_all := lw_in 783 (by decide +kernel) (by decide +kernel)
theorem mC_X1_hit : (Cond.code yX1_hit cX1_hit 3 (some .int)) ∈ lw_all := lw_in 784 (by decide +kernel) (by decide +kernel)
theorem mM_X1_119 : (Cond.methodLink RX1 119 yX1_last) ∈ lw_all := lw_in 785 (by decide +kernel) (by decide +kernel)
theorem mV_X1_last : (Cond.instanceMethod yX1_last) ∈ lw_all := lw_in 787 (by decide +kernel) (by decide +kernel)
theorem mC_X1_last : (Cond.code yX1_last cX1_last 4 (some .int)) ∈ lw_all := lw_in 788 (by decide +kernel) (by decide +kernel)
theorem mM_L_131 : (Cond.methodLink RL 131 yX1_pass) ∈ lw_all := lw_in 789 (by decide +kernel) (by decide +kernel)
theorem mV_X1_pass : (Cond.instanceMethod yX1_pass) ∈ lw_all := lw_in 790 (by decide +kernel) (by decide +kernel)
theorem mS_X1_pass : (Cond.selects RX1 yX1_pass yX1_pass) ∈ lw_all := lw_in 791 (by decide +kernel) (by decide +kernel)
theorem mC_X1_pass : (Cond.code yX1_pass cX1_pass 3 (some .int)) ∈ lw_all := lw_in 792 (by decide +kernel) (by decide +kernel)
theorem mM_X1_125 : (Cond.methodLink RX1 125 yX1_shakenNow) ∈ lw_all := lw_in 793 (by decide +kernel) (by decide +kernel)
theorem mV_X1_shakenNow : (Cond.instanceMethod yX1_shakenNow) ∈ lw_all := lw_in 795 (by decide +kernel) (by decide +kernel)
theorem mC_X1_shakenNow : (Cond.code yX1_shakenNow cX1_shakenNow 3 (some .int)) ∈ lw_all := lw_in 796 (by decide +kernel) (by decide +kernel)
theorem mM_L_135 : (Cond.methodLink RL 135 yX1_night) ∈ lw_all := lw_in 797 (by decide +kernel) (by decide +kernel)
theorem mV_X1_night : (Cond.instanceMethod yX1_night) ∈ lw_all := lw_in 798 (by decide +kernel) (by decide +kernel)
theorem mS_X1_night : (Cond.selects RX1 yX1_night yX1_night) ∈ lw_all := lw_in 799 (by decide +kernel) (by decide +kernel)
theorem mC_X1_night : (Cond.code yX1_night cX1_night 1 (some .int)) ∈ lw_all := lw_in 800 (by decide +kernel) (by decide +kernel)
theorem mM_X1_128 : (Cond.methodLink RX1 128 yX1_told) ∈ lw_all := lw_in 801 (by decide +kernel) (by decide +kernel)
theorem mV_X1_told : (Cond.instanceMethod yX1_told) ∈ lw_all := lw_in 803 (by decide +kernel) (by decide +kernel)
theorem mC_X1_told : (Cond.code yX1_told cX1_told 2 (some .int)) ∈ lw_all := lw_in 804 (by decide +kernel) (by decide +kernel)
theorem mM_L_139 : (Cond.methodLink RL 139 yX1_persons) ∈ lw_all := lw_in 805 (by decide +kernel) (by decide +kernel)
theorem mV_X1_persons : (Cond.instanceMethod yX1_persons) ∈ lw_all := lw_in 806 (by decide +kernel) (by decide +kernel)
theorem mS_X1_persons : (Cond.selects RX1 yX1_persons yX1_persons) ∈ lw_all := lw_in 807 (by decide +kernel) (by decide +kernel)
theorem mC_X1_persons : (Cond.code yX1_persons cX1_persons 1 (some .int)) ∈ lw_all := lw_in 808 (by decide +kernel) (by decide +kernel)
theorem mM_L_143 : (Cond.methodLink RL 143 yX1_alive) ∈ lw_all := lw_in 809 (by decide +kernel) (by decide +kernel)
theorem mV_X1_alive : (Cond.instanceMethod yX1_alive) ∈ lw_all := lw_in 810 (by decide +kernel) (by decide +kernel)
theorem mS_X1_alive : (Cond.selects RX1 yX1_alive yX1_alive) ∈ lw_all := lw_in 811 (by decide +kernel) (by decide +kernel)
theorem mC_X1_alive : (Cond.code yX1_alive cX1_alive 1 (some .int)) ∈ lw_all := lw_in 812 (by decide +kernel) (by decide +kernel)
theorem mM_X1_131 : (Cond.methodLink RX1 131 yX1_living) ∈ lw_all := lw_in 813 (by decide +kernel) (by decide +kernel)
theorem mV_X1_living : (Cond.instanceMethod yX1_living) ∈ lw_all := lw_in 815 (by decide +kernel) (by decide +kernel)
theorem mC_X1_living : (Cond.code yX1_living cX1_living 3 (some .int)) ∈ lw_all := lw_in 816 (by decide +kernel) (by decide +kernel)
theorem mM_L_147 : (Cond.methodLink RL 147 yX1_witnesses) ∈ lw_all := lw_in 817 (by decide +kernel) (by decide +kernel)
theorem mV_X1_witnesses : (Cond.instanceMethod yX1_witnesses) ∈ lw_all := lw_in 818 (by decide +kernel) (by decide +kernel)
theorem mS_X1_witnesses : (Cond.selects RX1 yX1_witnesses yX1_witnesses) ∈ lw_all := lw_in 819 (by decide +kernel) (by decide +kernel)
theorem mC_X1_witnesses : (Cond.code yX1_witnesses cX1_witnesses 1 (some .int)) ∈ lw_all := lw_in 820 (by decide +kernel) (by decide +kernel)
theorem mM_L_151 : (Cond.methodLink RL 151 yX1_shaken) ∈ lw_all := lw_in 821 (by decide +kernel) (by decide +kernel)
theorem mV_X1_shaken : (Cond.instanceMethod yX1_shaken) ∈ lw_all := lw_in 822 (by decide +kernel) (by decide +kernel)
theorem mS_X1_shaken : (Cond.selects RX1 yX1_shaken yX1_shaken) ∈ lw_all := lw_in 823 (by decide +kernel) (by decide +kernel)
theorem mC_X1_shaken : (Cond.code yX1_shaken cX1_shaken 1 (some .int)) ∈ lw_all := lw_in 824 (by decide +kernel) (by decide +kernel)
theorem mM_L_155 : (Cond.methodLink RL 155 yX1_fund) ∈ lw_all := lw_in 825 (by decide +kernel) (by decide +kernel)
theorem mV_X1_fund : (Cond.instanceMethod yX1_fund) ∈ lw_all := lw_in 826 (by decide +kernel) (by decide +kernel)
theorem mS_X1_fund : (Cond.selects RX1 yX1_fund yX1_fund) ∈ lw_all := lw_in 827 (by decide +kernel) (by decide +kernel)
theorem mC_X1_fund : (Cond.code yX1_fund cX1_fund 1 (some .int)) ∈ lw_all := lw_in 828 (by decide +kernel) (by decide +kernel)
theorem mM_L_159 : (Cond.methodLink RL 159 yX1_refunded) ∈ lw_all := lw_in 829 (by decide +kernel) (by decide +kernel)
theorem mV_X1_refunded : (Cond.instanceMethod yX1_refunded) ∈ lw_all := lw_in 830 (by decide +kernel) (by decide +kernel)
theorem mS_X1_refunded : (Cond.selects RX1 yX1_refunded yX1_refunded) ∈ lw_all := lw_in 831 (by decide +kernel) (by decide +kernel)
theorem mC_X1_refunded : (Cond.code yX1_refunded cX1_refunded 1 (some .int)) ∈ lw_all := lw_in 832 (by decide +kernel) (by decide +kernel)
theorem mM_L_163 : (Cond.methodLink RL 163 yX1_misses) ∈ lw_all := lw_in 833 (by decide +kernel) (by decide +kernel)
theorem mV_X1_misses : (Cond.instanceMethod yX1_misses) ∈ lw_all := lw_in 834 (by decide +kernel) (by decide +kernel)
theorem mS_X1_misses : (Cond.selects RX1 yX1_misses yX1_misses) ∈ lw_all := lw_in 835 (by decide +kernel) (by decide +kernel)
theorem mC_X1_misses : (Cond.code yX1_misses cX1_misses 1 (some .int)) ∈ lw_all := lw_in 836 (by decide +kernel) (by decide +kernel)
theorem mM_L_167 : (Cond.methodLink RL 167 yX1_certified) ∈ lw_all := lw_in 837 (by decide +kernel) (by decide +kernel)
theorem mV_X1_certified : (Cond.instanceMethod yX1_certified) ∈ lw_all := lw_in 838 (by decide +kernel) (by decide +kernel)
theorem mS_X1_certified : (Cond.selects RX1 yX1_certified yX1_certified) ∈ lw_all := lw_in 839 (by decide +kernel) (by decide +kernel)
theorem mC_X1_certified : (Cond.code yX1_certified cX1_certified 1 (some .int)) ∈ lw_all := lw_in 840 (by decide +kernel) (by decide +kernel)
theorem mM_X1_134 : (Cond.methodLink RX1 134 yX1_sealed) ∈ lw_all := lw_in 841 (by decide +kernel) (by decide +kernel)
theorem mV_X1_sealed : (Cond.instanceMethod yX1_sealed) ∈ lw_all := lw_in 843 (by decide +kernel) (by decide +kernel)
theorem mC_X1_sealed : (Cond.code yX1_sealed cX1_sealed 3 (some .int)) ∈ lw_all := lw_in 844 (by decide +kernel) (by decide +kernel)
theorem mM_L_170 : (Cond.methodLink RL 170 yX1_isAlive) ∈ lw_all := lw_in 845 (by decide +kernel) (by decide +kernel)
theorem mV_X1_isAlive : (Cond.instanceMethod yX1_isAlive) ∈ lw_all := lw_in 846 (by decide +kernel) (by decide +kernel)
theorem mS_X1_isAlive : (Cond.selects RX1 yX1_isAlive yX1_isAlive) ∈ lw_all := lw_in 847 (by decide +kernel) (by decide +kernel)
theorem mC_X1_isAlive : (Cond.code yX1_isAlive cX1_isAlive 2 (some .boolean)) ∈ lw_all := lw_in 848 (by decide +kernel) (by decide +kernel)
theorem mM_L_173 : (Cond.methodLink RL 173 yX1_luckOf) ∈ lw_all := lw_in 849 (by decide +kernel) (by decide +kernel)
theorem mV_X1_luckOf : (Cond.instanceMethod yX1_luckOf) ∈ lw_all := lw_in 850 (by decide +kernel) (by decide +kernel)
theorem mS_X1_luckOf : (Cond.selects RX1 yX1_luckOf yX1_luckOf) ∈ lw_all := lw_in 851 (by decide +kernel) (by decide +kernel)
theorem mC_X1_luckOf : (Cond.code yX1_luckOf cX1_luckOf 2 (some .int)) ∈ lw_all := lw_in 852 (by decide +kernel) (by decide +kernel)
theorem mM_X1_137 : (Cond.methodLink RX1 137 yX1_of) ∈ lw_all := lw_in 853 (by decide +kernel) (by decide +kernel)
theorem mV_X1_of : (Cond.instanceMethod yX1_of) ∈ lw_all := lw_in 855 (by decide +kernel) (by decide +kernel)
theorem mC_X1_of : (Cond.code yX1_of cX1_of 3 (some .int)) ∈ lw_all := lw_in 856 (by decide +kernel) (by decide +kernel)
theorem mM_L_176 : (Cond.methodLink RL 176 yX1_purseOf) ∈ lw_all := lw_in 857 (by decide +kernel) (by decide +kernel)
theorem mV_X1_purseOf : (Cond.instanceMethod yX1_purseOf) ∈ lw_all := lw_in 858 (by decide +kernel) (by decide +kernel)
theorem mS_X1_purseOf : (Cond.selects RX1 yX1_purseOf yX1_purseOf) ∈ lw_all := lw_in 859 (by decide +kernel) (by decide +kernel)
theorem mC_X1_purseOf : (Cond.code yX1_purseOf cX1_purseOf 2 (some .int)) ∈ lw_all := lw_in 860 (by decide +kernel) (by decide +kernel)
theorem mM_L_179 : (Cond.methodLink RL 179 yX1_fatesOf) ∈ lw_all := lw_in 861 (by decide +kernel) (by decide +kernel)
theorem mV_X1_fatesOf : (Cond.instanceMethod yX1_fatesOf) ∈ lw_all := lw_in 862 (by decide +kernel) (by decide +kernel)
theorem mS_X1_fatesOf : (Cond.selects RX1 yX1_fatesOf yX1_fatesOf) ∈ lw_all := lw_in 863 (by decide +kernel) (by decide +kernel)
theorem mC_X1_fatesOf : (Cond.code yX1_fatesOf cX1_fatesOf 2 (some .int)) ∈ lw_all := lw_in 864 (by decide +kernel) (by decide +kernel)
theorem mM_L_182 : (Cond.methodLink RL 182 yX1_heirOf) ∈ lw_all := lw_in 865 (by decide +kernel) (by decide +kernel)
theorem mV_X1_heirOf : (Cond.instanceMethod yX1_heirOf) ∈ lw_all := lw_in 866 (by decide +kernel) (by decide +kernel)
theorem mS_X1_heirOf : (Cond.selects RX1 yX1_heirOf yX1_heirOf) ∈ lw_all := lw_in 867 (by decide +kernel) (by decide +kernel)
theorem mC_X1_heirOf : (Cond.code yX1_heirOf cX1_heirOf 2 (some .int)) ∈ lw_all := lw_in 868 (by decide +kernel) (by decide +kernel)
theorem mM_L_185 : (Cond.methodLink RL 185 yX1_lastHeirOf) ∈ lw_all := lw_in 869 (by decide +kernel) (by decide +kernel)
theorem mV_X1_lastHeirOf : (Cond.instanceMethod yX1_lastHeirOf) ∈ lw_all := lw_in 870 (by decide +kernel) (by decide +kernel)
theorem mS_X1_lastHeirOf : (Cond.selects RX1 yX1_lastHeirOf yX1_lastHeirOf) ∈ lw_all := lw_in 871 (by decide +kernel) (by decide +kernel)
theorem mC_X1_lastHeirOf : (Cond.code yX1_lastHeirOf cX1_lastHeirOf 2 (some .int)) ∈ lw_all := lw_in 872 (by decide +kernel) (by decide +kernel)
theorem mM_L_188 : (Cond.methodLink RL 188 yX1_priceFor) ∈ lw_all := lw_in 873 (by decide +kernel) (by decide +kernel)
theorem mV_X1_priceFor : (Cond.instanceMethod yX1_priceFor) ∈ lw_all := lw_in 874 (by decide +kernel) (by decide +kernel)
theorem mS_X1_priceFor : (Cond.selects RX1 yX1_priceFor yX1_priceFor) ∈ lw_all := lw_in 875 (by decide +kernel) (by decide +kernel)
theorem mC_X1_priceFor : (Cond.code yX1_priceFor cX1_priceFor 2 (some .int)) ∈ lw_all := lw_in 876 (by decide +kernel) (by decide +kernel)
theorem mM_L_191 : (Cond.methodLink RL 191 yX1_missesOf) ∈ lw_all := lw_in 877 (by decide +kernel) (by decide +kernel)
theorem mV_X1_missesOf : (Cond.instanceMethod yX1_missesOf) ∈ lw_all := lw_in 878 (by decide +kernel) (by decide +kernel)
theorem mS_X1_missesOf : (Cond.selects RX1 yX1_missesOf yX1_missesOf) ∈ lw_all := lw_in 879 (by decide +kernel) (by decide +kernel)
theorem mC_X1_missesOf : (Cond.code yX1_missesOf cX1_missesOf 2 (some .int)) ∈ lw_all := lw_in 880 (by decide +kernel) (by decide +kernel)
theorem mM_X1_141 : (Cond.methodLink RX1 141 yX1_many) ∈ lw_all := lw_in 881 (by decide +kernel) (by decide +kernel)
theorem mV_X1_many : (Cond.instanceMethod yX1_many) ∈ lw_all := lw_in 883 (by decide +kernel) (by decide +kernel)
theorem mC_X1_many : (Cond.code yX1_many cX1_many 4 (some .int)) ∈ lw_all := lw_in 884 (by decide +kernel) (by decide +kernel)
theorem mM_L_194 : (Cond.methodLink RL 194 yX1_closestOf) ∈ lw_all := lw_in 885 (by decide +kernel) (by decide +kernel)
theorem mV_X1_closestOf : (Cond.instanceMethod yX1_closestOf) ∈ lw_all := lw_in 886 (by decide +kernel) (by decide +kernel)
theorem mS_X1_closestOf : (Cond.selects RX1 yX1_closestOf yX1_closestOf) ∈ lw_all := lw_in 887 (by decide +kernel) (by decide +kernel)
theorem mC_X1_closestOf : (Cond.code yX1_closestOf cX1_closestOf 2 (some .int)) ∈ lw_all := lw_in 888 (by decide +kernel) (by decide +kernel)
theorem mM_X1_144 : (Cond.methodLink RX1 144 yX1_closest) ∈ lw_all := lw_in 889 (by decide +kernel) (by decide +kernel)
theorem mV_X1_closest : (Cond.instanceMethod yX1_closest) ∈ lw_all := lw_in 891 (by decide +kernel) (by decide +kernel)
theorem mC_X1_closest : (Cond.code yX1_closest cX1_closest 4 (some .int)) ∈ lw_all := lw_in 892 (by decide +kernel) (by decide +kernel)
theorem mM_L_197 : (Cond.methodLink RL 197 yX1_nerveOf) ∈ lw_all := lw_in 893 (by decide +kernel) (by decide +kernel)
theorem mV_X1_nerveOf : (Cond.instanceMethod yX1_nerveOf) ∈ lw_all := lw_in 894 (by decide +kernel) (by decide +kernel)
theorem mS_X1_nerveOf : (Cond.selects RX1 yX1_nerveOf yX1_nerveOf) ∈ lw_all := lw_in 895 (by decide +kernel) (by decide +kernel)
theorem mC_X1_nerveOf : (Cond.code yX1_nerveOf cX1_nerveOf 2 (some .int)) ∈ lw_all := lw_in 896 (by decide +kernel) (by decide +kernel)
theorem mM_L_200 : (Cond.methodLink RL 200 yX1_isOnDuty) ∈ lw_all := lw_in 897 (by decide +kernel) (by decide +kernel)
theorem mV_X1_isOnDuty : (Cond.instanceMethod yX1_isOnDuty) ∈ lw_all := lw_in 898 (by decide +kernel) (by decide +kernel)
theorem mS_X1_isOnDuty : (Cond.selects RX1 yX1_isOnDuty yX1_isOnDuty) ∈ lw_all := lw_in 899 (by decide +kernel) (by decide +kernel)
theorem mC_X1_isOnDuty : (Cond.code yX1_isOnDuty cX1_isOnDuty 2 (some .boolean)) ∈ lw_all := lw_in 900 (by decide +kernel) (by decide +kernel)
theorem mM_L_203 : (Cond.methodLink RL 203 yX1_wouldTell) ∈ lw_all := lw_in 901 (by decide +kernel) (by decide +kernel)
theorem mV_X1_wouldTell : (Cond.instanceMethod yX1_wouldTell) ∈ lw_all := lw_in 902 (by decide +kernel) (by decide +kernel)
theorem mS_X1_wouldTell : (Cond.selects RX1 yX1_wouldTell yX1_wouldTell) ∈ lw_all := lw_in 903 (by decide +kernel) (by decide +kernel)
theorem mC_X1_wouldTell : (Cond.code yX1_wouldTell cX1_wouldTell 3 (some .int)) ∈ lw_all := lw_in 904 (by decide +kernel) (by decide +kernel)
theorem mM_L_206 : (Cond.methodLink RL 206 yX1_personOf) ∈ lw_all := lw_in 905 (by decide +kernel) (by decide +kernel)
theorem mV_X1_personOf : (Cond.instanceMethod yX1_personOf) ∈ lw_all := lw_in 906 (by decide +kernel) (by decide +kernel)
theorem mS_X1_personOf : (Cond.selects RX1 yX1_personOf yX1_personOf) ∈ lw_all := lw_in 907 (by decide +kernel) (by decide +kernel)
theorem mC_X1_personOf : (Cond.code yX1_personOf cX1_personOf 2 (some .int)) ∈ lw_all := lw_in 908 (by decide +kernel) (by decide +kernel)
theorem mM_X1_147 : (Cond.methodLink RX1 147 yX1_isMiss) ∈ lw_all := lw_in 909 (by decide +kernel) (by decide +kernel)
theorem mV_X1_isMiss : (Cond.instanceMethod yX1_isMiss) ∈ lw_all := lw_in 911 (by decide +kernel) (by decide +kernel)
theorem mC_X1_isMiss : (Cond.code yX1_isMiss cX1_isMiss 2 (some .boolean)) ∈ lw_all := lw_in 912 (by decide +kernel) (by decide +kernel)
theorem mM_L_209 : (Cond.methodLink RL 209 yX1_inchesOf) ∈ lw_all := lw_in 913 (by decide +kernel) (by decide +kernel)
theorem mV_X1_inchesOf : (Cond.instanceMethod yX1_inchesOf) ∈ lw_all := lw_in 914 (by decide +kernel) (by decide +kernel)
theorem mS_X1_inchesOf : (Cond.selects RX1 yX1_inchesOf yX1_inchesOf) ∈ lw_all := lw_in 915 (by decide +kernel) (by decide +kernel)
theorem mC_X1_inchesOf : (Cond.code yX1_inchesOf cX1_inchesOf 2 (some .int)) ∈ lw_all := lw_in 916 (by decide +kernel) (by decide +kernel)
theorem mM_L_212 : (Cond.methodLink RL 212 yX1_sealOf) ∈ lw_all := lw_in 917 (by decide +kernel) (by decide +kernel)
theorem mV_X1_sealOf : (Cond.instanceMethod yX1_sealOf) ∈ lw_all := lw_in 918 (by decide +kernel) (by decide +kernel)
theorem mS_X1_sealOf : (Cond.selects RX1 yX1_sealOf yX1_sealOf) ∈ lw_all := lw_in 919 (by decide +kernel) (by decide +kernel)
theorem mC_X1_sealOf : (Cond.code yX1_sealOf cX1_sealOf 2 (some .int)) ∈ lw_all := lw_in 920 (by decide +kernel) (by decide +kernel)
theorem mM_X1_150 : (Cond.methodLink RX1 150 yX1_sealAt) ∈ lw_all := lw_in 921 (by decide +kernel) (by decide +kernel)
theorem mV_X1_sealAt : (Cond.instanceMethod yX1_sealAt) ∈ lw_all := lw_in 923 (by decide +kernel) (by decide +kernel)
theorem mC_X1_sealAt : (Cond.code yX1_sealAt cX1_sealAt 3 (some .int)) ∈ lw_all := lw_in 924 (by decide +kernel) (by decide +kernel)
theorem mM_X1_86 : (Cond.methodLink RX1 86 yX1_seal) ∈ lw_all := lw_in 926 (by decide +kernel) (by decide +kernel)
theorem mT_X1_seal : (Cond.static yX1_seal) ∈ lw_all := lw_in 927 (by decide +kernel) (by decide +kernel)
theorem mC_X1_seal : (Cond.code yX1_seal cX1_seal 4 (some .int)) ∈ lw_all := lw_in 928 (by decide +kernel) (by decide +kernel)
theorem mM_X1_74 : (Cond.methodLink RX1 74 yJ0_length_8abf5) ∈ lw_all := lw_in 929 (by decide +kernel) (by decide +kernel)
theorem mM_X1_80 : (Cond.methodLink RX1 80 yJ0_charAt_5068e) ∈ lw_all := lw_in 930 (by decide +kernel) (by decide +kernel)
theorem mM_X1_90 : (Cond.methodLink RX1 90 yX1_sealOfNumber) ∈ lw_all := lw_in 931 (by decide +kernel) (by decide +kernel)
theorem mT_X1_sealOfNumber : (Cond.static yX1_sealOfNumber) ∈ lw_all := lw_in 932 (by decide +kernel) (by decide +kernel)
theorem mC_X1_sealOfNumber : (Cond.code yX1_sealOfNumber cX1_sealOfNumber 2 (some .int)) ∈ lw_all := lw_in 933 (by decide +kernel) (by decide +kernel)
theorem mM_L_215 : (Cond.methodLink RL 215 yX1_wouldCertify) ∈ lw_all := lw_in 936 (by decide +kernel) (by decide +kernel)
theorem mV_X1_wouldCertify : (Cond.instanceMethod yX1_wouldCertify) ∈ lw_all := lw_in 937 (by decide +kernel) (by decide +kernel)
theorem mS_X1_wouldCertify : (Cond.selects RX1 yX1_wouldCertify yX1_wouldCertify) ∈ lw_all := lw_in 938 (by decide +kernel) (by decide +kernel)
theorem mC_X1_wouldCertify : (Cond.code yX1_wouldCertify cX1_wouldCertify 2 (some .int)) ∈ lw_all := lw_in 939 (by decide +kernel) (by decide +kernel)
theorem mM_L_218 : (Cond.methodLink RL 218 yX1_wouldRefund) ∈ lw_all := lw_in 940 (by decide +kernel) (by decide +kernel)
theorem mV_X1_wouldRefund : (Cond.instanceMethod yX1_wouldRefund) ∈ lw_all := lw_in 941 (by decide +kernel) (by decide +kernel)
theorem mS_X1_wouldRefund : (Cond.selects RX1 yX1_wouldRefund yX1_wouldRefund) ∈ lw_all := lw_in 942 (by decide +kernel) (by decide +kernel)
theorem mC_X1_wouldRefund : (Cond.code yX1_wouldRefund cX1_wouldRefund 3 (some .int)) ∈ lw_all := lw_in 943 (by decide +kernel) (by decide +kernel)
theorem mM_L_221 : (Cond.methodLink RL 221 yX1_missesUntilShaken) ∈ lw_all := lw_in 944 (by decide +kernel) (by decide +kernel)
theorem mV_X1_missesUntilShaken : (Cond.instanceMethod yX1_missesUntilShaken) ∈ lw_all := lw_in 945 (by decide +kernel) (by decide +kernel)
theorem mS_X1_missesUntilShaken : (Cond.selects RX1 yX1_missesUntilShaken yX1_missesUntilShaken) ∈ lw_all := lw_in 946 (by decide +kernel) (by decide +kernel)
theorem mC_X1_missesUntilShaken : (Cond.code yX1_missesUntilShaken cX1_missesUntilShaken 2 (some .int)) ∈ lw_all := lw_in 947 (by decide +kernel) (by decide +kernel)
theorem mM_X1_153 : (Cond.methodLink RX1 153 yX1_untilShaken) ∈ lw_all := lw_in 948 (by decide +kernel) (by decide +kernel)
theorem mV_X1_untilShaken : (Cond.instanceMethod yX1_untilShaken) ∈ lw_all := lw_in 950 (by decide +kernel) (by decide +kernel)
theorem mC_X1_untilShaken : (Cond.code yX1_untilShaken cX1_untilShaken 4 (some .int)) ∈ lw_all := lw_in 951 (by decide +kernel) (by decide +kernel)
theorem mM_L_225 : (Cond.methodLink RL 225 yX1_nightsUntilCalm) ∈ lw_all := lw_in 952 (by decide +kernel) (by decide +kernel)
theorem mV_X1_nightsUntilCalm : (Cond.instanceMethod yX1_nightsUntilCalm) ∈ lw_all := lw_in 953 (by decide +kernel) (by decide +kernel)
theorem mS_X1_nightsUntilCalm : (Cond.selects RX1 yX1_nightsUntilCalm yX1_nightsUntilCalm) ∈ lw_all := lw_in 954 (by decide +kernel) (by decide +kernel)
theorem mC_X1_nightsUntilCalm : (Cond.code yX1_nightsUntilCalm cX1_nightsUntilCalm 1 (some .int)) ∈ lw_all := lw_in 955 (by decide +kernel) (by decide +kernel)
theorem mM_X1_156 : (Cond.methodLink RX1 156 yX1_untilCalm) ∈ lw_all := lw_in 956 (by decide +kernel) (by decide +kernel)
theorem mV_X1_untilCalm : (Cond.instanceMethod yX1_untilCalm) ∈ lw_all := lw_in 958 (by decide +kernel) (by decide +kernel)
theorem mC_X1_untilCalm : (Cond.code yX1_untilCalm cX1_untilCalm 4 (some .int)) ∈ lw_all := lw_in 959 (by decide +kernel) (by decide +kernel)
theorem mM_L_229 : (Cond.methodLink RL 229 yX1_steadiest) ∈ lw_all := lw_in 960 (by decide +kernel) (by decide +kernel)
theorem mV_X1_steadiest : (Cond.instanceMethod yX1_steadiest) ∈ lw_all := lw_in 961 (by decide +kernel) (by decide +kernel)
theorem mS_X1_steadiest : (Cond.selects RX1 yX1_steadiest yX1_steadiest) ∈ lw_all := lw_in 962 (by decide +kernel) (by decide +kernel)
theorem mC_X1_steadiest : (Cond.code yX1_steadiest cX1_steadiest 1 (some .int)) ∈ lw_all := lw_in 963 (by decide +kernel) (by decide +kernel)
theorem mM_X1_159 : (Cond.methodLink RX1 159 yX1_steady) ∈ lw_all := lw_in 964 (by decide +kernel) (by decide +kernel)
theorem mV_X1_steady : (Cond.instanceMethod yX1_steady) ∈ lw_all := lw_in 966 (by decide +kernel) (by decide +kernel)
theorem mC_X1_steady : (Cond.code yX1_steady cX1_steady 3 (some .int)) ∈ lw_all := lw_in 967 (by decide +kernel) (by decide +kernel)
theorem mM_L_233 : (Cond.methodLink RL 233 yX1_luckiest) ∈ lw_all := lw_in 968 (by decide +kernel) (by decide +kernel)
theorem mV_X1_luckiest : (Cond.instanceMethod yX1_luckiest) ∈ lw_all := lw_in 969 (by decide +kernel) (by decide +kernel)
theorem mS_X1_luckiest : (Cond.selects RX1 yX1_luckiest yX1_luckiest) ∈ lw_all := lw_in 970 (by decide +kernel) (by decide +kernel)
theorem mC_X1_luckiest : (Cond.code yX1_luckiest cX1_luckiest 1 (some .int)) ∈ lw_all := lw_in 971 (by decide +kernel) (by decide +kernel)
theorem mM_X1_162 : (Cond.methodLink RX1 162 yX1_lucky) ∈ lw_all := lw_in 972 (by decide +kernel) (by decide +kernel)
theorem mV_X1_lucky : (Cond.instanceMethod yX1_lucky) ∈ lw_all := lw_in 974 (by decide +kernel) (by decide +kernel)
theorem mC_X1_lucky : (Cond.code yX1_lucky cX1_lucky 3 (some .int)) ∈ lw_all := lw_in 975 (by decide +kernel) (by decide +kernel)
theorem mM_L_238 : (Cond.methodLink RL 238 yX1_meanLuck) ∈ lw_all := lw_in 976 (by decide +kernel) (by decide +kernel)
theorem mV_X1_meanLuck : (Cond.instanceMethod yX1_meanLuck) ∈ lw_all := lw_in 977 (by decide +kernel) (by decide +kernel)
theorem mS_X1_meanLuck : (Cond.selects RX1 yX1_meanLuck yX1_meanLuck) ∈ lw_all := lw_in 978 (by decide +kernel) (by decide +kernel)
theorem mC_X1_meanLuck : (Cond.code yX1_meanLuck cX1_meanLuck 3 (some .double)) ∈ lw_all := lw_in 979 (by decide +kernel) (by decide +kernel)
theorem mM_L_243 : (Cond.methodLink RL 243 yX1_digest) ∈ lw_all := lw_in 980 (by decide +kernel) (by decide +kernel)
theorem mV_X1_digest : (Cond.instanceMethod yX1_digest) ∈ lw_all := lw_in 981 (by decide +kernel) (by decide +kernel)
theorem mS_X1_digest : (Cond.selects RX1 yX1_digest yX1_digest) ∈ lw_all := lw_in 982 (by decide +kernel) (by decide +kernel)
theorem mC_X1_digest : (Cond.code yX1_digest cX1_digest 10 (some .long)) ∈ lw_all := lw_in 983 (by decide +kernel) (by decide +kernel)
theorem mL_X1_165 : (Cond.constantLong RX1 165 1951) ∈ lw_all := lw_in 984 (by decide +kernel) (by decide +kernel)
theorem mL_X1_167 : (Cond.constantLong RX1 167 31) ∈ lw_all := lw_in 985 (by decide +kernel) (by decide +kernel)
theorem mA_long : (Cond.arrayClass .long) ∈ lw_all := lw_in 986 (by decide +kernel) (by decide +kernel)
theorem mF_J0_9 : (Cond.fieldLink RJ0 9 "java/lang/String" "value" "[B") ∈ lw_all := lw_in 988 (by decide +kernel) (by decide +kernel)
theorem mF_J0_15 : (Cond.fieldLink RJ0 15 "java/lang/String" "coder" "B") ∈ lw_all := lw_in 989 (by decide +kernel) (by decide +kernel)
end
section
/-! the worlds: the class's object and its ten arrays; the reference's and its nine; a 0 is the object; z: the classes of int[] and boolean[] -/
abbrev kK (D : va_G) (z : ClassId × ClassId) (U : State) : Prop := va_K D vwCl [(z.1, .int), (z.2, .boolean)] U
def xW (z : ClassId × ClassId) (a : Nat → Nat) (lv : Nat → Int32) (lk : Nat → Int32) (pu : Nat → Int32) (fa : Nat → Int32) (he : Nat → Int32) (n : Nat) (nv : Nat → Int32) (du : Nat → Int32) (ta : Nat → Int32) (w : Nat) (mp : Nat → Int32) (mi : Nat → Int32) (k : Nat) (nt : Int32) (fu : Int32) (re : Int32) : va_W := [(a 0, .inr (0, [.ref (a 1), .ref (a 2), .ref (a 3), .ref (a 4), .ref (a 5), .int (nI n), .ref (a 6), .ref (a 7), .ref (a 8), .int (nI w), .ref (a 9), .ref (a 10), .int (nI k), .int nt, .int fu, .int re])), (a 1, .inl (z.2, 10, .inl lv)), (a 2, .inl (z.1, 10, .inl lk)), (a 3, .inl (z.1, 10, .inl pu)), (a 4, .inl (z.1, 10, .inl fa)), (a 5, .inl (z.1, 10, .inl he)), (a 6, .inl (z.1, 6, .inl nv)), (a 7, .inl (z.2, 6, .inl du)), (a 8, .inl (z.1, 6, .inl ta)), (a 9, .inl (z.1, 60, .inl mp)), (a 10, .inl (z.1, 60, .inl mi))]
def mW (z : ClassId × ClassId) (a : Nat → Nat) (th : Int32) (n : Nat) (w : Nat) (gn : Nat → Int32) (lk : Nat → Int32) (pu : Nat → Int32) (fa : Nat → Int32) (he : Nat → Int32) (nv : Nat → Int32) (of : Nat → Int32) (mp : Nat → Int32) (mi : Nat → Int32) (k : Nat) (nt : Int32) (fu : Int32) (re : Int32) : va_W := [(a 0, .inr (1, [.int th, .int (nI n), .int (nI w), .ref (a 1), .ref (a 2), .ref (a 3), .ref (a 4), .ref (a 5), .ref (a 6), .ref (a 7), .ref (a 8), .ref (a 9), .int (nI k), .int nt, .int fu, .int re])), (a 1, .inl (z.2, 10, .inl gn)), (a 2, .inl (z.1, 10, .inl lk)), (a 3, .inl (z.1, 10, .inl pu)), (a 4, .inl (z.1, 10, .inl fa)), (a 5, .inl (z.1, 10, .inl he)), (a 6, .inl (z.1, 6, .inl nv)), (a 7, .inl (z.2, 6, .inl of)), (a 8, .inl (z.1, 60, .inl mp)), (a 9, .inl (z.1, 60, .inl mi))]
def xI (D : va_G) (z : ClassId × ClassId) (a : Nat → Nat) (lv : Nat → Int32) (lk : Nat → Int32) (pu : Nat → Int32) (fa : Nat → Int32) (he : Nat → Int32) (n : Nat) (nv : Nat → Int32) (du : Nat → Int32) (ta : Nat → Int32) (w : Nat) (mp : Nat → Int32) (mi : Nat → Int32) (k : Nat) (nt : Int32) (fu : Int32) (re : Int32) (U : State) : Prop := va_P D vwCl (xW z a lv lk pu fa he n nv du ta w mp mi k nt fu re) U.heap ∧ kK D z U
theorem xpre {s : State} {H : Heap} {D : va_G} {z : ClassId × ClassId} {a : Nat → Nat} {lv lk pu fa he : Nat → Int32} {n : Nat} {nv du ta : Nat → Int32} {w : Nat} {mp mi : Nat → Int32} {k : Nat} {nt fu re : Int32} {As : List Value} (hK : kK D z s) (hP : va_P D vwCl (xW z a lv lk pu fa he n nv du ta w mp mi k nt fu re) H) : PreV s H RX0 (a 0) (va_Pc (.ref (a 0) :: As) (xI D z a lv lk pu fa he n nv du ta w mp mi k nt fu re)) As :=
  ⟨fun a1 U g mk q => ⟨q.1, q.2.1, va_K.moved (u := U) (U := U.calling g mk a1) (Vm.Alike.refl U.vm) q.2.2⟩, va_recv hK hP (ci := 0) (q0 := 0) rfl rfl, fun U hU hW => ⟨rfl, by rw [hU]; exact hP, va_K.moved hW.alike hK⟩⟩
def mI (D : va_G) (z : ClassId × ClassId) (a : Nat → Nat) (th : Int32) (n : Nat) (w : Nat) (gn : Nat → Int32) (lk : Nat → Int32) (pu : Nat → Int32) (fa : Nat → Int32) (he : Nat → Int32) (nv : Nat → Int32) (of : Nat → Int32) (mp : Nat → Int32) (mi : Nat → Int32) (k : Nat) (nt : Int32) (fu : Int32) (re : Int32) (U : State) : Prop := va_P D vwCl (mW z a th n w gn lk pu fa he nv of mp mi k nt fu re) U.heap ∧ kK D z U
theorem mpre {s : State} {H : Heap} {D : va_G} {z : ClassId × ClassId} {a : Nat → Nat} {th : Int32} {n w : Nat} {gn lk pu fa he nv of mp mi : Nat → Int32} {k : Nat} {nt fu re : Int32} {As : List Value} (hK : kK D z s) (hP : va_P D vwCl (mW z a th n w gn lk pu fa he nv of mp mi k nt fu re) H) : PreV s H RX1 (a 0) (va_Pc (.ref (a 0) :: As) (mI D z a th n w gn lk pu fa he nv of mp mi k nt fu re)) As :=
  ⟨fun a1 U g mk q => ⟨q.1, q.2.1, va_K.moved (u := U) (U := U.calling g mk a1) (Vm.Alike.refl U.vm) q.2.2⟩, va_recv hK hP (ci := 1) (q0 := 0) rfl rfl, fun U hU hW => ⟨rfl, by rw [hU]; exact hP, va_K.moved hW.alike hK⟩⟩
section ROWS
variable {p : Program} {l : Launch} {e : Env} {R : Room} {s : State} {m : MethodId} {args : Array Value} {below : List Frame} {meth : Method} {c : Code} {H : Heap} {locs : List Loc} {cells slots : Nat} {Q : State → Prop} {cc : ByteArray} {nL pc : Nat} {ls : Array Slot} {rest : List Value}
section ROWSX
variable {D : va_G} {z : ClassId × ClassId} {a : Nat → Nat} {lv lk pu fa he : Nat → Int32} {n : Nat} {nv du ta : Nat → Int32} {w : Nat} {mp mi : Nat → Int32} {k : Nat} {nt fu re : Int32}
theorem xg_lv (hC : CallFix p m c cc nL s args lw_all RX0) (hK : kK D z s) (hP : va_P D vwCl (xW z a lv lk pu fa he n nv du ta w mp mi k nt fu re) H) (hdg : decode cc pc = .ok (.getfield 9, 3)) (kk : W p l e R s m args below meth c H locs cells slots Q (F0 m (pc + 3) ls (.ref (a 1) :: rest))) : W p l e R s m args below meth c H locs cells slots Q (F0 m pc ls (.ref (a 0) :: rest)) := va_get (D := D) (ci := 0) (v := .ref (a 1)) (C := RX0) (T := TX0) (N := 16) hC.1 hC.2.1 hC.2.2.2.2 lays_X0 hC.2.2.2.1 hK hP 0 rfl rfl 0 (by decide) (hC.2.2.2.2 _ mF_X0_9) (fun _ h9 => h9) rfl hdg kk
theorem xg_lk (hC : CallFix p m c cc nL s args lw_all RX0) (hK : kK D z s) (hP : va_P D vwCl (xW z a lv lk pu fa he n nv du ta w mp mi k nt fu re) H) (hdg : decode cc pc = .ok (.getfield 13, 3)) (kk : W p l e R s m args below meth c H locs cells slots Q (F0 m (pc + 3) ls (.ref (a 2) :: rest))) : W p l e R s m args below meth c H locs cells slots Q (F0 m pc ls (.ref (a 0) :: rest)) := va_get (D := D) (ci := 0) (v := .ref (a 2)) (C := RX0) (T := TX0) (N := 16) hC.1 hC.2.1 hC.2.2.2.2 lays_X0 hC.2.2.2.1 hK hP 0 rfl rfl 1 (by decide) (hC.2.2.2.2 _ mF_X0_13) (fun _ h9 => h9) rfl hdg kk
theorem xg_pu (hC : CallFix p m c cc nL s args lw_all RX0) (hK : kK D z s) (hP : va_P D vwCl (xW z a lv lk pu fa he n nv du ta w mp mi k nt fu re) H) (hdg : decode cc pc = .ok (.getfield 17, 3)) (kk : W p l e R s m args below meth c H locs cells slots Q (F0 m (pc + 3) ls (.ref (a 3) :: rest))) : W p l e R s m args below meth c H locs cells slots Q (F0 m pc ls (.ref (a 0) :: rest)) := va_get (D := D) (ci := 0) (v := .ref (a 3)) (C := RX0) (T := TX0) (N := 16) hC.1 hC.2.1 hC.2.2.2.2 lays_X0 hC.2.2.2.1 hK hP 0 rfl rfl 2 (by decide) (hC.2.2.2.2 _ mF_X0_17) (fun _ h9 => h9) rfl hdg kk
theorem xg_fa (hC : CallFix p m c cc nL s args lw_all RX0) (hK : kK D z s) (hP : va_P D vwCl (xW z a lv lk pu fa he n nv du ta w mp mi k nt fu re) H) (hdg : decode cc pc = .ok (.getfield 20, 3)) (kk : W p l e R s m args below meth c H locs cells slots Q (F0 m (pc + 3) ls (.ref (a 4) :: rest))) : W p l e R s m args below meth c H locs cells slots Q (F0 m pc ls (.ref (a 0) :: rest)) := va_get (D := D) (ci := 0) (v := .ref (a 4)) (C := RX0) (T := TX0) (N := 16) hC.1 hC.2.1 hC.2.2.2.2 lays_X0 hC.2.2.2.1 hK hP 0 rfl rfl 3 (by decide) (hC.2.2.2.2 _ mF_X0_20) (fun _ h9 => h9) rfl hdg kk
theorem xg_he (hC : CallFix p m c cc nL s args lw_all RX0) (hK : kK D z s) (hP : va_P D vwCl (xW z a lv lk pu fa he n nv du ta w mp mi k nt fu re) H) (hdg : decode cc pc = .ok (.getfield 23, 3)) (kk : W p l e R s m args below meth c H locs cells slots Q (F0 m (pc + 3) ls (.ref (a 5) :: rest))) : W p l e R s m args below meth c H locs cells slots Q (F0 m pc ls (.ref (a 0) :: rest)) := va_get (D := D) (ci := 0) (v := .ref (a 5)) (C := RX0) (T := TX0) (N := 16) hC.1 hC.2.1 hC.2.2.2.2 lays_X0 hC.2.2.2.1 hK hP 0 rfl rfl 4 (by decide) (hC.2.2.2.2 _ mF_X0_23) (fun _ h9 => h9) rfl hdg kk
theorem xg_n (hC : CallFix p m c cc nL s args lw_all RX0) (hK : kK D z s) (hP : va_P D vwCl (xW z a lv lk pu fa he n nv du ta w mp mi k nt fu re) H) (hdg : decode cc pc = .ok (.getfield 48, 3)) (kk : W p l e R s m args below meth c H locs cells slots Q (F0 m (pc + 3) ls (.int (nI n) :: rest))) : W p l e R s m args below meth c H locs cells slots Q (F0 m pc ls (.ref (a 0) :: rest)) := va_get (D := D) (ci := 0) (v := .int (nI n)) (C := RX0) (T := TX0) (N := 16) hC.1 hC.2.1 hC.2.2.2.2 lays_X0 hC.2.2.2.1 hK hP 0 rfl rfl 5 (by decide) (hC.2.2.2.2 _ mF_X0_48) (fun _ h9 => h9) rfl hdg kk
theorem xp_n {A : Nat → Prop} {H0 : Heap} (hC : CallFix p m c cc nL s args lw_all RX0) (hK : kK D z s) (hP : va_P D vwCl (xW z a lv lk pu fa he n nv du ta w mp mi k nt fu re) H) (hD : va_D A (xW z a lv lk pu fa he n nv du ta w mp mi k nt fu re)) (hS : va_S A H0 H locs) {n' : Nat} {v : Int32} (hv : v = nI n') (hdg : decode cc pc = .ok (.putfield 48, 3)) (kk : ∀ (H1 : Heap) (locs1 : List Loc), va_P D vwCl (xW z a lv lk pu fa he n' nv du ta w mp mi k nt fu re) H1 → va_D A (xW z a lv lk pu fa he n' nv du ta w mp mi k nt fu re) → va_S A H0 H1 locs1 → W p l e R s m args below meth c H1 locs1 cells slots Q (F0 m (pc + 3) ls rest)) : W p l e R s m args below meth c H locs cells slots Q (F0 m pc ls (.int v :: .ref (a 0) :: rest)) := by
  subst hv
  exact va_put (D := D) (ci := 0) (v := .int (nI n')) (ty := .int) (C := RX0) (T := TX0) (N := 16) hC.1 hC.2.1 hC.2.2.2.2 lays_X0 tyX0 tyX0_ok nmX0 hC.2.2.2.1 hK hP hD hS 0 rfl rfl 5 (by decide) (hC.2.2.2.2 _ mF_X0_48) (fun _ h9 => h9) rfl (by decide +kernel) rfl rfl (Nat.le_of_ble_eq_true rfl) hdg kk
theorem xg_nv (hC : CallFix p m c cc nL s args lw_all RX0) (hK : kK D z s) (hP : va_P D vwCl (xW z a lv lk pu fa he n nv du ta w mp mi k nt fu re) H) (hdg : decode cc pc = .ok (.getfield 26, 3)) (kk : W p l e R s m args below meth c H locs cells slots Q (F0 m (pc + 3) ls (.ref (a 6) :: rest))) : W p l e R s m args below meth c H locs cells slots Q (F0 m pc ls (.ref (a 0) :: rest)) := va_get (D := D) (ci := 0) (v := .ref (a 6)) (C := RX0) (T := TX0) (N := 16) hC.1 hC.2.1 hC.2.2.2.2 lays_X0 hC.2.2.2.1 hK hP 0 rfl rfl 6 (by decide) (hC.2.2.2.2 _ mF_X0_26) (fun _ h9 => h9) rfl hdg kk
theorem xg_du (hC : CallFix p m c cc nL s args lw_all RX0) (hK : kK D z s) (hP : va_P D vwCl (xW z a lv lk pu fa he n nv du ta w mp mi k nt fu re) H) (hdg : decode cc pc = .ok (.getfield 29, 3)) (kk : W p l e R s m args below meth c H locs cells slots Q (F0 m (pc + 3) ls (.ref (a 7) :: rest))) : W p l e R s m args below meth c H locs cells slots Q (F0 m pc ls (.ref (a 0) :: rest)) := va_get (D := D) (ci := 0) (v := .ref (a 7)) (C := RX0) (T := TX0) (N := 16) hC.1 hC.2.1 hC.2.2.2.2 lays_X0 hC.2.2.2.1 hK hP 0 rfl rfl 7 (by decide) (hC.2.2.2.2 _ mF_X0_29) (fun _ h9 => h9) rfl hdg kk
theorem xg_ta (hC : CallFix p m c cc nL s args lw_all RX0) (hK : kK D z s) (hP : va_P D vwCl (xW z a lv lk pu fa he n nv du ta w mp mi k nt fu re) H) (hdg : decode cc pc = .ok (.getfield 32, 3)) (kk : W p l e R s m args below meth c H locs cells slots Q (F0 m (pc + 3) ls (.ref (a 8) :: rest))) : W p l e R s m args below meth c H locs cells slots Q (F0 m pc ls (.ref (a 0) :: rest)) := va_get (D := D) (ci := 0) (v := .ref (a 8)) (C := RX0) (T := TX0) (N := 16) hC.1 hC.2.1 hC.2.2.2.2 lays_X0 hC.2.2.2.1 hK hP 0 rfl rfl 8 (by decide) (hC.2.2.2.2 _ mF_X0_32) (fun _ h9 => h9) rfl hdg kk
theorem xg_w (hC : CallFix p m c cc nL s args lw_all RX0) (hK : kK D z s) (hP : va_P D vwCl (xW z a lv lk pu fa he n nv du ta w mp mi k nt fu re) H) (hdg : decode cc pc = .ok (.getfield 59, 3)) (kk : W p l e R s m args below meth c H locs cells slots Q (F0 m (pc + 3) ls (.int (nI w) :: rest))) : W p l e R s m args below meth c H locs cells slots Q (F0 m pc ls (.ref (a 0) :: rest)) := va_get (D := D) (ci := 0) (v := .int (nI w)) (C := RX0) (T := TX0) (N := 16) hC.1 hC.2.1 hC.2.2.2.2 lays_X0 hC.2.2.2.1 hK hP 0 rfl rfl 9 (by decide) (hC.2.2.2.2 _ mF_X0_59) (fun _ h9 => h9) rfl hdg kk
theorem xp_w {A : Nat → Prop} {H0 : Heap} (hC : CallFix p m c cc nL s args lw_all RX0) (hK : kK D z s) (hP : va_P D vwCl (xW z a lv lk pu fa he n nv du ta w mp mi k nt fu re) H) (hD : va_D A (xW z a lv lk pu fa he n nv du ta w mp mi k nt fu re)) (hS : va_S A H0 H locs) {w' : Nat} {v : Int32} (hv : v = nI w') (hdg : decode cc pc = .ok (.putfield 59, 3)) (kk : ∀ (H1 : Heap) (locs1 : List Loc), va_P D vwCl (xW z a lv lk pu fa he n nv du ta w' mp mi k nt fu re) H1 → va_D A (xW z a lv lk pu fa he n nv du ta w' mp mi k nt fu re) → va_S A H0 H1 locs1 → W p l e R s m args below meth c H1 locs1 cells slots Q (F0 m (pc + 3) ls rest)) : W p l e R s m args below meth c H locs cells slots Q (F0 m pc ls (.int v :: .ref (a 0) :: rest)) := by
  subst hv
  exact va_put (D := D) (ci := 0) (v := .int (nI w')) (ty := .int) (C := RX0) (T := TX0) (N := 16) hC.1 hC.2.1 hC.2.2.2.2 lays_X0 tyX0 tyX0_ok nmX0 hC.2.2.2.1 hK hP hD hS 0 rfl rfl 9 (by decide) (hC.2.2.2.2 _ mF_X0_59) (fun _ h9 => h9) rfl (by decide +kernel) rfl rfl (Nat.le_of_ble_eq_true rfl) hdg kk
theorem xg_mp (hC : CallFix p m c cc nL s args lw_all RX0) (hK : kK D z s) (hP : va_P D vwCl (xW z a lv lk pu fa he n nv du ta w mp mi k nt fu re) H) (hdg : decode cc pc = .ok (.getfield 35, 3)) (kk : W p l e R s m args below meth c H locs cells slots Q (F0 m (pc + 3) ls (.ref (a 9) :: rest))) : W p l e R s m args below meth c H locs cells slots Q (F0 m pc ls (.ref (a 0) :: rest)) := va_get (D := D) (ci := 0) (v := .ref (a 9)) (C := RX0) (T := TX0) (N := 16) hC.1 hC.2.1 hC.2.2.2.2 lays_X0 hC.2.2.2.1 hK hP 0 rfl rfl 10 (by decide) (hC.2.2.2.2 _ mF_X0_35) (fun _ h9 => h9) rfl hdg kk
theorem xg_mi (hC : CallFix p m c cc nL s args lw_all RX0) (hK : kK D z s) (hP : va_P D vwCl (xW z a lv lk pu fa he n nv du ta w mp mi k nt fu re) H) (hdg : decode cc pc = .ok (.getfield 38, 3)) (kk : W p l e R s m args below meth c H locs cells slots Q (F0 m (pc + 3) ls (.ref (a 10) :: rest))) : W p l e R s m args below meth c H locs cells slots Q (F0 m pc ls (.ref (a 0) :: rest)) := va_get (D := D) (ci := 0) (v := .ref (a 10)) (C := RX0) (T := TX0) (N := 16) hC.1 hC.2.1 hC.2.2.2.2 lays_X0 hC.2.2.2.1 hK hP 0 rfl rfl 11 (by decide) (hC.2.2.2.2 _ mF_X0_38) (fun _ h9 => h9) rfl hdg kk
theorem xg_k (hC : CallFix p m c cc nL s args lw_all RX0) (hK : kK D z s) (hP : va_P D vwCl (xW z a lv lk pu fa he n nv du ta w mp mi k nt fu re) H) (hdg : decode cc pc = .ok (.getfield 90, 3)) (kk : W p l e R s m args below meth c H locs cells slots Q (F0 m (pc + 3) ls (.int (nI k) :: rest))) : W p l e R s m args below meth c H locs cells slots Q (F0 m pc ls (.ref (a 0) :: rest)) := va_get (D := D) (ci := 0) (v := .int (nI k)) (C := RX0) (T := TX0) (N := 16) hC.1 hC.2.1 hC.2.2.2.2 lays_X0 hC.2.2.2.1 hK hP 0 rfl rfl 12 (by decide) (hC.2.2.2.2 _ mF_X0_90) (fun _ h9 => h9) rfl hdg kk
theorem xp_k {A : Nat → Prop} {H0 : Heap} (hC : CallFix p m c cc nL s args lw_all RX0) (hK : kK D z s) (hP : va_P D vwCl (xW z a lv lk pu fa he n nv du ta w mp mi k nt fu re) H) (hD : va_D A (xW z a lv lk pu fa he n nv du ta w mp mi k nt fu re)) (hS : va_S A H0 H locs) {k' : Nat} {v : Int32} (hv : v = nI k') (hdg : decode cc pc = .ok (.putfield 90, 3)) (kk : ∀ (H1 : Heap) (locs1 : List Loc), va_P D vwCl (xW z a lv lk pu fa he n nv du ta w mp mi k' nt fu re) H1 → va_D A (xW z a lv lk pu fa he n nv du ta w mp mi k' nt fu re) → va_S A H0 H1 locs1 → W p l e R s m args below meth c H1 locs1 cells slots Q (F0 m (pc + 3) ls rest)) : W p l e R s m args below meth c H locs cells slots Q (F0 m pc ls (.int v :: .ref (a 0) :: rest)) := by
  subst hv
  exact va_put (D := D) (ci := 0) (v := .int (nI k')) (ty := .int) (C := RX0) (T := TX0) (N := 16) hC.1 hC.2.1 hC.2.2.2.2 lays_X0 tyX0 tyX0_ok nmX0 hC.2.2.2.1 hK hP hD hS 0 rfl rfl 12 (by decide) (hC.2.2.2.2 _ mF_X0_90) (fun _ h9 => h9) rfl (by decide +kernel) rfl rfl (Nat.le_of_ble_eq_true rfl) hdg kk
theorem xg_nt (hC : CallFix p m c cc nL s args lw_all RX0) (hK : kK D z s) (hP : va_P D vwCl (xW z a lv lk pu fa he n nv du ta w mp mi k nt fu re) H) (hdg : decode cc pc = .ok (.getfield 133, 3)) (kk : W p l e R s m args below meth c H locs cells slots Q (F0 m (pc + 3) ls (.int nt :: rest))) : W p l e R s m args below meth c H locs cells slots Q (F0 m pc ls (.ref (a 0) :: rest)) := va_get (D := D) (ci := 0) (v := .int nt) (C := RX0) (T := TX0) (N := 16) hC.1 hC.2.1 hC.2.2.2.2 lays_X0 hC.2.2.2.1 hK hP 0 rfl rfl 13 (by decide) (hC.2.2.2.2 _ mF_X0_133) (fun _ h9 => h9) rfl hdg kk
theorem xp_nt {A : Nat → Prop} {H0 : Heap} (hC : CallFix p m c cc nL s args lw_all RX0) (hK : kK D z s) (hP : va_P D vwCl (xW z a lv lk pu fa he n nv du ta w mp mi k nt fu re) H) (hD : va_D A (xW z a lv lk pu fa he n nv du ta w mp mi k nt fu re)) (hS : va_S A H0 H locs) {nt' : Int32} (hdg : decode cc pc = .ok (.putfield 133, 3)) (kk : ∀ (H1 : Heap) (locs1 : List Loc), va_P D vwCl (xW z a lv lk pu fa he n nv du ta w mp mi k nt' fu re) H1 → va_D A (xW z a lv lk pu fa he n nv du ta w mp mi k nt' fu re) → va_S A H0 H1 locs1 → W p l e R s m args below meth c H1 locs1 cells slots Q (F0 m (pc + 3) ls rest)) : W p l e R s m args below meth c H locs cells slots Q (F0 m pc ls (.int nt' :: .ref (a 0) :: rest)) := by
  exact va_put (D := D) (ci := 0) (v := .int nt') (ty := .int) (C := RX0) (T := TX0) (N := 16) hC.1 hC.2.1 hC.2.2.2.2 lays_X0 tyX0 tyX0_ok nmX0 hC.2.2.2.1 hK hP hD hS 0 rfl rfl 13 (by decide) (hC.2.2.2.2 _ mF_X0_133) (fun _ h9 => h9) rfl (by decide +kernel) rfl rfl (Nat.le_of_ble_eq_true rfl) hdg kk
theorem xg_fu (hC : CallFix p m c cc nL s args lw_all RX0) (hK : kK D z s) (hP : va_P D vwCl (xW z a lv lk pu fa he n nv du ta w mp mi k nt fu re) H) (hdg : decode cc pc = .ok (.getfield 81, 3)) (kk : W p l e R s m args below meth c H locs cells slots Q (F0 m (pc + 3) ls (.int fu :: rest))) : W p l e R s m args below meth c H locs cells slots Q (F0 m pc ls (.ref (a 0) :: rest)) := va_get (D := D) (ci := 0) (v := .int fu) (C := RX0) (T := TX0) (N := 16) hC.1 hC.2.1 hC.2.2.2.2 lays_X0 hC.2.2.2.1 hK hP 0 rfl rfl 14 (by decide) (hC.2.2.2.2 _ mF_X0_81) (fun _ h9 => h9) rfl hdg kk
theorem xp_fu {A : Nat → Prop} {H0 : Heap} (hC : CallFix p m c cc nL s args lw_all RX0) (hK : kK D z s) (hP : va_P D vwCl (xW z a lv lk pu fa he n nv du ta w mp mi k nt fu re) H) (hD : va_D A (xW z a lv lk pu fa he n nv du ta w mp mi k nt fu re)) (hS : va_S A H0 H locs) {fu' : Int32} (hdg : decode cc pc = .ok (.putfield 81, 3)) (kk : ∀ (H1 : Heap) (locs1 : List Loc), va_P D vwCl (xW z a lv lk pu fa he n nv du ta w mp mi k nt fu' re) H1 → va_D A (xW z a lv lk pu fa he n nv du ta w mp mi k nt fu' re) → va_S A H0 H1 locs1 → W p l e R s m args below meth c H1 locs1 cells slots Q (F0 m (pc + 3) ls rest)) : W p l e R s m args below meth c H locs cells slots Q (F0 m pc ls (.int fu' :: .ref (a 0) :: rest)) := by
  exact va_put (D := D) (ci := 0) (v := .int fu') (ty := .int) (C := RX0) (T := TX0) (N := 16) hC.1 hC.2.1 hC.2.2.2.2 lays_X0 tyX0 tyX0_ok nmX0 hC.2.2.2.1 hK hP hD hS 0 rfl rfl 14 (by decide) (hC.2.2.2.2 _ mF_X0_81) (fun _ h9 => h9) rfl (by decide +kernel) rfl rfl (Nat.le_of_ble_eq_true rfl) hdg kk
theorem xg_re (hC : CallFix p m c cc nL s args lw_all RX0) (hK : kK D z s) (hP : va_P D vwCl (xW z a lv lk pu fa he n nv du ta w mp mi k nt fu re) H) (hdg : decode cc pc = .ok (.getfield 139, 3)) (kk : W p l e R s m args below meth c H locs cells slots Q (F0 m (pc + 3) ls (.int re :: rest))) : W p l e R s m args below meth c H locs cells slots Q (F0 m pc ls (.ref (a 0) :: rest)) := va_get (D := D) (ci := 0) (v := .int re) (C := RX0) (T := TX0) (N := 16) hC.1 hC.2.1 hC.2.2.2.2 lays_X0 hC.2.2.2.1 hK hP 0 rfl rfl 15 (by decide) (hC.2.2.2.2 _ mF_X0_139) (fun _ h9 => h9) rfl hdg kk
theorem xp_re {A : Nat → Prop} {H0 : Heap} (hC : CallFix p m c cc nL s args lw_all RX0) (hK : kK D z s) (hP : va_P D vwCl (xW z a lv lk pu fa he n nv du ta w mp mi k nt fu re) H) (hD : va_D A (xW z a lv lk pu fa he n nv du ta w mp mi k nt fu re)) (hS : va_S A H0 H locs) {re' : Int32} (hdg : decode cc pc = .ok (.putfield 139, 3)) (kk : ∀ (H1 : Heap) (locs1 : List Loc), va_P D vwCl (xW z a lv lk pu fa he n nv du ta w mp mi k nt fu re') H1 → va_D A (xW z a lv lk pu fa he n nv du ta w mp mi k nt fu re') → va_S A H0 H1 locs1 → W p l e R s m args below meth c H1 locs1 cells slots Q (F0 m (pc + 3) ls rest)) : W p l e R s m args below meth c H locs cells slots Q (F0 m pc ls (.int re' :: .ref (a 0) :: rest)) := by
  exact va_put (D := D) (ci := 0) (v := .int re') (ty := .int) (C := RX0) (T := TX0) (N := 16) hC.1 hC.2.1 hC.2.2.2.2 lays_X0 tyX0 tyX0_ok nmX0 hC.2.2.2.1 hK hP hD hS 0 rfl rfl 15 (by decide) (hC.2.2.2.2 _ mF_X0_139) (fun _ h9 => h9) rfl (by decide +kernel) rfl rfl (Nat.le_of_ble_eq_true rfl) hdg kk
theorem xl_lv (hC : CallFix p m c cc nL s args lw_all RX0) (hK : kK D z s) (hP : va_P D vwCl (xW z a lv lk pu fa he n nv du ta w mp mi k nt fu re) H) {x : Int32} (j : Nat) (hx : x = nI j) (hj : j < 10) (hdg : decode cc pc = .ok (.baload, 1)) (kk : W p l e R s m args below meth c H locs cells slots Q (F0 m (pc + 1) ls (.int (lv j) :: rest))) : W p l e R s m args below meth c H locs cells slots Q (F0 m pc ls (.int x :: .ref (a 1) :: rest)) := by
  subst hx
  refine va_zald (D := D) hC.1 hC.2.1 hK hP 1 1 (n := 10) (f := lv) rfl rfl (vp_in_nI hj (by decide)) hdg ?_
  rw [nI_clamp (by omega)]
  exact kk
theorem xs_lv {A : Nat → Prop} {H0 : Heap} (hC : CallFix p m c cc nL s args lw_all RX0) (hK : kK D z s) (hP : va_P D vwCl (xW z a lv lk pu fa he n nv du ta w mp mi k nt fu re) H) (hD : va_D A (xW z a lv lk pu fa he n nv du ta w mp mi k nt fu re)) (hS : va_S A H0 H locs) {x v : Int32} (j : Nat) (hx : x = nI j) (hj : j < 10) (hn : vp_nar .boolean v = v) (hdg : decode cc pc = .ok (.bastore, 1)) (kk : ∀ (H1 : Heap) (locs1 : List Loc), va_P D vwCl (xW z a (upd lv j v) lk pu fa he n nv du ta w mp mi k nt fu re) H1 → va_D A (xW z a (upd lv j v) lk pu fa he n nv du ta w mp mi k nt fu re) → va_S A H0 H1 locs1 → W p l e R s m args below meth c H1 locs1 cells slots Q (F0 m (pc + 1) ls rest)) : W p l e R s m args below meth c H locs cells slots Q (F0 m pc ls (.int v :: .int x :: .ref (a 1) :: rest)) := by
  subst hx
  refine va_zast (D := D) hC.1 hC.2.1 hK hP hD hS 1 1 (n := 10) (f := lv) rfl rfl (vp_in_nI hj (by decide)) hdg ?_
  rw [nI_clamp (by omega), hn]
  exact kk
theorem xl_lk (hC : CallFix p m c cc nL s args lw_all RX0) (hK : kK D z s) (hP : va_P D vwCl (xW z a lv lk pu fa he n nv du ta w mp mi k nt fu re) H) {x : Int32} (j : Nat) (hx : x = nI j) (hj : j < 10) (hdg : decode cc pc = .ok (.iaload, 1)) (kk : W p l e R s m args below meth c H locs cells slots Q (F0 m (pc + 1) ls (.int (lk j) :: rest))) : W p l e R s m args below meth c H locs cells slots Q (F0 m pc ls (.int x :: .ref (a 2) :: rest)) := by
  subst hx
  refine va_iald (D := D) hC.1 hC.2.1 hK hP 2 0 (n := 10) (f := lk) rfl rfl (vp_in_nI hj (by decide)) hdg ?_
  rw [nI_clamp (by omega)]
  exact kk
theorem xs_lk {A : Nat → Prop} {H0 : Heap} (hC : CallFix p m c cc nL s args lw_all RX0) (hK : kK D z s) (hP : va_P D vwCl (xW z a lv lk pu fa he n nv du ta w mp mi k nt fu re) H) (hD : va_D A (xW z a lv lk pu fa he n nv du ta w mp mi k nt fu re)) (hS : va_S A H0 H locs) {x v : Int32} (j : Nat) (hx : x = nI j) (hj : j < 10) (hdg : decode cc pc = .ok (.iastore, 1)) (kk : ∀ (H1 : Heap) (locs1 : List Loc), va_P D vwCl (xW z a lv (upd lk j v) pu fa he n nv du ta w mp mi k nt fu re) H1 → va_D A (xW z a lv (upd lk j v) pu fa he n nv du ta w mp mi k nt fu re) → va_S A H0 H1 locs1 → W p l e R s m args below meth c H1 locs1 cells slots Q (F0 m (pc + 1) ls rest)) : W p l e R s m args below meth c H locs cells slots Q (F0 m pc ls (.int v :: .int x :: .ref (a 2) :: rest)) := by
  subst hx
  refine va_iast (D := D) hC.1 hC.2.1 hK hP hD hS 2 0 (n := 10) (f := lk) rfl rfl (vp_in_nI hj (by decide)) hdg ?_
  rw [nI_clamp (by omega)]
  exact kk
theorem xl_pu (hC : CallFix p m c cc nL s args lw_all RX0) (hK : kK D z s) (hP : va_P D vwCl (xW z a lv lk pu fa he n nv du ta w mp mi k nt fu re) H) {x : Int32} (j : Nat) (hx : x = nI j) (hj : j < 10) (hdg : decode cc pc = .ok (.iaload, 1)) (kk : W p l e R s m args below meth c H locs cells slots Q (F0 m (pc + 1) ls (.int (pu j) :: rest))) : W p l e R s m args below meth c H locs cells slots Q (F0 m pc ls (.int x :: .ref (a 3) :: rest)) := by
  subst hx
  refine va_iald (D := D) hC.1 hC.2.1 hK hP 3 0 (n := 10) (f := pu) rfl rfl (vp_in_nI hj (by decide)) hdg ?_
  rw [nI_clamp (by omega)]
  exact kk
theorem xs_pu {A : Nat → Prop} {H0 : Heap} (hC : CallFix p m c cc nL s args lw_all RX0) (hK : kK D z s) (hP : va_P D vwCl (xW z a lv lk pu fa he n nv du ta w mp mi k nt fu re) H) (hD : va_D A (xW z a lv lk pu fa he n nv du ta w mp mi k nt fu re)) (hS : va_S A H0 H locs) {x v : Int32} (j : Nat) (hx : x = nI j) (hj : j < 10) (hdg : decode cc pc = .ok (.iastore, 1)) (kk : ∀ (H1 : Heap) (locs1 : List Loc), va_P D vwCl (xW z a lv lk (upd pu j v) fa he n nv du ta w mp mi k nt fu re) H1 → va_D A (xW z a lv lk (upd pu j v) fa he n nv du ta w mp mi k nt fu re) → va_S A H0 H1 locs1 → W p l e R s m args below meth c H1 locs1 cells slots Q (F0 m (pc + 1) ls rest)) : W p l e R s m args below meth c H locs cells slots Q (F0 m pc ls (.int v :: .int x :: .ref (a 3) :: rest)) := by
  subst hx
  refine va_iast (D := D) hC.1 hC.2.1 hK hP hD hS 3 0 (n := 10) (f := pu) rfl rfl (vp_in_nI hj (by decide)) hdg ?_
  rw [nI_clamp (by omega)]
  exact kk
theorem xl_fa (hC : CallFix p m c cc nL s args lw_all RX0) (hK : kK D z s) (hP : va_P D vwCl (xW z a lv lk pu fa he n nv du ta w mp mi k nt fu re) H) {x : Int32} (j : Nat) (hx : x = nI j) (hj : j < 10) (hdg : decode cc pc = .ok (.iaload, 1)) (kk : W p l e R s m args below meth c H locs cells slots Q (F0 m (pc + 1) ls (.int (fa j) :: rest))) : W p l e R s m args below meth c H locs cells slots Q (F0 m pc ls (.int x :: .ref (a 4) :: rest)) := by
  subst hx
  refine va_iald (D := D) hC.1 hC.2.1 hK hP 4 0 (n := 10) (f := fa) rfl rfl (vp_in_nI hj (by decide)) hdg ?_
  rw [nI_clamp (by omega)]
  exact kk
theorem xs_fa {A : Nat → Prop} {H0 : Heap} (hC : CallFix p m c cc nL s args lw_all RX0) (hK : kK D z s) (hP : va_P D vwCl (xW z a lv lk pu fa he n nv du ta w mp mi k nt fu re) H) (hD : va_D A (xW z a lv lk pu fa he n nv du ta w mp mi k nt fu re)) (hS : va_S A H0 H locs) {x v : Int32} (j : Nat) (hx : x = nI j) (hj : j < 10) (hdg : decode cc pc = .ok (.iastore, 1)) (kk : ∀ (H1 : Heap) (locs1 : List Loc), va_P D vwCl (xW z a lv lk pu (upd fa j v) he n nv du ta w mp mi k nt fu re) H1 → va_D A (xW z a lv lk pu (upd fa j v) he n nv du ta w mp mi k nt fu re) → va_S A H0 H1 locs1 → W p l e R s m args below meth c H1 locs1 cells slots Q (F0 m (pc + 1) ls rest)) : W p l e R s m args below meth c H locs cells slots Q (F0 m pc ls (.int v :: .int x :: .ref (a 4) :: rest)) := by
  subst hx
  refine va_iast (D := D) hC.1 hC.2.1 hK hP hD hS 4 0 (n := 10) (f := fa) rfl rfl (vp_in_nI hj (by decide)) hdg ?_
  rw [nI_clamp (by omega)]
  exact kk
theorem xl_he (hC : CallFix p m c cc nL s args lw_all RX0) (hK : kK D z s) (hP : va_P D vwCl (xW z a lv lk pu fa he n nv du ta w mp mi k nt fu re) H) {x : Int32} (j : Nat) (hx : x = nI j) (hj : j < 10) (hdg : decode cc pc = .ok (.iaload, 1)) (kk : W p l e R s m args below meth c H locs cells slots Q (F0 m (pc + 1) ls (.int (he j) :: rest))) : W p l e R s m args below meth c H locs cells slots Q (F0 m pc ls (.int x :: .ref (a 5) :: rest)) := by
  subst hx
  refine va_iald (D := D) hC.1 hC.2.1 hK hP 5 0 (n := 10) (f := he) rfl rfl (vp_in_nI hj (by decide)) hdg ?_
  rw [nI_clamp (by omega)]
  exact kk
theorem xs_he {A : Nat → Prop} {H0 : Heap} (hC : CallFix p m c cc nL s args lw_all RX0) (hK : kK D z s) (hP : va_P D vwCl (xW z a lv lk pu fa he n nv du ta w mp mi k nt fu re) H) (hD : va_D A (xW z a lv lk pu fa he n nv du ta w mp mi k nt fu re)) (hS : va_S A H0 H locs) {x v : Int32} (j : Nat) (hx : x = nI j) (hj : j < 10) (hdg : decode cc pc = .ok (.iastore, 1)) (kk : ∀ (H1 : Heap) (locs1 : List Loc), va_P D vwCl (xW z a lv lk pu fa (upd he j v) n nv du ta w mp mi k nt fu re) H1 → va_D A (xW z a lv lk pu fa (upd he j v) n nv du ta w mp mi k nt fu re) → va_S A H0 H1 locs1 → W p l e R s m args below meth c H1 locs1 cells slots Q (F0 m (pc + 1) ls rest)) : W p l e R s m args below meth c H locs cells slots Q (F0 m pc ls (.int v :: .int x :: .ref (a 5) :: rest)) := by
  subst hx
  refine va_iast (D := D) hC.1 hC.2.1 hK hP hD hS 5 0 (n := 10) (f := he) rfl rfl (vp_in_nI hj (by decide)) hdg ?_
  rw [nI_clamp (by omega)]
  exact kk
theorem xl_nv (hC : CallFix p m c cc nL s args lw_all RX0) (hK : kK D z s) (hP : va_P D vwCl (xW z a lv lk pu fa he n nv du ta w mp mi k nt fu re) H) {x : Int32} (j : Nat) (hx : x = nI j) (hj : j < 6) (hdg : decode cc pc = .ok (.iaload, 1)) (kk : W p l e R s m args below meth c H locs cells slots Q (F0 m (pc + 1) ls (.int (nv j) :: rest))) : W p l e R s m args below meth c H locs cells slots Q (F0 m pc ls (.int x :: .ref (a 6) :: rest)) := by
  subst hx
  refine va_iald (D := D) hC.1 hC.2.1 hK hP 6 0 (n := 6) (f := nv) rfl rfl (vp_in_nI hj (by decide)) hdg ?_
  rw [nI_clamp (by omega)]
  exact kk
theorem xs_nv {A : Nat → Prop} {H0 : Heap} (hC : CallFix p m c cc nL s args lw_all RX0) (hK : kK D z s) (hP : va_P D vwCl (xW z a lv lk pu fa he n nv du ta w mp mi k nt fu re) H) (hD : va_D A (xW z a lv lk pu fa he n nv du ta w mp mi k nt fu re)) (hS : va_S A H0 H locs) {x v : Int32} (j : Nat) (hx : x = nI j) (hj : j < 6) (hdg : decode cc pc = .ok (.iastore, 1)) (kk : ∀ (H1 : Heap) (locs1 : List Loc), va_P D vwCl (xW z a lv lk pu fa he n (upd nv j v) du ta w mp mi k nt fu re) H1 → va_D A (xW z a lv lk pu fa he n (upd nv j v) du ta w mp mi k nt fu re) → va_S A H0 H1 locs1 → W p l e R s m args below meth c H1 locs1 cells slots Q (F0 m (pc + 1) ls rest)) : W p l e R s m args below meth c H locs cells slots Q (F0 m pc ls (.int v :: .int x :: .ref (a 6) :: rest)) := by
  subst hx
  refine va_iast (D := D) hC.1 hC.2.1 hK hP hD hS 6 0 (n := 6) (f := nv) rfl rfl (vp_in_nI hj (by decide)) hdg ?_
  rw [nI_clamp (by omega)]
  exact kk
theorem xl_du (hC : CallFix p m c cc nL s args lw_all RX0) (hK : kK D z s) (hP : va_P D vwCl (xW z a lv lk pu fa he n nv du ta w mp mi k nt fu re) H) {x : Int32} (j : Nat) (hx : x = nI j) (hj : j < 6) (hdg : decode cc pc = .ok (.baload, 1)) (kk : W p l e R s m args below meth c H locs cells slots Q (F0 m (pc + 1) ls (.int (du j) :: rest))) : W p l e R s m args below meth c H locs cells slots Q (F0 m pc ls (.int x :: .ref (a 7) :: rest)) := by
  subst hx
  refine va_zald (D := D) hC.1 hC.2.1 hK hP 7 1 (n := 6) (f := du) rfl rfl (vp_in_nI hj (by decide)) hdg ?_
  rw [nI_clamp (by omega)]
  exact kk
theorem xs_du {A : Nat → Prop} {H0 : Heap} (hC : CallFix p m c cc nL s args lw_all RX0) (hK : kK D z s) (hP : va_P D vwCl (xW z a lv lk pu fa he n nv du ta w mp mi k nt fu re) H) (hD : va_D A (xW z a lv lk pu fa he n nv du ta w mp mi k nt fu re)) (hS : va_S A H0 H locs) {x v : Int32} (j : Nat) (hx : x = nI j) (hj : j < 6) (hn : vp_nar .boolean v = v) (hdg : decode cc pc = .ok (.bastore, 1)) (kk : ∀ (H1 : Heap) (locs1 : List Loc), va_P D vwCl (xW z a lv lk pu fa he n nv (upd du j v) ta w mp mi k nt fu re) H1 → va_D A (xW z a lv lk pu fa he n nv (upd du j v) ta w mp mi k nt fu re) → va_S A H0 H1 locs1 → W p l e R s m args below meth c H1 locs1 cells slots Q (F0 m (pc + 1) ls rest)) : W p l e R s m args below meth c H locs cells slots Q (F0 m pc ls (.int v :: .int x :: .ref (a 7) :: rest)) := by
  subst hx
  refine va_zast (D := D) hC.1 hC.2.1 hK hP hD hS 7 1 (n := 6) (f := du) rfl rfl (vp_in_nI hj (by decide)) hdg ?_
  rw [nI_clamp (by omega), hn]
  exact kk
theorem xl_ta (hC : CallFix p m c cc nL s args lw_all RX0) (hK : kK D z s) (hP : va_P D vwCl (xW z a lv lk pu fa he n nv du ta w mp mi k nt fu re) H) {x : Int32} (j : Nat) (hx : x = nI j) (hj : j < 6) (hdg : decode cc pc = .ok (.iaload, 1)) (kk : W p l e R s m args below meth c H locs cells slots Q (F0 m (pc + 1) ls (.int (ta j) :: rest))) : W p l e R s m args below meth c H locs cells slots Q (F0 m pc ls (.int x :: .ref (a 8) :: rest)) := by
  subst hx
  refine va_iald (D := D) hC.1 hC.2.1 hK hP 8 0 (n := 6) (f := ta) rfl rfl (vp_in_nI hj (by decide)) hdg ?_
  rw [nI_clamp (by omega)]
  exact kk
theorem xs_ta {A : Nat → Prop} {H0 : Heap} (hC : CallFix p m c cc nL s args lw_all RX0) (hK : kK D z s) (hP : va_P D vwCl (xW z a lv lk pu fa he n nv du ta w mp mi k nt fu re) H) (hD : va_D A (xW z a lv lk pu fa he n nv du ta w mp mi k nt fu re)) (hS : va_S A H0 H locs) {x v : Int32} (j : Nat) (hx : x = nI j) (hj : j < 6) (hdg : decode cc pc = .ok (.iastore, 1)) (kk : ∀ (H1 : Heap) (locs1 : List Loc), va_P D vwCl (xW z a lv lk pu fa he n nv du (upd ta j v) w mp mi k nt fu re) H1 → va_D A (xW z a lv lk pu fa he n nv du (upd ta j v) w mp mi k nt fu re) → va_S A H0 H1 locs1 → W p l e R s m args below meth c H1 locs1 cells slots Q (F0 m (pc + 1) ls rest)) : W p l e R s m args below meth c H locs cells slots Q (F0 m pc ls (.int v :: .int x :: .ref (a 8) :: rest)) := by
  subst hx
  refine va_iast (D := D) hC.1 hC.2.1 hK hP hD hS 8 0 (n := 6) (f := ta) rfl rfl (vp_in_nI hj (by decide)) hdg ?_
  rw [nI_clamp (by omega)]
  exact kk
theorem xl_mp (hC : CallFix p m c cc nL s args lw_all RX0) (hK : kK D z s) (hP : va_P D vwCl (xW z a lv lk pu fa he n nv du ta w mp mi k nt fu re) H) {x : Int32} (j : Nat) (hx : x = nI j) (hj : j < 60) (hdg : decode cc pc = .ok (.iaload, 1)) (kk : W p l e R s m args below meth c H locs cells slots Q (F0 m (pc + 1) ls (.int (mp j) :: rest))) : W p l e R s m args below meth c H locs cells slots Q (F0 m pc ls (.int x :: .ref (a 9) :: rest)) := by
  subst hx
  refine va_iald (D := D) hC.1 hC.2.1 hK hP 9 0 (n := 60) (f := mp) rfl rfl (vp_in_nI hj (by decide)) hdg ?_
  rw [nI_clamp (by omega)]
  exact kk
theorem xs_mp {A : Nat → Prop} {H0 : Heap} (hC : CallFix p m c cc nL s args lw_all RX0) (hK : kK D z s) (hP : va_P D vwCl (xW z a lv lk pu fa he n nv du ta w mp mi k nt fu re) H) (hD : va_D A (xW z a lv lk pu fa he n nv du ta w mp mi k nt fu re)) (hS : va_S A H0 H locs) {x v : Int32} (j : Nat) (hx : x = nI j) (hj : j < 60) (hdg : decode cc pc = .ok (.iastore, 1)) (kk : ∀ (H1 : Heap) (locs1 : List Loc), va_P D vwCl (xW z a lv lk pu fa he n nv du ta w (upd mp j v) mi k nt fu re) H1 → va_D A (xW z a lv lk pu fa he n nv du ta w (upd mp j v) mi k nt fu re) → va_S A H0 H1 locs1 → W p l e R s m args below meth c H1 locs1 cells slots Q (F0 m (pc + 1) ls rest)) : W p l e R s m args below meth c H locs cells slots Q (F0 m pc ls (.int v :: .int x :: .ref (a 9) :: rest)) := by
  subst hx
  refine va_iast (D := D) hC.1 hC.2.1 hK hP hD hS 9 0 (n := 60) (f := mp) rfl rfl (vp_in_nI hj (by decide)) hdg ?_
  rw [nI_clamp (by omega)]
  exact kk
theorem xl_mi (hC : CallFix p m c cc nL s args lw_all RX0) (hK : kK D z s) (hP : va_P D vwCl (xW z a lv lk pu fa he n nv du ta w mp mi k nt fu re) H) {x : Int32} (j : Nat) (hx : x = nI j) (hj : j < 60) (hdg : decode cc pc = .ok (.iaload, 1)) (kk : W p l e R s m args below meth c H locs cells slots Q (F0 m (pc + 1) ls (.int (mi j) :: rest))) : W p l e R s m args below meth c H locs cells slots Q (F0 m pc ls (.int x :: .ref (a 10) :: rest)) := by
  subst hx
  refine va_iald (D := D) hC.1 hC.2.1 hK hP 10 0 (n := 60) (f := mi) rfl rfl (vp_in_nI hj (by decide)) hdg ?_
  rw [nI_clamp (by omega)]
  exact kk
theorem xs_mi {A : Nat → Prop} {H0 : Heap} (hC : CallFix p m c cc nL s args lw_all RX0) (hK : kK D z s) (hP : va_P D vwCl (xW z a lv lk pu fa he n nv du ta w mp mi k nt fu re) H) (hD : va_D A (xW z a lv lk pu fa he n nv du ta w mp mi k nt fu re)) (hS : va_S A H0 H locs) {x v : Int32} (j : Nat) (hx : x = nI j) (hj : j < 60) (hdg : decode cc pc = .ok (.iastore, 1)) (kk : ∀ (H1 : Heap) (locs1 : List Loc), va_P D vwCl (xW z a lv lk pu fa he n nv du ta w mp (upd mi j v) k nt fu re) H1 → va_D A (xW z a lv lk pu fa he n nv du ta w mp (upd mi j v) k nt fu re) → va_S A H0 H1 locs1 → W p l e R s m args below meth c H1 locs1 cells slots Q (F0 m (pc + 1) ls rest)) : W p l e R s m args below meth c H locs cells slots Q (F0 m pc ls (.int v :: .int x :: .ref (a 10) :: rest)) := by
  subst hx
  refine va_iast (D := D) hC.1 hC.2.1 hK hP hD hS 10 0 (n := 60) (f := mi) rfl rfl (vp_in_nI hj (by decide)) hdg ?_
  rw [nI_clamp (by omega)]
  exact kk
end ROWSX
section ROWSM
variable {D : va_G} {z : ClassId × ClassId} {a : Nat → Nat} {th : Int32} {n w : Nat} {gn lk pu fa he nv of mp mi : Nat → Int32} {k : Nat} {nt fu re : Int32}
theorem mg_th (hC : CallFix p m c cc nL s args lw_all RX1) (hK : kK D z s) (hP : va_P D vwCl (mW z a th n w gn lk pu fa he nv of mp mi k nt fu re) H) (hdg : decode cc pc = .ok (.getfield 38, 3)) (kk : W p l e R s m args below meth c H locs cells slots Q (F0 m (pc + 3) ls (.int th :: rest))) : W p l e R s m args below meth c H locs cells slots Q (F0 m pc ls (.ref (a 0) :: rest)) := va_get (D := D) (ci := 1) (v := .int th) (C := RX1) (T := TX1) (N := 16) hC.1 hC.2.1 hC.2.2.2.2 lays_X1 hC.2.2.2.1 hK hP 0 rfl rfl 0 (by decide) (hC.2.2.2.2 _ mF_X1_38) (fun _ h9 => h9) rfl hdg kk
theorem mp_th {A : Nat → Prop} {H0 : Heap} (hC : CallFix p m c cc nL s args lw_all RX1) (hK : kK D z s) (hP : va_P D vwCl (mW z a th n w gn lk pu fa he nv of mp mi k nt fu re) H) (hD : va_D A (mW z a th n w gn lk pu fa he nv of mp mi k nt fu re)) (hS : va_S A H0 H locs) {th' : Int32} (hdg : decode cc pc = .ok (.putfield 38, 3)) (kk : ∀ (H1 : Heap) (locs1 : List Loc), va_P D vwCl (mW z a th' n w gn lk pu fa he nv of mp mi k nt fu re) H1 → va_D A (mW z a th' n w gn lk pu fa he nv of mp mi k nt fu re) → va_S A H0 H1 locs1 → W p l e R s m args below meth c H1 locs1 cells slots Q (F0 m (pc + 3) ls rest)) : W p l e R s m args below meth c H locs cells slots Q (F0 m pc ls (.int th' :: .ref (a 0) :: rest)) := by
  exact va_put (D := D) (ci := 1) (v := .int th') (ty := .int) (C := RX1) (T := TX1) (N := 16) hC.1 hC.2.1 hC.2.2.2.2 lays_X1 tyX1 tyX1_ok nmX1 hC.2.2.2.1 hK hP hD hS 0 rfl rfl 0 (by decide) (hC.2.2.2.2 _ mF_X1_38) (fun _ h9 => h9) rfl (by decide +kernel) rfl rfl (Nat.le_of_ble_eq_true rfl) hdg kk
theorem mg_n (hC : CallFix p m c cc nL s args lw_all RX1) (hK : kK D z s) (hP : va_P D vwCl (mW z a th n w gn lk pu fa he nv of mp mi k nt fu re) H) (hdg : decode cc pc = .ok (.getfield 42, 3)) (kk : W p l e R s m args below meth c H locs cells slots Q (F0 m (pc + 3) ls (.int (nI n) :: rest))) : W p l e R s m args below meth c H locs cells slots Q (F0 m pc ls (.ref (a 0) :: rest)) := va_get (D := D) (ci := 1) (v := .int (nI n)) (C := RX1) (T := TX1) (N := 16) hC.1 hC.2.1 hC.2.2.2.2 lays_X1 hC.2.2.2.1 hK hP 0 rfl rfl 1 (by decide) (hC.2.2.2.2 _ mF_X1_42) (fun _ h9 => h9) rfl hdg kk
theorem mp_n {A : Nat → Prop} {H0 : Heap} (hC : CallFix p m c cc nL s args lw_all RX1) (hK : kK D z s) (hP : va_P D vwCl (mW z a th n w gn lk pu fa he nv of mp mi k nt fu re) H) (hD : va_D A (mW z a th n w gn lk pu fa he nv of mp mi k nt fu re)) (hS : va_S A H0 H locs) {n' : Nat} {v : Int32} (hv : v = nI n') (hdg : decode cc pc = .ok (.putfield 42, 3)) (kk : ∀ (H1 : Heap) (locs1 : List Loc), va_P D vwCl (mW z a th n' w gn lk pu fa he nv of mp mi k nt fu re) H1 → va_D A (mW z a th n' w gn lk pu fa he nv of mp mi k nt fu re) → va_S A H0 H1 locs1 → W p l e R s m args below meth c H1 locs1 cells slots Q (F0 m (pc + 3) ls rest)) : W p l e R s m args below meth c H locs cells slots Q (F0 m pc ls (.int v :: .ref (a 0) :: rest)) := by
  subst hv
  exact va_put (D := D) (ci := 1) (v := .int (nI n')) (ty := .int) (C := RX1) (T := TX1) (N := 16) hC.1 hC.2.1 hC.2.2.2.2 lays_X1 tyX1 tyX1_ok nmX1 hC.2.2.2.1 hK hP hD hS 0 rfl rfl 1 (by decide) (hC.2.2.2.2 _ mF_X1_42) (fun _ h9 => h9) rfl (by decide +kernel) rfl rfl (Nat.le_of_ble_eq_true rfl) hdg kk
theorem mg_w (hC : CallFix p m c cc nL s args lw_all RX1) (hK : kK D z s) (hP : va_P D vwCl (mW z a th n w gn lk pu fa he nv of mp mi k nt fu re) H) (hdg : decode cc pc = .ok (.getfield 49, 3)) (kk : W p l e R s m args below meth c H locs cells slots Q (F0 m (pc + 3) ls (.int (nI w) :: rest))) : W p l e R s m args below meth c H locs cells slots Q (F0 m pc ls (.ref (a 0) :: rest)) := va_get (D := D) (ci := 1) (v := .int (nI w)) (C := RX1) (T := TX1) (N := 16) hC.1 hC.2.1 hC.2.2.2.2 lays_X1 hC.2.2.2.1 hK hP 0 rfl rfl 2 (by decide) (hC.2.2.2.2 _ mF_X1_49) (fun _ h9 => h9) rfl hdg kk
theorem mp_w {A : Nat → Prop} {H0 : Heap} (hC : CallFix p m c cc nL s args lw_all RX1) (hK : kK D z s) (hP : va_P D vwCl (mW z a th n w gn lk pu fa he nv of mp mi k nt fu re) H) (hD : va_D A (mW z a th n w gn lk pu fa he nv of mp mi k nt fu re)) (hS : va_S A H0 H locs) {w' : Nat} {v : Int32} (hv : v = nI w') (hdg : decode cc pc = .ok (.putfield 49, 3)) (kk : ∀ (H1 : Heap) (locs1 : List Loc), va_P D vwCl (mW z a th n w' gn lk pu fa he nv of mp mi k nt fu re) H1 → va_D A (mW z a th n w' gn lk pu fa he nv of mp mi k nt fu re) → va_S A H0 H1 locs1 → W p l e R s m args below meth c H1 locs1 cells slots Q (F0 m (pc + 3) ls rest)) : W p l e R s m args below meth c H locs cells slots Q (F0 m pc ls (.int v :: .ref (a 0) :: rest)) := by
  subst hv
  exact va_put (D := D) (ci := 1) (v := .int (nI w')) (ty := .int) (C := RX1) (T := TX1) (N := 16) hC.1 hC.2.1 hC.2.2.2.2 lays_X1 tyX1 tyX1_ok nmX1 hC.2.2.2.1 hK hP hD hS 0 rfl rfl 2 (by decide) (hC.2.2.2.2 _ mF_X1_49) (fun _ h9 => h9) rfl (by decide +kernel) rfl rfl (Nat.le_of_ble_eq_true rfl) hdg kk
theorem mg_gn (hC : CallFix p m c cc nL s args lw_all RX1) (hK : kK D z s) (hP : va_P D vwCl (mW z a th n w gn lk pu fa he nv of mp mi k nt fu re) H) (hdg : decode cc pc = .ok (.getfield 9, 3)) (kk : W p l e R s m args below meth c H locs cells slots Q (F0 m (pc + 3) ls (.ref (a 1) :: rest))) : W p l e R s m args below meth c H locs cells slots Q (F0 m pc ls (.ref (a 0) :: rest)) := va_get (D := D) (ci := 1) (v := .ref (a 1)) (C := RX1) (T := TX1) (N := 16) hC.1 hC.2.1 hC.2.2.2.2 lays_X1 hC.2.2.2.1 hK hP 0 rfl rfl 3 (by decide) (hC.2.2.2.2 _ mF_X1_9) (fun _ h9 => h9) rfl hdg kk
theorem mg_lk (hC : CallFix p m c cc nL s args lw_all RX1) (hK : kK D z s) (hP : va_P D vwCl (mW z a th n w gn lk pu fa he nv of mp mi k nt fu re) H) (hdg : decode cc pc = .ok (.getfield 13, 3)) (kk : W p l e R s m args below meth c H locs cells slots Q (F0 m (pc + 3) ls (.ref (a 2) :: rest))) : W p l e R s m args below meth c H locs cells slots Q (F0 m pc ls (.ref (a 0) :: rest)) := va_get (D := D) (ci := 1) (v := .ref (a 2)) (C := RX1) (T := TX1) (N := 16) hC.1 hC.2.1 hC.2.2.2.2 lays_X1 hC.2.2.2.1 hK hP 0 rfl rfl 4 (by decide) (hC.2.2.2.2 _ mF_X1_13) (fun _ h9 => h9) rfl hdg kk
theorem mg_pu (hC : CallFix p m c cc nL s args lw_all RX1) (hK : kK D z s) (hP : va_P D vwCl (mW z a th n w gn lk pu fa he nv of mp mi k nt fu re) H) (hdg : decode cc pc = .ok (.getfield 17, 3)) (kk : W p l e R s m args below meth c H locs cells slots Q (F0 m (pc + 3) ls (.ref (a 3) :: rest))) : W p l e R s m args below meth c H locs cells slots Q (F0 m pc ls (.ref (a 0) :: rest)) := va_get (D := D) (ci := 1) (v := .ref (a 3)) (C := RX1) (T := TX1) (N := 16) hC.1 hC.2.1 hC.2.2.2.2 lays_X1 hC.2.2.2.1 hK hP 0 rfl rfl 5 (by decide) (hC.2.2.2.2 _ mF_X1_17) (fun _ h9 => h9) rfl hdg kk
theorem mg_fa (hC : CallFix p m c cc nL s args lw_all RX1) (hK : kK D z s) (hP : va_P D vwCl (mW z a th n w gn lk pu fa he nv of mp mi k nt fu re) H) (hdg : decode cc pc = .ok (.getfield 20, 3)) (kk : W p l e R s m args below meth c H locs cells slots Q (F0 m (pc + 3) ls (.ref (a 4) :: rest))) : W p l e R s m args below meth c H locs cells slots Q (F0 m pc ls (.ref (a 0) :: rest)) := va_get (D := D) (ci := 1) (v := .ref (a 4)) (C := RX1) (T := TX1) (N := 16) hC.1 hC.2.1 hC.2.2.2.2 lays_X1 hC.2.2.2.1 hK hP 0 rfl rfl 6 (by decide) (hC.2.2.2.2 _ mF_X1_20) (fun _ h9 => h9) rfl hdg kk
theorem mg_he (hC : CallFix p m c cc nL s args lw_all RX1) (hK : kK D z s) (hP : va_P D vwCl (mW z a th n w gn lk pu fa he nv of mp mi k nt fu re) H) (hdg : decode cc pc = .ok (.getfield 23, 3)) (kk : W p l e R s m args below meth c H locs cells slots Q (F0 m (pc + 3) ls (.ref (a 5) :: rest))) : W p l e R s m args below meth c H locs cells slots Q (F0 m pc ls (.ref (a 0) :: rest)) := va_get (D := D) (ci := 1) (v := .ref (a 5)) (C := RX1) (T := TX1) (N := 16) hC.1 hC.2.1 hC.2.2.2.2 lays_X1 hC.2.2.2.1 hK hP 0 rfl rfl 7 (by decide) (hC.2.2.2.2 _ mF_X1_23) (fun _ h9 => h9) rfl hdg kk
theorem mg_nv (hC : CallFix p m c cc nL s args lw_all RX1) (hK : kK D z s) (hP : va_P D vwCl (mW z a th n w gn lk pu fa he nv of mp mi k nt fu re) H) (hdg : decode cc pc = .ok (.getfield 26, 3)) (kk : W p l e R s m args below meth c H locs cells slots Q (F0 m (pc + 3) ls (.ref (a 6) :: rest))) : W p l e R s m args below meth c H locs cells slots Q (F0 m pc ls (.ref (a 0) :: rest)) := va_get (D := D) (ci := 1) (v := .ref (a 6)) (C := RX1) (T := TX1) (N := 16) hC.1 hC.2.1 hC.2.2.2.2 lays_X1 hC.2.2.2.1 hK hP 0 rfl rfl 8 (by decide) (hC.2.2.2.2 _ mF_X1_26) (fun _ h9 => h9) rfl hdg kk
theorem mg_of (hC : CallFix p m c cc nL s args lw_all RX1) (hK : kK D z s) (hP : va_P D vwCl (mW z a th n w gn lk pu fa he nv of mp mi k nt fu re) H) (hdg : decode cc pc = .ok (.getfield 29, 3)) (kk : W p l e R s m args below meth c H locs cells slots Q (F0 m (pc + 3) ls (.ref (a 7) :: rest))) : W p l e R s m args below meth c H locs cells slots Q (F0 m pc ls (.ref (a 0) :: rest)) := va_get (D := D) (ci := 1) (v := .ref (a 7)) (C := RX1) (T := TX1) (N := 16) hC.1 hC.2.1 hC.2.2.2.2 lays_X1 hC.2.2.2.1 hK hP 0 rfl rfl 9 (by decide) (hC.2.2.2.2 _ mF_X1_29) (fun _ h9 => h9) rfl hdg kk
theorem mg_mp (hC : CallFix p m c cc nL s args lw_all RX1) (hK : kK D z s) (hP : va_P D vwCl (mW z a th n w gn lk pu fa he nv of mp mi k nt fu re) H) (hdg : decode cc pc = .ok (.getfield 32, 3)) (kk : W p l e R s m args below meth c H locs cells slots Q (F0 m (pc + 3) ls (.ref (a 8) :: rest))) : W p l e R s m args below meth c H locs cells slots Q (F0 m pc ls (.ref (a 0) :: rest)) := va_get (D := D) (ci := 1) (v := .ref (a 8)) (C := RX1) (T := TX1) (N := 16) hC.1 hC.2.1 hC.2.2.2.2 lays_X1 hC.2.2.2.1 hK hP 0 rfl rfl 10 (by decide) (hC.2.2.2.2 _ mF_X1_32) (fun _ h9 => h9) rfl hdg kk
theorem mg_mi (hC : CallFix p m c cc nL s args lw_all RX1) (hK : kK D z s) (hP : va_P D vwCl (mW z a th n w gn lk pu fa he nv of mp mi k nt fu re) H) (hdg : decode cc pc = .ok (.getfield 35, 3)) (kk : W p l e R s m args below meth c H locs cells slots Q (F0 m (pc + 3) ls (.ref (a 9) :: rest))) : W p l e R s m args below meth c H locs cells slots Q (F0 m pc ls (.ref (a 0) :: rest)) := va_get (D := D) (ci := 1) (v := .ref (a 9)) (C := RX1) (T := TX1) (N := 16) hC.1 hC.2.1 hC.2.2.2.2 lays_X1 hC.2.2.2.1 hK hP 0 rfl rfl 11 (by decide) (hC.2.2.2.2 _ mF_X1_35) (fun _ h9 => h9) rfl hdg kk
theorem mg_k (hC : CallFix p m c cc nL s args lw_all RX1) (hK : kK D z s) (hP : va_P D vwCl (mW z a th n w gn lk pu fa he nv of mp mi k nt fu re) H) (hdg : decode cc pc = .ok (.getfield 52, 3)) (kk : W p l e R s m args below meth c H locs cells slots Q (F0 m (pc + 3) ls (.int (nI k) :: rest))) : W p l e R s m args below meth c H locs cells slots Q (F0 m pc ls (.ref (a 0) :: rest)) := va_get (D := D) (ci := 1) (v := .int (nI k)) (C := RX1) (T := TX1) (N := 16) hC.1 hC.2.1 hC.2.2.2.2 lays_X1 hC.2.2.2.1 hK hP 0 rfl rfl 12 (by decide) (hC.2.2.2.2 _ mF_X1_52) (fun _ h9 => h9) rfl hdg kk
theorem mp_k {A : Nat → Prop} {H0 : Heap} (hC : CallFix p m c cc nL s args lw_all RX1) (hK : kK D z s) (hP : va_P D vwCl (mW z a th n w gn lk pu fa he nv of mp mi k nt fu re) H) (hD : va_D A (mW z a th n w gn lk pu fa he nv of mp mi k nt fu re)) (hS : va_S A H0 H locs) {k' : Nat} {v : Int32} (hv : v = nI k') (hdg : decode cc pc = .ok (.putfield 52, 3)) (kk : ∀ (H1 : Heap) (locs1 : List Loc), va_P D vwCl (mW z a th n w gn lk pu fa he nv of mp mi k' nt fu re) H1 → va_D A (mW z a th n w gn lk pu fa he nv of mp mi k' nt fu re) → va_S A H0 H1 locs1 → W p l e R s m args below meth c H1 locs1 cells slots Q (F0 m (pc + 3) ls rest)) : W p l e R s m args below meth c H locs cells slots Q (F0 m pc ls (.int v :: .ref (a 0) :: rest)) := by
  subst hv
  exact va_put (D := D) (ci := 1) (v := .int (nI k')) (ty := .int) (C := RX1) (T := TX1) (N := 16) hC.1 hC.2.1 hC.2.2.2.2 lays_X1 tyX1 tyX1_ok nmX1 hC.2.2.2.1 hK hP hD hS 0 rfl rfl 12 (by decide) (hC.2.2.2.2 _ mF_X1_52) (fun _ h9 => h9) rfl (by decide +kernel) rfl rfl (Nat.le_of_ble_eq_true rfl) hdg kk
theorem mg_nt (hC : CallFix p m c cc nL s args lw_all RX1) (hK : kK D z s) (hP : va_P D vwCl (mW z a th n w gn lk pu fa he nv of mp mi k nt fu re) H) (hdg : decode cc pc = .ok (.getfield 122, 3)) (kk : W p l e R s m args below meth c H locs cells slots Q (F0 m (pc + 3) ls (.int nt :: rest))) : W p l e R s m args below meth c H locs cells slots Q (F0 m pc ls (.ref (a 0) :: rest)) := va_get (D := D) (ci := 1) (v := .int nt) (C := RX1) (T := TX1) (N := 16) hC.1 hC.2.1 hC.2.2.2.2 lays_X1 hC.2.2.2.1 hK hP 0 rfl rfl 13 (by decide) (hC.2.2.2.2 _ mF_X1_122) (fun _ h9 => h9) rfl hdg kk
theorem mp_nt {A : Nat → Prop} {H0 : Heap} (hC : CallFix p m c cc nL s args lw_all RX1) (hK : kK D z s) (hP : va_P D vwCl (mW z a th n w gn lk pu fa he nv of mp mi k nt fu re) H) (hD : va_D A (mW z a th n w gn lk pu fa he nv of mp mi k nt fu re)) (hS : va_S A H0 H locs) {nt' : Int32} (hdg : decode cc pc = .ok (.putfield 122, 3)) (kk : ∀ (H1 : Heap) (locs1 : List Loc), va_P D vwCl (mW z a th n w gn lk pu fa he nv of mp mi k nt' fu re) H1 → va_D A (mW z a th n w gn lk pu fa he nv of mp mi k nt' fu re) → va_S A H0 H1 locs1 → W p l e R s m args below meth c H1 locs1 cells slots Q (F0 m (pc + 3) ls rest)) : W p l e R s m args below meth c H locs cells slots Q (F0 m pc ls (.int nt' :: .ref (a 0) :: rest)) := by
  exact va_put (D := D) (ci := 1) (v := .int nt') (ty := .int) (C := RX1) (T := TX1) (N := 16) hC.1 hC.2.1 hC.2.2.2.2 lays_X1 tyX1 tyX1_ok nmX1 hC.2.2.2.1 hK hP hD hS 0 rfl rfl 13 (by decide) (hC.2.2.2.2 _ mF_X1_122) (fun _ h9 => h9) rfl (by decide +kernel) rfl rfl (Nat.le_of_ble_eq_true rfl) hdg kk
theorem mg_fu (hC : CallFix p m c cc nL s args lw_all RX1) (hK : kK D z s) (hP : va_P D vwCl (mW z a th n w gn lk pu fa he nv of mp mi k nt fu re) H) (hdg : decode cc pc = .ok (.getfield 64, 3)) (kk : W p l e R s m args below meth c H locs cells slots Q (F0 m (pc + 3) ls (.int fu :: rest))) : W p l e R s m args below meth c H locs cells slots Q (F0 m pc ls (.ref (a 0) :: rest)) := va_get (D := D) (ci := 1) (v := .int fu) (C := RX1) (T := TX1) (N := 16) hC.1 hC.2.1 hC.2.2.2.2 lays_X1 hC.2.2.2.1 hK hP 0 rfl rfl 14 (by decide) (hC.2.2.2.2 _ mF_X1_64) (fun _ h9 => h9) rfl hdg kk
theorem mp_fu {A : Nat → Prop} {H0 : Heap} (hC : CallFix p m c cc nL s args lw_all RX1) (hK : kK D z s) (hP : va_P D vwCl (mW z a th n w gn lk pu fa he nv of mp mi k nt fu re) H) (hD : va_D A (mW z a th n w gn lk pu fa he nv of mp mi k nt fu re)) (hS : va_S A H0 H locs) {fu' : Int32} (hdg : decode cc pc = .ok (.putfield 64, 3)) (kk : ∀ (H1 : Heap) (locs1 : List Loc), va_P D vwCl (mW z a th n w gn lk pu fa he nv of mp mi k nt fu' re) H1 → va_D A (mW z a th n w gn lk pu fa he nv of mp mi k nt fu' re) → va_S A H0 H1 locs1 → W p l e R s m args below meth c H1 locs1 cells slots Q (F0 m (pc + 3) ls rest)) : W p l e R s m args below meth c H locs cells slots Q (F0 m pc ls (.int fu' :: .ref (a 0) :: rest)) := by
  exact va_put (D := D) (ci := 1) (v := .int fu') (ty := .int) (C := RX1) (T := TX1) (N := 16) hC.1 hC.2.1 hC.2.2.2.2 lays_X1 tyX1 tyX1_ok nmX1 hC.2.2.2.1 hK hP hD hS 0 rfl rfl 14 (by decide) (hC.2.2.2.2 _ mF_X1_64) (fun _ h9 => h9) rfl (by decide +kernel) rfl rfl (Nat.le_of_ble_eq_true rfl) hdg kk
theorem mg_re (hC : CallFix p m c cc nL s args lw_all RX1) (hK : kK D z s) (hP : va_P D vwCl (mW z a th n w gn lk pu fa he nv of mp mi k nt fu re) H) (hdg : decode cc pc = .ok (.getfield 113, 3)) (kk : W p l e R s m args below meth c H locs cells slots Q (F0 m (pc + 3) ls (.int re :: rest))) : W p l e R s m args below meth c H locs cells slots Q (F0 m pc ls (.ref (a 0) :: rest)) := va_get (D := D) (ci := 1) (v := .int re) (C := RX1) (T := TX1) (N := 16) hC.1 hC.2.1 hC.2.2.2.2 lays_X1 hC.2.2.2.1 hK hP 0 rfl rfl 15 (by decide) (hC.2.2.2.2 _ mF_X1_113) (fun _ h9 => h9) rfl hdg kk
theorem mp_re {A : Nat → Prop} {H0 : Heap} (hC : CallFix p m c cc nL s args lw_all RX1) (hK : kK D z s) (hP : va_P D vwCl (mW z a th n w gn lk pu fa he nv of mp mi k nt fu re) H) (hD : va_D A (mW z a th n w gn lk pu fa he nv of mp mi k nt fu re)) (hS : va_S A H0 H locs) {re' : Int32} (hdg : decode cc pc = .ok (.putfield 113, 3)) (kk : ∀ (H1 : Heap) (locs1 : List Loc), va_P D vwCl (mW z a th n w gn lk pu fa he nv of mp mi k nt fu re') H1 → va_D A (mW z a th n w gn lk pu fa he nv of mp mi k nt fu re') → va_S A H0 H1 locs1 → W p l e R s m args below meth c H1 locs1 cells slots Q (F0 m (pc + 3) ls rest)) : W p l e R s m args below meth c H locs cells slots Q (F0 m pc ls (.int re' :: .ref (a 0) :: rest)) := by
  exact va_put (D := D) (ci := 1) (v := .int re') (ty := .int) (C := RX1) (T := TX1) (N := 16) hC.1 hC.2.1 hC.2.2.2.2 lays_X1 tyX1 tyX1_ok nmX1 hC.2.2.2.1 hK hP hD hS 0 rfl rfl 15 (by decide) (hC.2.2.2.2 _ mF_X1_113) (fun _ h9 => h9) rfl (by decide +kernel) rfl rfl (Nat.le_of_ble_eq_true rfl) hdg kk
theorem ml_gn (hC : CallFix p m c cc nL s args lw_all RX1) (hK : kK D z s) (hP : va_P D vwCl (mW z a th n w gn lk pu fa he nv of mp mi k nt fu re) H) {x : Int32} (j : Nat) (hx : x = nI j) (hj : j < 10) (hdg : decode cc pc = .ok (.baload, 1)) (kk : W p l e R s m args below meth c H locs cells slots Q (F0 m (pc + 1) ls (.int (gn j) :: rest))) : W p l e R s m args below meth c H locs cells slots Q (F0 m pc ls (.int x :: .ref (a 1) :: rest)) := by
  subst hx
  refine va_zald (D := D) hC.1 hC.2.1 hK hP 1 1 (n := 10) (f := gn) rfl rfl (vp_in_nI hj (by decide)) hdg ?_
  rw [nI_clamp (by omega)]
  exact kk
theorem ms_gn {A : Nat → Prop} {H0 : Heap} (hC : CallFix p m c cc nL s args lw_all RX1) (hK : kK D z s) (hP : va_P D vwCl (mW z a th n w gn lk pu fa he nv of mp mi k nt fu re) H) (hD : va_D A (mW z a th n w gn lk pu fa he nv of mp mi k nt fu re)) (hS : va_S A H0 H locs) {x v : Int32} (j : Nat) (hx : x = nI j) (hj : j < 10) (hn : vp_nar .boolean v = v) (hdg : decode cc pc = .ok (.bastore, 1)) (kk : ∀ (H1 : Heap) (locs1 : List Loc), va_P D vwCl (mW z a th n w (upd gn j v) lk pu fa he nv of mp mi k nt fu re) H1 → va_D A (mW z a th n w (upd gn j v) lk pu fa he nv of mp mi k nt fu re) → va_S A H0 H1 locs1 → W p l e R s m args below meth c H1 locs1 cells slots Q (F0 m (pc + 1) ls rest)) : W p l e R s m args below meth c H locs cells slots Q (F0 m pc ls (.int v :: .int x :: .ref (a 1) :: rest)) := by
  subst hx
  refine va_zast (D := D) hC.1 hC.2.1 hK hP hD hS 1 1 (n := 10) (f := gn) rfl rfl (vp_in_nI hj (by decide)) hdg ?_
  rw [nI_clamp (by omega), hn]
  exact kk
theorem ml_lk (hC : CallFix p m c cc nL s args lw_all RX1) (hK : kK D z s) (hP : va_P D vwCl (mW z a th n w gn lk pu fa he nv of mp mi k nt fu re) H) {x : Int32} (j : Nat) (hx : x = nI j) (hj : j < 10) (hdg : decode cc pc = .ok (.iaload, 1)) (kk : W p l e R s m args below meth c H locs cells slots Q (F0 m (pc + 1) ls (.int (lk j) :: rest))) : W p l e R s m args below meth c H locs cells slots Q (F0 m pc ls (.int x :: .ref (a 2) :: rest)) := by
  subst hx
  refine va_iald (D := D) hC.1 hC.2.1 hK hP 2 0 (n := 10) (f := lk) rfl rfl (vp_in_nI hj (by decide)) hdg ?_
  rw [nI_clamp (by omega)]
  exact kk
theorem ms_lk {A : Nat → Prop} {H0 : Heap} (hC : CallFix p m c cc nL s args lw_all RX1) (hK : kK D z s) (hP : va_P D vwCl (mW z a th n w gn lk pu fa he nv of mp mi k nt fu re) H) (hD : va_D A (mW z a th n w gn lk pu fa he nv of mp mi k nt fu re)) (hS : va_S A H0 H locs) {x v : Int32} (j : Nat) (hx : x = nI j) (hj : j < 10) (hdg : decode cc pc = .ok (.iastore, 1)) (kk : ∀ (H1 : Heap) (locs1 : List Loc), va_P D vwCl (mW z a th n w gn (upd lk j v) pu fa he nv of mp mi k nt fu re) H1 → va_D A (mW z a th n w gn (upd lk j v) pu fa he nv of mp mi k nt fu re) → va_S A H0 H1 locs1 → W p l e R s m args below meth c H1 locs1 cells slots Q (F0 m (pc + 1) ls rest)) : W p l e R s m args below meth c H locs cells slots Q (F0 m pc ls (.int v :: .int x :: .ref (a 2) :: rest)) := by
  subst hx
  refine va_iast (D := D) hC.1 hC.2.1 hK hP hD hS 2 0 (n := 10) (f := lk) rfl rfl (vp_in_nI hj (by decide)) hdg ?_
  rw [nI_clamp (by omega)]
  exact kk
theorem ml_pu (hC : CallFix p m c cc nL s args lw_all RX1) (hK : kK D z s) (hP : va_P D vwCl (mW z a th n w gn lk pu fa he nv of mp mi k nt fu re) H) {x : Int32} (j : Nat) (hx : x = nI j) (hj : j < 10) (hdg : decode cc pc = .ok (.iaload, 1)) (kk : W p l e R s m args below meth c H locs cells slots Q (F0 m (pc + 1) ls (.int (pu j) :: rest))) : W p l e R s m args below meth c H locs cells slots Q (F0 m pc ls (.int x :: .ref (a 3) :: rest)) := by
  subst hx
  refine va_iald (D := D) hC.1 hC.2.1 hK hP 3 0 (n := 10) (f := pu) rfl rfl (vp_in_nI hj (by decide)) hdg ?_
  rw [nI_clamp (by omega)]
  exact kk
theorem ms_pu {A : Nat → Prop} {H0 : Heap} (hC : CallFix p m c cc nL s args lw_all RX1) (hK : kK D z s) (hP : va_P D vwCl (mW z a th n w gn lk pu fa he nv of mp mi k nt fu re) H) (hD : va_D A (mW z a th n w gn lk pu fa he nv of mp mi k nt fu re)) (hS : va_S A H0 H locs) {x v : Int32} (j : Nat) (hx : x = nI j) (hj : j < 10) (hdg : decode cc pc = .ok (.iastore, 1)) (kk : ∀ (H1 : Heap) (locs1 : List Loc), va_P D vwCl (mW z a th n w gn lk (upd pu j v) fa he nv of mp mi k nt fu re) H1 → va_D A (mW z a th n w gn lk (upd pu j v) fa he nv of mp mi k nt fu re) → va_S A H0 H1 locs1 → W p l e R s m args below meth c H1 locs1 cells slots Q (F0 m (pc + 1) ls rest)) : W p l e R s m args below meth c H locs cells slots Q (F0 m pc ls (.int v :: .int x :: .ref (a 3) :: rest)) := by
  subst hx
  refine va_iast (D := D) hC.1 hC.2.1 hK hP hD hS 3 0 (n := 10) (f := pu) rfl rfl (vp_in_nI hj (by decide)) hdg ?_
  rw [nI_clamp (by omega)]
  exact kk
theorem ml_fa (hC : CallFix p m c cc nL s args lw_all RX1) (hK : kK D z s) (hP : va_P D vwCl (mW z a th n w gn lk pu fa he nv of mp mi k nt fu re) H) {x : Int32} (j : Nat) (hx : x = nI j) (hj : j < 10) (hdg : decode cc pc = .ok (.iaload, 1)) (kk : W p l e R s m args below meth c H locs cells slots Q (F0 m (pc + 1) ls (.int (fa j) :: rest))) : W p l e R s m args below meth c H locs cells slots Q (F0 m pc ls (.int x :: .ref (a 4) :: rest)) := by
  subst hx
  refine va_iald (D := D) hC.1 hC.2.1 hK hP 4 0 (n := 10) (f := fa) rfl rfl (vp_in_nI hj (by decide)) hdg ?_
  rw [nI_clamp (by omega)]
  exact kk
theorem ms_fa {A : Nat → Prop} {H0 : Heap} (hC : CallFix p m c cc nL s args lw_all RX1) (hK : kK D z s) (hP : va_P D vwCl (mW z a th n w gn lk pu fa he nv of mp mi k nt fu re) H) (hD : va_D A (mW z a th n w gn lk pu fa he nv of mp mi k nt fu re)) (hS : va_S A H0 H locs) {x v : Int32} (j : Nat) (hx : x = nI j) (hj : j < 10) (hdg : decode cc pc = .ok (.iastore, 1)) (kk : ∀ (H1 : Heap) (locs1 : List Loc), va_P D vwCl (mW z a th n w gn lk pu (upd fa j v) he nv of mp mi k nt fu re) H1 → va_D A (mW z a th n w gn lk pu (upd fa j v) he nv of mp mi k nt fu re) → va_S A H0 H1 locs1 → W p l e R s m args below meth c H1 locs1 cells slots Q (F0 m (pc + 1) ls rest)) : W p l e R s m args below meth c H locs cells slots Q (F0 m pc ls (.int v :: .int x :: .ref (a 4) :: rest)) := by
  subst hx
  refine va_iast (D := D) hC.1 hC.2.1 hK hP hD hS 4 0 (n := 10) (f := fa) rfl rfl (vp_in_nI hj (by decide)) hdg ?_
  rw [nI_clamp (by omega)]
  exact kk
theorem ml_he (hC : CallFix p m c cc nL s args lw_all RX1) (hK : kK D z s) (hP : va_P D vwCl (mW z a th n w gn lk pu fa he nv of mp mi k nt fu re) H) {x : Int32} (j : Nat) (hx : x = nI j) (hj : j < 10) (hdg : decode cc pc = .ok (.iaload, 1)) (kk : W p l e R s m args below meth c H locs cells slots Q (F0 m (pc + 1) ls (.int (he j) :: rest))) : W p l e R s m args below meth c H locs cells slots Q (F0 m pc ls (.int x :: .ref (a 5) :: rest)) := by
  subst hx
  refine va_iald (D := D) hC.1 hC.2.1 hK hP 5 0 (n := 10) (f := he) rfl rfl (vp_in_nI hj (by decide)) hdg ?_
  rw [nI_clamp (by omega)]
  exact kk
theorem ms_he {A : Nat → Prop} {H0 : Heap} (hC : CallFix p m c cc nL s args lw_all RX1) (hK : kK D z s) (hP : va_P D vwCl (mW z a th n w gn lk pu fa he nv of mp mi k nt fu re) H) (hD : va_D A (mW z a th n w gn lk pu fa he nv of mp mi k nt fu re)) (hS : va_S A H0 H locs) {x v : Int32} (j : Nat) (hx : x = nI j) (hj : j < 10) (hdg : decode cc pc = .ok (.iastore, 1)) (kk : ∀ (H1 : Heap) (locs1 : List Loc), va_P D vwCl (mW z a th n w gn lk pu fa (upd he j v) nv of mp mi k nt fu re) H1 → va_D A (mW z a th n w gn lk pu fa (upd he j v) nv of mp mi k nt fu re) → va_S A H0 H1 locs1 → W p l e R s m args below meth c H1 locs1 cells slots Q (F0 m (pc + 1) ls rest)) : W p l e R s m args below meth c H locs cells slots Q (F0 m pc ls (.int v :: .int x :: .ref (a 5) :: rest)) := by
  subst hx
  refine va_iast (D := D) hC.1 hC.2.1 hK hP hD hS 5 0 (n := 10) (f := he) rfl rfl (vp_in_nI hj (by decide)) hdg ?_
  rw [nI_clamp (by omega)]
  exact kk
theorem ml_nv (hC : CallFix p m c cc nL s args lw_all RX1) (hK : kK D z s) (hP : va_P D vwCl (mW z a th n w gn lk pu fa he nv of mp mi k nt fu re) H) {x : Int32} (j : Nat) (hx : x = nI j) (hj : j < 6) (hdg : decode cc pc = .ok (.iaload, 1)) (kk : W p l e R s m args below meth c H locs cells slots Q (F0 m (pc + 1) ls (.int (nv j) :: rest))) : W p l e R s m args below meth c H locs cells slots Q (F0 m pc ls (.int x :: .ref (a 6) :: rest)) := by
  subst hx
  refine va_iald (D := D) hC.1 hC.2.1 hK hP 6 0 (n := 6) (f := nv) rfl rfl (vp_in_nI hj (by decide)) hdg ?_
  rw [nI_clamp (by omega)]
  exact kk
theorem ms_nv {A : Nat → Prop} {H0 : Heap} (hC : CallFix p m c cc nL s args lw_all RX1) (hK : kK D z s) (hP : va_P D vwCl (mW z a th n w gn lk pu fa he nv of mp mi k nt fu re) H) (hD : va_D A (mW z a th n w gn lk pu fa he nv of mp mi k nt fu re)) (hS : va_S A H0 H locs) {x v : Int32} (j : Nat) (hx : x = nI j) (hj : j < 6) (hdg : decode cc pc = .ok (.iastore, 1)) (kk : ∀ (H1 : Heap) (locs1 : List Loc), va_P D vwCl (mW z a th n w gn lk pu fa he (upd nv j v) of mp mi k nt fu re) H1 → va_D A (mW z a th n w gn lk pu fa he (upd nv j v) of mp mi k nt fu re) → va_S A H0 H1 locs1 → W p l e R s m args below meth c H1 locs1 cells slots Q (F0 m (pc + 1) ls rest)) : W p l e R s m args below meth c H locs cells slots Q (F0 m pc ls (.int v :: .int x :: .ref (a 6) :: rest)) := by
  subst hx
  refine va_iast (D := D) hC.1 hC.2.1 hK hP hD hS 6 0 (n := 6) (f := nv) rfl rfl (vp_in_nI hj (by decide)) hdg ?_
  rw [nI_clamp (by omega)]
  exact kk
theorem ml_of (hC : CallFix p m c cc nL s args lw_all RX1) (hK : kK D z s) (hP : va_P D vwCl (mW z a th n w gn lk pu fa he nv of mp mi k nt fu re) H) {x : Int32} (j : Nat) (hx : x = nI j) (hj : j < 6) (hdg : decode cc pc = .ok (.baload, 1)) (kk : W p l e R s m args below meth c H locs cells slots Q (F0 m (pc + 1) ls (.int (of j) :: rest))) : W p l e R s m args below meth c H locs cells slots Q (F0 m pc ls (.int x :: .ref (a 7) :: rest)) := by
  subst hx
  refine va_zald (D := D) hC.1 hC.2.1 hK hP 7 1 (n := 6) (f := of) rfl rfl (vp_in_nI hj (by decide)) hdg ?_
  rw [nI_clamp (by omega)]
  exact kk
theorem ms_of {A : Nat → Prop} {H0 : Heap} (hC : CallFix p m c cc nL s args lw_all RX1) (hK : kK D z s) (hP : va_P D vwCl (mW z a th n w gn lk pu fa he nv of mp mi k nt fu re) H) (hD : va_D A (mW z a th n w gn lk pu fa he nv of mp mi k nt fu re)) (hS : va_S A H0 H locs) {x v : Int32} (j : Nat) (hx : x = nI j) (hj : j < 6) (hn : vp_nar .boolean v = v) (hdg : decode cc pc = .ok (.bastore, 1)) (kk : ∀ (H1 : Heap) (locs1 : List Loc), va_P D vwCl (mW z a th n w gn lk pu fa he nv (upd of j v) mp mi k nt fu re) H1 → va_D A (mW z a th n w gn lk pu fa he nv (upd of j v) mp mi k nt fu re) → va_S A H0 H1 locs1 → W p l e R s m args below meth c H1 locs1 cells slots Q (F0 m (pc + 1) ls rest)) : W p l e R s m args below meth c H locs cells slots Q (F0 m pc ls (.int v :: .int x :: .ref (a 7) :: rest)) := by
  subst hx
  refine va_zast (D := D) hC.1 hC.2.1 hK hP hD hS 7 1 (n := 6) (f := of) rfl rfl (vp_in_nI hj (by decide)) hdg ?_
  rw [nI_clamp (by omega), hn]
  exact kk
theorem ml_mp (hC : CallFix p m c cc nL s args lw_all RX1) (hK : kK D z s) (hP : va_P D vwCl (mW z a th n w gn lk pu fa he nv of mp mi k nt fu re) H) {x : Int32} (j : Nat) (hx : x = nI j) (hj : j < 60) (hdg : decode cc pc = .ok (.iaload, 1)) (kk : W p l e R s m args below meth c H locs cells slots Q (F0 m (pc + 1) ls (.int (mp j) :: rest))) : W p l e R s m args below meth c H locs cells slots Q (F0 m pc ls (.int x :: .ref (a 8) :: rest)) := by
  subst hx
  refine va_iald (D := D) hC.1 hC.2.1 hK hP 8 0 (n := 60) (f := mp) rfl rfl (vp_in_nI hj (by decide)) hdg ?_
  rw [nI_clamp (by omega)]
  exact kk
theorem ms_mp {A : Nat → Prop} {H0 : Heap} (hC : CallFix p m c cc nL s args lw_all RX1) (hK : kK D z s) (hP : va_P D vwCl (mW z a th n w gn lk pu fa he nv of mp mi k nt fu re) H) (hD : va_D A (mW z a th n w gn lk pu fa he nv of mp mi k nt fu re)) (hS : va_S A H0 H locs) {x v : Int32} (j : Nat) (hx : x = nI j) (hj : j < 60) (hdg : decode cc pc = .ok (.iastore, 1)) (kk : ∀ (H1 : Heap) (locs1 : List Loc), va_P D vwCl (mW z a th n w gn lk pu fa he nv of (upd mp j v) mi k nt fu re) H1 → va_D A (mW z a th n w gn lk pu fa he nv of (upd mp j v) mi k nt fu re) → va_S A H0 H1 locs1 → W p l e R s m args below meth c H1 locs1 cells slots Q (F0 m (pc + 1) ls rest)) : W p l e R s m args below meth c H locs cells slots Q (F0 m pc ls (.int v :: .int x :: .ref (a 8) :: rest)) := by
  subst hx
  refine va_iast (D := D) hC.1 hC.2.1 hK hP hD hS 8 0 (n := 60) (f := mp) rfl rfl (vp_in_nI hj (by decide)) hdg ?_
  rw [nI_clamp (by omega)]
  exact kk
theorem ml_mi (hC : CallFix p m c cc nL s args lw_all RX1) (hK : kK D z s) (hP : va_P D vwCl (mW z a th n w gn lk pu fa he nv of mp mi k nt fu re) H) {x : Int32} (j : Nat) (hx : x = nI j) (hj : j < 60) (hdg : decode cc pc = .ok (.iaload, 1)) (kk : W p l e R s m args below meth c H locs cells slots Q (F0 m (pc + 1) ls (.int (mi j) :: rest))) : W p l e R s m args below meth c H locs cells slots Q (F0 m pc ls (.int x :: .ref (a 9) :: rest)) := by
  subst hx
  refine va_iald (D := D) hC.1 hC.2.1 hK hP 9 0 (n := 60) (f := mi) rfl rfl (vp_in_nI hj (by decide)) hdg ?_
  rw [nI_clamp (by omega)]
  exact kk
theorem ms_mi {A : Nat → Prop} {H0 : Heap} (hC : CallFix p m c cc nL s args lw_all RX1) (hK : kK D z s) (hP : va_P D vwCl (mW z a th n w gn lk pu fa he nv of mp mi k nt fu re) H) (hD : va_D A (mW z a th n w gn lk pu fa he nv of mp mi k nt fu re)) (hS : va_S A H0 H locs) {x v : Int32} (j : Nat) (hx : x = nI j) (hj : j < 60) (hdg : decode cc pc = .ok (.iastore, 1)) (kk : ∀ (H1 : Heap) (locs1 : List Loc), va_P D vwCl (mW z a th n w gn lk pu fa he nv of mp (upd mi j v) k nt fu re) H1 → va_D A (mW z a th n w gn lk pu fa he nv of mp (upd mi j v) k nt fu re) → va_S A H0 H1 locs1 → W p l e R s m args below meth c H1 locs1 cells slots Q (F0 m (pc + 1) ls rest)) : W p l e R s m args below meth c H locs cells slots Q (F0 m pc ls (.int v :: .int x :: .ref (a 9) :: rest)) := by
  subst hx
  refine va_iast (D := D) hC.1 hC.2.1 hK hP hD hS 9 0 (n := 60) (f := mi) rfl rfl (vp_in_nI hj (by decide)) hdg ?_
  rw [nI_clamp (by omega)]
  exact kk
end ROWSM
end ROWS
end
section
/-! small facts of places and counts -/
abbrev imax (x y : Int32) : Int32 := if x < y then y else x
abbrev imin (x y : Int32) : Int32 := if y < x then y else x
theorem nn_le {a b : Nat} (h : a < 2 ^ 31 ∧ b < 2 ^ 31) (c : nI a ≤ nI b) : a ≤ b := (nI_leI h.1 h.2).mp c
theorem nn_nle {a b : Nat} (h : b < 2 ^ 31 ∧ a < 2 ^ 31) (c : ¬ nI b ≤ nI a) : a < b := Nat.lt_of_not_le (fun q => c ((nI_leI h.1 h.2).mpr q))
theorem nn_lt {a b : Nat} (h : a < 2 ^ 31 ∧ b < 2 ^ 31) (c : nI a < nI b) : a < b := (nI_ltI h.1 h.2).mp c
theorem nn_nlt {a b : Nat} (h : b < 2 ^ 31 ∧ a < 2 ^ 31) (c : ¬ nI b < nI a) : a ≤ b := Nat.le_of_not_lt (fun q => c ((nI_ltI h.1 h.2).mpr q))
theorem nn_eq {a b : Nat} (h : a < 2 ^ 31 ∧ b < 2 ^ 31) (c : nI a = nI b) : a = b := (nI_eq h.1 h.2).mp c
theorem nn_ne {a b : Nat} (h : a < 2 ^ 31 ∧ b < 2 ^ 31) (c : ¬ nI a = nI b) : ¬ a = b := fun q => c (by rw [q])
/-! what the class's methods answer, in numbers -/
def sp_isP (n : Nat) (x : Int32) : Int32 := if x < 0 then 0 else if nI n ≤ x then 0 else 1
def sp_sh (v : Int32) : Int32 := if 2 < v then 0 else 1
def sp_price (v : Int32) : Int32 := 5 + (99 - v) / 10
def sp_uses (al fv ce : Int32) : Int32 := if al = 0 then 0 else if fv ≤ 0 then 0 else if ce ≤ 0 then 0 else if 24 < ce then 0 else 1
def sp_coins (al fv lkv fu ce : Int32) : Int32 := if sp_uses al fv ce = 0 then 0 else imin fu (sp_price lkv + 24 - ce)
def sp_loss (b : Int32) : Int32 := if 5 < b then if 12 < b then 1 else 2 else 3
def sp_gain (d : Int32) : Int32 := if d = 0 then 2 else 1
def sp_calmN (v g : Int32) : Nat → Nat → Nat
  | 0, k => k
  | f + 1, k => if 9 ≤ k then k else if 2 < v + nI k * g then k else sp_calmN v g f (k + 1)
def sp_calm (v d : Int32) : Int32 := nI (sp_calmN v (sp_gain d) 10 0)
def sp_cnt (lv : Nat → Int32) : Nat → Int32
  | 0 => 0
  | j + 1 => if lv j = 0 then sp_cnt lv j else sp_cnt lv j + 1
def sp_shk (nv : Nat → Int32) : Nat → Int32
  | 0 => 0
  | j + 1 => if sp_sh (nv j) = 0 then sp_shk nv j else sp_shk nv j + 1
def sp_cert (mi : Nat → Int32) : Nat → Int32
  | 0 => 0
  | j + 1 => if mi j ≤ 0 then sp_cert mi j else sp_cert mi j + 1
def sp_best (al v : Nat → Int32) : Nat → Int32 × Int32
  | 0 => (-1, -1)
  | j + 1 => if al j = 0 then sp_best al v j else if v j ≤ (sp_best al v j).2 then sp_best al v j else (nI j, v j)
def sp_nuc (nv du : Nat → Int32) : Nat → Int32
  | 0 => 0
  | j + 1 => imax (sp_nuc nv du j) (sp_calm (nv j) (du j))
def sp_dig (s v : Int32) : Int32 := s * 31 + 48 + v
def sp_num (s x : Int32) : Int32 := if x < 10 then s * 31 + 48 + (x - x / 10 * 10) else (s * 31 + 48 + x / 10) * 31 + 48 + (x - x / 10 * 10)
def sp_mix (d x : Int64) : Int64 := d * 31 + x
def sp_bit (b : Int32) : Int32 := if b = 0 then 0 else 1
def sp_heir (he lv : Nat → Int32) (n p : Nat) : Nat → Int32 → Int32
  | 0, _ => -1
  | f + 1, h => if sp_isP n h = 0 then -1 else if h = nI p then -1 else if lv h.toNatClampNeg = 0 then sp_heir he lv n p f (he h.toNatClampNeg) else h
def sp_tale (v b : Int32) : Int32 := if sp_sh v = 0 then imax 1 (b - (9 - v) / 2) else 0
def sp_many (mp : Nat → Int32) (p : Int32) : Nat → Int32
  | 0 => 0
  | j + 1 => if mp j = p then sp_many mp p j + 1 else sp_many mp p j
def sp_close (mp mi : Nat → Int32) (p : Int32) : Nat → Int32
  | 0 => 0
  | j + 1 => if mp j = p then if mi j ≤ 0 then sp_close mp mi p j else if sp_close mp mi p j = 0 then mi j else if sp_close mp mi p j ≤ mi j then sp_close mp mi p j else mi j else sp_close mp mi p j
theorem isP_ex {n : Nat} {x : Int32} (hn : n < 2 ^ 31) (h : ¬ sp_isP n x = 0) : ∃ i : Nat, i < n ∧ x = nI i := by
  unfold sp_isP at h
  by_cases h1 : x < 0
  · simp [h1] at h
  · obtain ⟨i, hi, rfl⟩ := nI_of h1
    by_cases h2 : nI n ≤ nI i
    · simp [h2] at h
    · exact ⟨i, nn_nle ⟨hn, hi⟩ h2, rfl⟩
theorem isP_in {n i : Nat} (hn : n < 2 ^ 31) (hi : i < n) : sp_isP n (nI i) = 1 := by
  unfold sp_isP
  rw [if_neg (nI_pos (by omega)), if_neg (nI_ge hi hn)]
end
section
set_option maxHeartbeats 4000000 in
set_option maxRecDepth 100000 in
theorem c_X0_isPerson (l : Launch) {D : va_G} {z : ClassId × ClassId} {a : Nat → Nat} {lv lk pu fa he : Nat → Int32} {n : Nat} {nv du ta : Nat → Int32} {w : Nat} {mp mi : Nat → Int32} {k : Nat} {nt fu re : Int32} (x : Int32) : Met l yX0_isPerson (ws_ yX0_isPerson cX0_isPerson 2 (some .boolean)) ({ frames := 0, cells := 0, slots := 0, locals := 0 } : Room) (va_Pc [.ref (a 0), .int x] (xI D z a lv lk pu fa he n nv du ta w mp mi k nt fu re)) (vp_Si (fun r : Int32 => r = sp_isP n x)) 0 0 (fun _ => False) := by
  refine Met.ofW (cc := cX0_isPerson) (maxL := 2) (ret := (some .boolean)) (by decide) rfl ?_
  intro p e s m args below meth c s₁ B hml hv
  obtain ⟨rfl, hP, hK⟩ := hv
  have hx := B.exec
  have hb := B.bytes
  have hr := B.returns
  have hts := atoms_spec (ws := ws_ yX0_isPerson cX0_isPerson 2 (some .boolean)) B.pre
  have hts : ∀ w ∈ lw_all, w.before _ s = true := fun w h => hts w (List.mem_cons_of_mem _ h)
  have hown : s.vm.findClass RX0 = some m.cls := findClass_of_methodNamed B.named
  have hlocks := B.notSynchronized
  have hC : CallFix p m c cX0_isPerson 2 s _ lw_all RX0 := ⟨hx, hb, hml, hown, hts⟩
  have hl := lv_entry ([.ref (a 0), .int x]) (n := 2) (Nat.le_of_ble_eq_true rfl)
  rw [lg_entry_eq]
  generalize (lg_sl ([.ref (a 0), .int x]) ++ List.replicate (2 - (lg_sl ([.ref (a 0), .int x])).length) Slot.unset).toArray = ls at hl ⊢
  have hl : lv_has ls 2 [(0, .ref (a 0)), (1, .int x)] := hl
  refine lv_iload_n hx hb dX0_isPerson_0 rfl (lv_at hl 1 rfl) ?_
  refine lv_if_lt (tgt := 16) hx hb dX0_isPerson_1 (by decide) (fun c_1 => ?_) (fun c_1 => ?_)
  · refine lv_iconst (v := 0) hx hb dX0_isPerson_16 (by decide) ?_
    exact W.zret (v := 0) hx hb hr (by decide) (fun t ht hW => ⟨0, rfl, (by simp [sp_isP, c_1]), ht⟩) (fun q hq => absurd hq List.not_mem_nil) dX0_isPerson_17
  · refine lv_iload_n hx hb dX0_isPerson_4 rfl (lv_at hl 1 rfl) ?_
    refine lv_aload_n hx hb dX0_isPerson_5 rfl (lv_at hl 0 rfl) ?_
    refine xg_n hC hK hP dX0_isPerson_6 ?_
    refine lv_icmp_ge (tgt := 16) hx hb dX0_isPerson_9 (by decide) (fun c_9 => ?_) (fun c_9 => ?_)
    · refine lv_iconst (v := 0) hx hb dX0_isPerson_16 (by decide) ?_
      exact W.zret (v := 0) hx hb hr (by decide) (fun t ht hW => ⟨0, rfl, (by simp [sp_isP, c_1, c_9]), ht⟩) (fun q hq => absurd hq List.not_mem_nil) dX0_isPerson_17
    · refine lv_iconst (v := 1) hx hb dX0_isPerson_12 (by decide) ?_
      refine lv_goto (tgt := 17) hx hb dX0_isPerson_13 (by decide) ?_
      exact W.zret (v := 1) hx hb hr (by decide) (fun t ht hW => ⟨1, rfl, (by simp [sp_isP, c_1, c_9]), ht⟩) (fun q hq => absurd hq List.not_mem_nil) dX0_isPerson_17
set_option maxRecDepth 100000 in
theorem k_X0_isPerson {p : Program} {l : Launch} {e : Env} {R : Room} {s : State} {m : MethodId} {args : Array Value} {below : List Frame} {meth : Method} {c : Code} {H : Heap} {locs : List Loc} {cells slots : Nat} {Q : State → Prop} {D : va_G} {z : ClassId × ClassId} {a : Nat → Nat} {lv lk pu fa he : Nat → Int32} {n : Nat} {nv du ta : Nat → Int32} {w : Nat} {mp mi : Nat → Int32} {k : Nat} {nt fu re : Int32} {cc : ByteArray} {nL pc : Nat} {ls : Array Slot} {rest : List Value} (hC : CallFix p m c cc nL s args lw_all RX0) (hK : kK D z s) (hP : va_P D vwCl (xW z a lv lk pu fa he n nv du ta w mp mi k nt fu re) H) (hl : ls.size = nL) (hR : 1 ≤ R.frames ∧ 21 ≤ R.locals) (hz : cells ≤ R.cells ∧ slots ≤ R.slots) (hr : (rest.map fun v => v.category).sum ≤ 8) {x : Int32}   (hdg : decode cc pc = .ok (.invokevirtual 117, 3)) (kk : W p l e R s m args below meth c H locs cells slots Q (F0 m (pc + 3) ls (.int (sp_isP n x) :: rest))) : W p l e R s m args below meth c H locs cells slots Q (F0 m pc ls (.int x :: .ref (a 0) :: rest)) := by
  exact vp_callSi (W.runV (As := [.int x]) (rest := rest) hC (c_X0_isPerson l x) (cwV 1 hC.2.2.2.2 (gi_V mM_X0_117 mV_X0_isPerson mS_X0_isPerson mI_MissRegistry mC_X0_isPerson) rfl rfl rfl (by decide +kernel) hR) (xpre hK hP) rfl rfl hl rfl (lv_room hr) hdg hz) (fun r hr => by rw [hr]; exact kk)
set_option maxHeartbeats 4000000 in
set_option maxRecDepth 100000 in
theorem c_X0_isWitness (l : Launch) {D : va_G} {z : ClassId × ClassId} {a : Nat → Nat} {lv lk pu fa he : Nat → Int32} {n : Nat} {nv du ta : Nat → Int32} {w : Nat} {mp mi : Nat → Int32} {k : Nat} {nt fu re : Int32} (x : Int32) : Met l yX0_isWitness (ws_ yX0_isWitness cX0_isWitness 2 (some .boolean)) ({ frames := 0, cells := 0, slots := 0, locals := 0 } : Room) (va_Pc [.ref (a 0), .int x] (xI D z a lv lk pu fa he n nv du ta w mp mi k nt fu re)) (vp_Si (fun r : Int32 => r = sp_isP w x)) 0 0 (fun _ => False) := by
  refine Met.ofW (cc := cX0_isWitness) (maxL := 2) (ret := (some .boolean)) (by decide) rfl ?_
  intro p e s m args below meth c s₁ B hml hv
  obtain ⟨rfl, hP, hK⟩ := hv
  have hx := B.exec
  have hb := B.bytes
  have hr := B.returns
  have hts := atoms_spec (ws := ws_ yX0_isWitness cX0_isWitness 2 (some .boolean)) B.pre
  have hts : ∀ w ∈ lw_all, w.before _ s = true := fun w h => hts w (List.mem_cons_of_mem _ h)
  have hown : s.vm.findClass RX0 = some m.cls := findClass_of_methodNamed B.named
  have hlocks := B.notSynchronized
  have hC : CallFix p m c cX0_isWitness 2 s _ lw_all RX0 := ⟨hx, hb, hml, hown, hts⟩
  have hl := lv_entry ([.ref (a 0), .int x]) (n := 2) (Nat.le_of_ble_eq_true rfl)
  rw [lg_entry_eq]
  generalize (lg_sl ([.ref (a 0), .int x]) ++ List.replicate (2 - (lg_sl ([.ref (a 0), .int x])).length) Slot.unset).toArray = ls at hl ⊢
  have hl : lv_has ls 2 [(0, .ref (a 0)), (1, .int x)] := hl
  refine lv_iload_n hx hb dX0_isWitness_0 rfl (lv_at hl 1 rfl) ?_
  refine lv_if_lt (tgt := 16) hx hb dX0_isWitness_1 (by decide) (fun c_1 => ?_) (fun c_1 => ?_)
  · refine lv_iconst (v := 0) hx hb dX0_isWitness_16 (by decide) ?_
    exact W.zret (v := 0) hx hb hr (by decide) (fun t ht hW => ⟨0, rfl, (by simp [sp_isP, c_1]), ht⟩) (fun q hq => absurd hq List.not_mem_nil) dX0_isWitness_17
  · refine lv_iload_n hx hb dX0_isWitness_4 rfl (lv_at hl 1 rfl) ?_
    refine lv_aload_n hx hb dX0_isWitness_5 rfl (lv_at hl 0 rfl) ?_
    refine xg_w hC hK hP dX0_isWitness_6 ?_
    refine lv_icmp_ge (tgt := 16) hx hb dX0_isWitness_9 (by decide) (fun c_9 => ?_) (fun c_9 => ?_)
    · refine lv_iconst (v := 0) hx hb dX0_isWitness_16 (by decide) ?_
      exact W.zret (v := 0) hx hb hr (by decide) (fun t ht hW => ⟨0, rfl, (by simp [sp_isP, c_1, c_9]), ht⟩) (fun q hq => absurd hq List.not_mem_nil) dX0_isWitness_17
    · refine lv_iconst (v := 1) hx hb dX0_isWitness_12 (by decide) ?_
      refine lv_goto (tgt := 17) hx hb dX0_isWitness_13 (by decide) ?_
      exact W.zret (v := 1) hx hb hr (by decide) (fun t ht hW => ⟨1, rfl, (by simp [sp_isP, c_1, c_9]), ht⟩) (fun q hq => absurd hq List.not_mem_nil) dX0_isWitness_17
set_option maxRecDepth 100000 in
theorem k_X0_isWitness {p : Program} {l : Launch} {e : Env} {R : Room} {s : State} {m : MethodId} {args : Array Value} {below : List Frame} {meth : Method} {c : Code} {H : Heap} {locs : List Loc} {cells slots : Nat} {Q : State → Prop} {D : va_G} {z : ClassId × ClassId} {a : Nat → Nat} {lv lk pu fa he : Nat → Int32} {n : Nat} {nv du ta : Nat → Int32} {w : Nat} {mp mi : Nat → Int32} {k : Nat} {nt fu re : Int32} {cc : ByteArray} {nL pc : Nat} {ls : Array Slot} {rest : List Value} (hC : CallFix p m c cc nL s args lw_all RX0) (hK : kK D z s) (hP : va_P D vwCl (xW z a lv lk pu fa he n nv du ta w mp mi k nt fu re) H) (hl : ls.size = nL) (hR : 1 ≤ R.frames ∧ 21 ≤ R.locals) (hz : cells ≤ R.cells ∧ slots ≤ R.slots) (hr : (rest.map fun v => v.category).sum ≤ 8) {x : Int32}   (hdg : decode cc pc = .ok (.invokevirtual 157, 3)) (kk : W p l e R s m args below meth c H locs cells slots Q (F0 m (pc + 3) ls (.int (sp_isP w x) :: rest))) : W p l e R s m args below meth c H locs cells slots Q (F0 m pc ls (.int x :: .ref (a 0) :: rest)) := by
  exact vp_callSi (W.runV (As := [.int x]) (rest := rest) hC (c_X0_isWitness l x) (cwV 1 hC.2.2.2.2 (gi_V mM_X0_157 mV_X0_isWitness mS_X0_isWitness mI_MissRegistry mC_X0_isWitness) rfl rfl rfl (by decide +kernel) hR) (xpre hK hP) rfl rfl hl rfl (lv_room hr) hdg hz) (fun r hr => by rw [hr]; exact kk)
set_option maxHeartbeats 4000000 in
set_option maxRecDepth 100000 in
theorem c_X0_isShaken (l : Launch) {D : va_G} {z : ClassId × ClassId} {a : Nat → Nat} {lv lk pu fa he : Nat → Int32} {n : Nat} {nv du ta : Nat → Int32} {w : Nat} {mp mi : Nat → Int32} {k : Nat} {nt fu re : Int32} (i : Nat) (hi : i < 6) : Met l yX0_isShaken (ws_ yX0_isShaken cX0_isShaken 2 (some .boolean)) ({ frames := 0, cells := 0, slots := 0, locals := 0 } : Room) (va_Pc [.ref (a 0), .int (nI i)] (xI D z a lv lk pu fa he n nv du ta w mp mi k nt fu re)) (vp_Si (fun r : Int32 => r = sp_sh (nv i))) 0 0 (fun _ => False) := by
  refine Met.ofW (cc := cX0_isShaken) (maxL := 2) (ret := (some .boolean)) (by decide) rfl ?_
  intro p e s m args below meth c s₁ B hml hv
  obtain ⟨rfl, hP, hK⟩ := hv
  have hx := B.exec
  have hb := B.bytes
  have hr := B.returns
  have hts := atoms_spec (ws := ws_ yX0_isShaken cX0_isShaken 2 (some .boolean)) B.pre
  have hts : ∀ w ∈ lw_all, w.before _ s = true := fun w h => hts w (List.mem_cons_of_mem _ h)
  have hown : s.vm.findClass RX0 = some m.cls := findClass_of_methodNamed B.named
  have hlocks := B.notSynchronized
  have hC : CallFix p m c cX0_isShaken 2 s _ lw_all RX0 := ⟨hx, hb, hml, hown, hts⟩
  have hl := lv_entry ([.ref (a 0), .int (nI i)]) (n := 2) (Nat.le_of_ble_eq_true rfl)
  rw [lg_entry_eq]
  generalize (lg_sl ([.ref (a 0), .int (nI i)]) ++ List.replicate (2 - (lg_sl ([.ref (a 0), .int (nI i)])).length) Slot.unset).toArray = ls at hl ⊢
  have hl : lv_has ls 2 [(0, .ref (a 0)), (1, .int (nI i))] := hl
  refine lv_aload_n hx hb dX0_isShaken_0 rfl (lv_at hl 0 rfl) ?_
  refine xg_nv hC hK hP dX0_isShaken_1 ?_
  refine lv_iload_n hx hb dX0_isShaken_4 rfl (lv_at hl 1 rfl) ?_
  refine xl_nv hC hK hP i rfl (by omega) dX0_isShaken_5 ?_
  refine lv_iconst (v := 2) hx hb dX0_isShaken_6 (by decide) ?_
  refine lv_icmp_gt (tgt := 14) hx hb dX0_isShaken_7 (by decide) (fun c_7 => ?_) (fun c_7 => ?_)
  · refine lv_iconst (v := 0) hx hb dX0_isShaken_14 (by decide) ?_
    exact W.zret (v := 0) hx hb hr (by decide) (fun t ht hW => ⟨0, rfl, (by simp [sp_sh, c_7]), ht⟩) (fun q hq => absurd hq List.not_mem_nil) dX0_isShaken_15
  · refine lv_iconst (v := 1) hx hb dX0_isShaken_10 (by decide) ?_
    refine lv_goto (tgt := 15) hx hb dX0_isShaken_11 (by decide) ?_
    exact W.zret (v := 1) hx hb hr (by decide) (fun t ht hW => ⟨1, rfl, (by simp [sp_sh, c_7]), ht⟩) (fun q hq => absurd hq List.not_mem_nil) dX0_isShaken_15
set_option maxRecDepth 100000 in
theorem k_X0_isShaken {p : Program} {l : Launch} {e : Env} {R : Room} {s : State} {m : MethodId} {args : Array Value} {below : List Frame} {meth : Method} {c : Code} {H : Heap} {locs : List Loc} {cells slots : Nat} {Q : State → Prop} {D : va_G} {z : ClassId × ClassId} {a : Nat → Nat} {lv lk pu fa he : Nat → Int32} {n : Nat} {nv du ta : Nat → Int32} {w : Nat} {mp mi : Nat → Int32} {k : Nat} {nt fu re : Int32} {cc : ByteArray} {nL pc : Nat} {ls : Array Slot} {rest : List Value} (hC : CallFix p m c cc nL s args lw_all RX0) (hK : kK D z s) (hP : va_P D vwCl (xW z a lv lk pu fa he n nv du ta w mp mi k nt fu re) H) (hl : ls.size = nL) (hR : 1 ≤ R.frames ∧ 21 ≤ R.locals) (hz : cells ≤ R.cells ∧ slots ≤ R.slots) (hr : (rest.map fun v => v.category).sum ≤ 8) {i : Nat} {x0 : Int32} (hx0 : x0 = nI i) (hi : i < 6) (hdg : decode cc pc = .ok (.invokevirtual 136, 3)) (kk : W p l e R s m args below meth c H locs cells slots Q (F0 m (pc + 3) ls (.int (sp_sh (nv i)) :: rest))) : W p l e R s m args below meth c H locs cells slots Q (F0 m pc ls (.int x0 :: .ref (a 0) :: rest)) := by
  subst hx0
  exact vp_callSi (W.runV (As := [.int (nI i)]) (rest := rest) hC (c_X0_isShaken l i hi) (cwV 1 hC.2.2.2.2 (gi_V mM_X0_136 mV_X0_isShaken mS_X0_isShaken mI_MissRegistry mC_X0_isShaken) rfl rfl rfl (by decide +kernel) hR) (xpre hK hP) rfl rfl hl rfl (lv_room hr) hdg hz) (fun r hr => by rw [hr]; exact kk)
set_option maxHeartbeats 4000000 in
set_option maxRecDepth 100000 in
theorem c_X0_fatePrice (l : Launch) {D : va_G} {z : ClassId × ClassId} {a : Nat → Nat} {lv lk pu fa he : Nat → Int32} {n : Nat} {nv du ta : Nat → Int32} {w : Nat} {mp mi : Nat → Int32} {k : Nat} {nt fu re : Int32} (i : Nat) (hi : i < 10) : Met l yX0_fatePrice (ws_ yX0_fatePrice cX0_fatePrice 2 (some .int)) ({ frames := 0, cells := 0, slots := 0, locals := 0 } : Room) (va_Pc [.ref (a 0), .int (nI i)] (xI D z a lv lk pu fa he n nv du ta w mp mi k nt fu re)) (vp_Si (fun r : Int32 => r = sp_price (lk i))) 0 0 (fun _ => False) := by
  refine Met.ofW (cc := cX0_fatePrice) (maxL := 2) (ret := (some .int)) (by decide) rfl ?_
  intro p e s m args below meth c s₁ B hml hv
  obtain ⟨rfl, hP, hK⟩ := hv
  have hx := B.exec
  have hb := B.bytes
  have hr := B.returns
  have hts := atoms_spec (ws := ws_ yX0_fatePrice cX0_fatePrice 2 (some .int)) B.pre
  have hts : ∀ w ∈ lw_all, w.before _ s = true := fun w h => hts w (List.mem_cons_of_mem _ h)
  have hown : s.vm.findClass RX0 = some m.cls := findClass_of_methodNamed B.named
  have hlocks := B.notSynchronized
  have hC : CallFix p m c cX0_fatePrice 2 s _ lw_all RX0 := ⟨hx, hb, hml, hown, hts⟩
  have hl := lv_entry ([.ref (a 0), .int (nI i)]) (n := 2) (Nat.le_of_ble_eq_true rfl)
  rw [lg_entry_eq]
  generalize (lg_sl ([.ref (a 0), .int (nI i)]) ++ List.replicate (2 - (lg_sl ([.ref (a 0), .int (nI i)])).length) Slot.unset).toArray = ls at hl ⊢
  have hl : lv_has ls 2 [(0, .ref (a 0)), (1, .int (nI i))] := hl
  refine lv_iconst (v := 5) hx hb dX0_fatePrice_0 (by decide) ?_
  refine lv_bipush (v := 99) hx hb dX0_fatePrice_1 (by decide) ?_
  refine lv_aload_n hx hb dX0_fatePrice_3 rfl (lv_at hl 0 rfl) ?_
  refine xg_lk hC hK hP dX0_fatePrice_4 ?_
  refine lv_iload_n hx hb dX0_fatePrice_7 rfl (lv_at hl 1 rfl) ?_
  refine xl_lk hC hK hP i rfl (by omega) dX0_fatePrice_8 ?_
  refine lv_isub hx hb dX0_fatePrice_9 ?_
  refine lv_bipush (v := 10) hx hb dX0_fatePrice_10 (by decide) ?_
  refine lv_idiv hx hb dX0_fatePrice_12 (by decide) ?_
  refine lv_iadd hx hb dX0_fatePrice_13 ?_
  exact W.iret (v := 5 + ((99 - (lk i)) / 10)) hx hb hr (fun t ht hW => ⟨5 + ((99 - (lk i)) / 10), rfl, (by unfold sp_price; rfl), ht⟩) (fun q hq => absurd hq List.not_mem_nil) dX0_fatePrice_14
set_option maxRecDepth 100000 in
theorem k_X0_fatePrice {p : Program} {l : Launch} {e : Env} {R : Room} {s : State} {m : MethodId} {args : Array Value} {below : List Frame} {meth : Method} {c : Code} {H : Heap} {locs : List Loc} {cells slots : Nat} {Q : State → Prop} {D : va_G} {z : ClassId × ClassId} {a : Nat → Nat} {lv lk pu fa he : Nat → Int32} {n : Nat} {nv du ta : Nat → Int32} {w : Nat} {mp mi : Nat → Int32} {k : Nat} {nt fu re : Int32} {cc : ByteArray} {nL pc : Nat} {ls : Array Slot} {rest : List Value} (hC : CallFix p m c cc nL s args lw_all RX0) (hK : kK D z s) (hP : va_P D vwCl (xW z a lv lk pu fa he n nv du ta w mp mi k nt fu re) H) (hl : ls.size = nL) (hR : 1 ≤ R.frames ∧ 21 ≤ R.locals) (hz : cells ≤ R.cells ∧ slots ≤ R.slots) (hr : (rest.map fun v => v.category).sum ≤ 8) {i : Nat} {x0 : Int32} (hx0 : x0 = nI i) (hi : i < 10) (hdg : decode cc pc = .ok (.invokevirtual 75, 3)) (kk : W p l e R s m args below meth c H locs cells slots Q (F0 m (pc + 3) ls (.int (sp_price (lk i)) :: rest))) : W p l e R s m args below meth c H locs cells slots Q (F0 m pc ls (.int x0 :: .ref (a 0) :: rest)) := by
  subst hx0
  exact vp_callSi (W.runV (As := [.int (nI i)]) (rest := rest) hC (c_X0_fatePrice l i hi) (cwV 1 hC.2.2.2.2 (gi_V mM_X0_75 mV_X0_fatePrice mS_X0_fatePrice mI_MissRegistry mC_X0_fatePrice) rfl rfl rfl (by decide +kernel) hR) (xpre hK hP) rfl rfl hl rfl (lv_room hr) hdg hz) (fun r hr => by rw [hr]; exact kk)
set_option maxHeartbeats 4000000 in
set_option maxRecDepth 100000 in
theorem c_X0_usesFate (l : Launch) {D : va_G} {z : ClassId × ClassId} {a : Nat → Nat} {lv lk pu fa he : Nat → Int32} {n : Nat} {nv du ta : Nat → Int32} {w : Nat} {mp mi : Nat → Int32} {k : Nat} {nt fu re : Int32} (i : Nat) (hi : i < 10) (b : Int32) : Met l yX0_usesFate (ws_ yX0_usesFate cX0_usesFate 3 (some .boolean)) ({ frames := 0, cells := 0, slots := 0, locals := 0 } : Room) (va_Pc [.ref (a 0), .int (nI i), .int b] (xI D z a lv lk pu fa he n nv du ta w mp mi k nt fu re)) (vp_Si (fun r : Int32 => r = sp_uses (lv i) (fa i) b)) 0 0 (fun _ => False) := by
  refine Met.ofW (cc := cX0_usesFate) (maxL := 3) (ret := (some .boolean)) (by decide) rfl ?_
  intro p e s m args below meth c s₁ B hml hv
  obtain ⟨rfl, hP, hK⟩ := hv
  have hx := B.exec
  have hb := B.bytes
  have hr := B.returns
  have hts := atoms_spec (ws := ws_ yX0_usesFate cX0_usesFate 3 (some .boolean)) B.pre
  have hts : ∀ w ∈ lw_all, w.before _ s = true := fun w h => hts w (List.mem_cons_of_mem _ h)
  have hown : s.vm.findClass RX0 = some m.cls := findClass_of_methodNamed B.named
  have hlocks := B.notSynchronized
  have hC : CallFix p m c cX0_usesFate 3 s _ lw_all RX0 := ⟨hx, hb, hml, hown, hts⟩
  have hl := lv_entry ([.ref (a 0), .int (nI i), .int b]) (n := 3) (Nat.le_of_ble_eq_true rfl)
  rw [lg_entry_eq]
  generalize (lg_sl ([.ref (a 0), .int (nI i), .int b]) ++ List.replicate (3 - (lg_sl ([.ref (a 0), .int (nI i), .int b])).length) Slot.unset).toArray = ls at hl ⊢
  have hl : lv_has ls 3 [(0, .ref (a 0)), (1, .int (nI i)), (2, .int b)] := hl
  refine lv_aload_n hx hb dX0_usesFate_0 rfl (lv_at hl 0 rfl) ?_
  refine xg_lv hC hK hP dX0_usesFate_1 ?_
  refine lv_iload_n hx hb dX0_usesFate_4 rfl (lv_at hl 1 rfl) ?_
  refine xl_lv hC hK hP i rfl (by omega) dX0_usesFate_5 ?_
  refine lv_if_eq (tgt := 32) hx hb dX0_usesFate_6 (by decide) (fun c_6 => ?_) (fun c_6 => ?_)
  · refine lv_iconst (v := 0) hx hb dX0_usesFate_32 (by decide) ?_
    exact W.zret (v := 0) hx hb hr (by decide) (fun t ht hW => ⟨0, rfl, (by simp [sp_uses, c_6]), ht⟩) (fun q hq => absurd hq List.not_mem_nil) dX0_usesFate_33
  · refine lv_aload_n hx hb dX0_usesFate_9 rfl (lv_at hl 0 rfl) ?_
    refine xg_fa hC hK hP dX0_usesFate_10 ?_
    refine lv_iload_n hx hb dX0_usesFate_13 rfl (lv_at hl 1 rfl) ?_
    refine xl_fa hC hK hP i rfl (by omega) dX0_usesFate_14 ?_
    refine lv_if_le (tgt := 32) hx hb dX0_usesFate_15 (by decide) (fun c_15 => ?_) (fun c_15 => ?_)
    · refine lv_iconst (v := 0) hx hb dX0_usesFate_32 (by decide) ?_
      exact W.zret (v := 0) hx hb hr (by decide) (fun t ht hW => ⟨0, rfl, (by simp [sp_uses, c_6, c_15]), ht⟩) (fun q hq => absurd hq List.not_mem_nil) dX0_usesFate_33
    · refine lv_iload_n hx hb dX0_usesFate_18 rfl (lv_at hl 2 rfl) ?_
      refine lv_if_le (tgt := 32) hx hb dX0_usesFate_19 (by decide) (fun c_19 => ?_) (fun c_19 => ?_)
      · refine lv_iconst (v := 0) hx hb dX0_usesFate_32 (by decide) ?_
        exact W.zret (v := 0) hx hb hr (by decide) (fun t ht hW => ⟨0, rfl, (by simp [sp_uses, c_6, c_15, c_19]), ht⟩) (fun q hq => absurd hq List.not_mem_nil) dX0_usesFate_33
      · refine lv_iload_n hx hb dX0_usesFate_22 rfl (lv_at hl 2 rfl) ?_
        refine lv_bipush (v := 24) hx hb dX0_usesFate_23 (by decide) ?_
        refine lv_icmp_gt (tgt := 32) hx hb dX0_usesFate_25 (by decide) (fun c_25 => ?_) (fun c_25 => ?_)
        · refine lv_iconst (v := 0) hx hb dX0_usesFate_32 (by decide) ?_
          exact W.zret (v := 0) hx hb hr (by decide) (fun t ht hW => ⟨0, rfl, (by simp [sp_uses, c_6, c_15, c_19, c_25]), ht⟩) (fun q hq => absurd hq List.not_mem_nil) dX0_usesFate_33
        · refine lv_iconst (v := 1) hx hb dX0_usesFate_28 (by decide) ?_
          refine lv_goto (tgt := 33) hx hb dX0_usesFate_29 (by decide) ?_
          exact W.zret (v := 1) hx hb hr (by decide) (fun t ht hW => ⟨1, rfl, (by simp [sp_uses, c_6, c_15, c_19, c_25]), ht⟩) (fun q hq => absurd hq List.not_mem_nil) dX0_usesFate_33
set_option maxRecDepth 100000 in
theorem k_X0_usesFate {p : Program} {l : Launch} {e : Env} {R : Room} {s : State} {m : MethodId} {args : Array Value} {below : List Frame} {meth : Method} {c : Code} {H : Heap} {locs : List Loc} {cells slots : Nat} {Q : State → Prop} {D : va_G} {z : ClassId × ClassId} {a : Nat → Nat} {lv lk pu fa he : Nat → Int32} {n : Nat} {nv du ta : Nat → Int32} {w : Nat} {mp mi : Nat → Int32} {k : Nat} {nt fu re : Int32} {cc : ByteArray} {nL pc : Nat} {ls : Array Slot} {rest : List Value} (hC : CallFix p m c cc nL s args lw_all RX0) (hK : kK D z s) (hP : va_P D vwCl (xW z a lv lk pu fa he n nv du ta w mp mi k nt fu re) H) (hl : ls.size = nL) (hR : 1 ≤ R.frames ∧ 22 ≤ R.locals) (hz : cells ≤ R.cells ∧ slots ≤ R.slots) (hr : (rest.map fun v => v.category).sum ≤ 8) {i : Nat} {b : Int32} {x0 : Int32} (hx0 : x0 = nI i) (hi : i < 10) (hdg : decode cc pc = .ok (.invokevirtual 200, 3)) (kk : W p l e R s m args below meth c H locs cells slots Q (F0 m (pc + 3) ls (.int (sp_uses (lv i) (fa i) b) :: rest))) : W p l e R s m args below meth c H locs cells slots Q (F0 m pc ls (.int b :: .int x0 :: .ref (a 0) :: rest)) := by
  subst hx0
  exact vp_callSi (W.runV (As := [.int (nI i), .int b]) (rest := rest) hC (c_X0_usesFate l i hi b) (cwV 2 hC.2.2.2.2 (gi_V mM_X0_200 mV_X0_usesFate mS_X0_usesFate mI_MissRegistry mC_X0_usesFate) rfl rfl rfl (by decide +kernel) hR) (xpre hK hP) rfl rfl hl rfl (lv_room hr) hdg hz) (fun r hr => by rw [hr]; exact kk)
set_option maxHeartbeats 4000000 in
set_option maxRecDepth 100000 in
theorem c_X0_refundCoins (l : Launch) {D : va_G} {z : ClassId × ClassId} {a : Nat → Nat} {lv lk pu fa he : Nat → Int32} {n : Nat} {nv du ta : Nat → Int32} {w : Nat} {mp mi : Nat → Int32} {k : Nat} {nt fu re : Int32} (i : Nat) (hi : i < 10) (b : Int32) : Met l yX0_refundCoins (ws_ yX0_refundCoins cX0_refundCoins 3 (some .int)) ({ frames := 1, cells := 0, slots := 0, locals := 22 } : Room) (va_Pc [.ref (a 0), .int (nI i), .int b] (xI D z a lv lk pu fa he n nv du ta w mp mi k nt fu re)) (vp_Si (fun r : Int32 => r = sp_coins (lv i) (fa i) (lk i) fu b)) 0 0 (fun _ => False) := by
  refine Met.ofW (cc := cX0_refundCoins) (maxL := 3) (ret := (some .int)) (by decide) rfl ?_
  intro p e s m args below meth c s₁ B hml hv
  obtain ⟨rfl, hP, hK⟩ := hv
  have hx := B.exec
  have hb := B.bytes
  have hr := B.returns
  have hts := atoms_spec (ws := ws_ yX0_refundCoins cX0_refundCoins 3 (some .int)) B.pre
  have hts : ∀ w ∈ lw_all, w.before _ s = true := fun w h => hts w (List.mem_cons_of_mem _ h)
  have hown : s.vm.findClass RX0 = some m.cls := findClass_of_methodNamed B.named
  have hlocks := B.notSynchronized
  have hC : CallFix p m c cX0_refundCoins 3 s _ lw_all RX0 := ⟨hx, hb, hml, hown, hts⟩
  have hl := lv_entry ([.ref (a 0), .int (nI i), .int b]) (n := 3) (Nat.le_of_ble_eq_true rfl)
  rw [lg_entry_eq]
  generalize (lg_sl ([.ref (a 0), .int (nI i), .int b]) ++ List.replicate (3 - (lg_sl ([.ref (a 0), .int (nI i), .int b])).length) Slot.unset).toArray = ls at hl ⊢
  have hl : lv_has ls 3 [(0, .ref (a 0)), (1, .int (nI i)), (2, .int b)] := hl
  refine lv_aload_n hx hb dX0_refundCoins_0 rfl (lv_at hl 0 rfl) ?_
  refine lv_iload_n hx hb dX0_refundCoins_1 rfl (lv_at hl 1 rfl) ?_
  refine lv_iload_n hx hb dX0_refundCoins_2 rfl (lv_at hl 2 rfl) ?_
  refine k_X0_usesFate hC hK hP hl.1 ⟨Nat.le_of_ble_eq_true rfl, Nat.le_of_ble_eq_true rfl⟩ ⟨Nat.zero_le _, Nat.zero_le _⟩ (Nat.le_of_ble_eq_true rfl) rfl (by omega) dX0_refundCoins_3 ?_
  refine lv_if_ne (tgt := 11) hx hb dX0_refundCoins_6 (by decide) (fun c_6 => ?_) (fun c_6 => ?_)
  · refine lv_aload_n hx hb dX0_refundCoins_11 rfl (lv_at hl 0 rfl) ?_
    refine xg_fu hC hK hP dX0_refundCoins_12 ?_
    refine lv_aload_n hx hb dX0_refundCoins_15 rfl (lv_at hl 0 rfl) ?_
    refine lv_iload_n hx hb dX0_refundCoins_16 rfl (lv_at hl 1 rfl) ?_
    refine k_X0_fatePrice hC hK hP hl.1 ⟨Nat.le_of_ble_eq_true rfl, Nat.le_of_ble_eq_true rfl⟩ ⟨Nat.zero_le _, Nat.zero_le _⟩ (Nat.le_of_ble_eq_true rfl) rfl (by omega) dX0_refundCoins_17 ?_
    refine lv_bipush (v := 24) hx hb dX0_refundCoins_20 (by decide) ?_
    refine lv_iadd hx hb dX0_refundCoins_22 ?_
    refine lv_iload_n hx hb dX0_refundCoins_23 rfl (lv_at hl 2 rfl) ?_
    refine lv_isub hx hb dX0_refundCoins_24 ?_
    refine va_mmin hx hb (hml.trans hl.1.symm) hown (hts _ mM_X0_121) (hts _ mT_min) (hts _ mI_Math) (hts _ mC_min) (Nat.le_of_ble_eq_true rfl) (Nat.le_of_ble_eq_true rfl) (Nat.zero_le _) (Nat.zero_le _) dX0_refundCoins_25 ?_
    exact W.iret (v := imin fu (((sp_price (lk i)) + 24) - b)) hx hb hr (fun t ht hW => ⟨imin fu (((sp_price (lk i)) + 24) - b), rfl, (by simp [sp_coins, c_6]), ht⟩) (fun q hq => absurd hq List.not_mem_nil) dX0_refundCoins_28
  · refine lv_iconst (v := 0) hx hb dX0_refundCoins_9 (by decide) ?_
    exact W.iret (v := 0) hx hb hr (fun t ht hW => ⟨0, rfl, (by simp [sp_coins, c_6]), ht⟩) (fun q hq => absurd hq List.not_mem_nil) dX0_refundCoins_10
set_option maxRecDepth 100000 in
theorem k_X0_refundCoins {p : Program} {l : Launch} {e : Env} {R : Room} {s : State} {m : MethodId} {args : Array Value} {below : List Frame} {meth : Method} {c : Code} {H : Heap} {locs : List Loc} {cells slots : Nat} {Q : State → Prop} {D : va_G} {z : ClassId × ClassId} {a : Nat → Nat} {lv lk pu fa he : Nat → Int32} {n : Nat} {nv du ta : Nat → Int32} {w : Nat} {mp mi : Nat → Int32} {k : Nat} {nt fu re : Int32} {cc : ByteArray} {nL pc : Nat} {ls : Array Slot} {rest : List Value} (hC : CallFix p m c cc nL s args lw_all RX0) (hK : kK D z s) (hP : va_P D vwCl (xW z a lv lk pu fa he n nv du ta w mp mi k nt fu re) H) (hl : ls.size = nL) (hR : 2 ≤ R.frames ∧ 44 ≤ R.locals) (hz : cells ≤ R.cells ∧ slots ≤ R.slots) (hr : (rest.map fun v => v.category).sum ≤ 8) {i : Nat} {b : Int32} {x0 : Int32} (hx0 : x0 = nI i) (hi : i < 10) (hdg : decode cc pc = .ok (.invokevirtual 151, 3)) (kk : W p l e R s m args below meth c H locs cells slots Q (F0 m (pc + 3) ls (.int (sp_coins (lv i) (fa i) (lk i) fu b) :: rest))) : W p l e R s m args below meth c H locs cells slots Q (F0 m pc ls (.int b :: .int x0 :: .ref (a 0) :: rest)) := by
  subst hx0
  exact vp_callSi (W.runV (As := [.int (nI i), .int b]) (rest := rest) hC (c_X0_refundCoins l i hi b) (cwV 2 hC.2.2.2.2 (gi_V mM_X0_151 mV_X0_refundCoins mS_X0_refundCoins mI_MissRegistry mC_X0_refundCoins) rfl rfl rfl (by decide +kernel) hR) (xpre hK hP) rfl rfl hl rfl (lv_room hr) hdg hz) (fun r hr => by rw [hr]; exact kk)
set_option maxHeartbeats 4000000 in
set_option maxRecDepth 100000 in
theorem c_X0_nerveLoss (l : Launch) (b : Int32) : Met l yX0_nerveLoss (ws_ yX0_nerveLoss cX0_nerveLoss 1 (some .int)) ({ frames := 0, cells := 0, slots := 0, locals := 0 } : Room) (va_Pc [.int b] (fun _ => True)) (vp_Si (fun r : Int32 => r = sp_loss b)) 0 0 (fun _ => False) := by
  refine Met.ofW (cc := cX0_nerveLoss) (maxL := 1) (ret := (some .int)) (by decide) rfl ?_
  intro p e s m args below meth c s₁ B hml hv
  obtain ⟨rfl, -⟩ := hv
  have hx := B.exec
  have hb := B.bytes
  have hr := B.returns
  have hts := atoms_spec (ws := ws_ yX0_nerveLoss cX0_nerveLoss 1 (some .int)) B.pre
  have hts : ∀ w ∈ lw_all, w.before _ s = true := fun w h => hts w (List.mem_cons_of_mem _ h)
  have hown : s.vm.findClass RX0 = some m.cls := findClass_of_methodNamed B.named
  have hlocks := B.notSynchronized
  have hC : CallFix p m c cX0_nerveLoss 1 s _ lw_all RX0 := ⟨hx, hb, hml, hown, hts⟩
  have hl := lv_entry ([.int b]) (n := 1) (Nat.le_of_ble_eq_true rfl)
  rw [lg_entry_eq]
  generalize (lg_sl ([.int b]) ++ List.replicate (1 - (lg_sl ([.int b])).length) Slot.unset).toArray = ls at hl ⊢
  have hl : lv_has ls 1 [(0, .int b)] := hl
  refine lv_iload_n hx hb dX0_nerveLoss_0 rfl (lv_at hl 0 rfl) ?_
  refine lv_iconst (v := 5) hx hb dX0_nerveLoss_1 (by decide) ?_
  refine lv_icmp_gt (tgt := 7) hx hb dX0_nerveLoss_2 (by decide) (fun c_2 => ?_) (fun c_2 => ?_)
  · refine lv_iload_n hx hb dX0_nerveLoss_7 rfl (lv_at hl 0 rfl) ?_
    refine lv_bipush (v := 12) hx hb dX0_nerveLoss_8 (by decide) ?_
    refine lv_icmp_gt (tgt := 17) hx hb dX0_nerveLoss_10 (by decide) (fun c_10 => ?_) (fun c_10 => ?_)
    · refine lv_iconst (v := 1) hx hb dX0_nerveLoss_17 (by decide) ?_
      exact W.iret (v := 1) hx hb hr (fun t ht hW => ⟨1, rfl, (by simp [sp_loss, c_2, c_10]), ht⟩) (fun q hq => absurd hq List.not_mem_nil) dX0_nerveLoss_18
    · refine lv_iconst (v := 2) hx hb dX0_nerveLoss_13 (by decide) ?_
      refine lv_goto (tgt := 18) hx hb dX0_nerveLoss_14 (by decide) ?_
      exact W.iret (v := 2) hx hb hr (fun t ht hW => ⟨2, rfl, (by simp [sp_loss, c_2, c_10]), ht⟩) (fun q hq => absurd hq List.not_mem_nil) dX0_nerveLoss_18
  · refine lv_iconst (v := 3) hx hb dX0_nerveLoss_5 (by decide) ?_
    exact W.iret (v := 3) hx hb hr (fun t ht hW => ⟨3, rfl, (by simp [sp_loss, c_2]), ht⟩) (fun q hq => absurd hq List.not_mem_nil) dX0_nerveLoss_6
set_option maxRecDepth 100000 in
theorem k_X0_nerveLoss {p : Program} {l : Launch} {e : Env} {R : Room} {s : State} {m : MethodId} {args : Array Value} {below : List Frame} {meth : Method} {c : Code} {H : Heap} {locs : List Loc} {cells slots : Nat} {Q : State → Prop} {cc : ByteArray} {nL pc : Nat} {ls : Array Slot} {rest : List Value} (hC : CallFix p m c cc nL s args lw_all RX0) (hl : ls.size = nL) (hR : 1 ≤ R.frames ∧ 20 ≤ R.locals) (hz : cells ≤ R.cells ∧ slots ≤ R.slots) (hr : (rest.map fun v => v.category).sum ≤ 8) {b : Int32}   (hdg : decode cc pc = .ok (.invokestatic 108, 3)) (kk : W p l e R s m args below meth c H locs cells slots Q (F0 m (pc + 3) ls (.int (sp_loss b) :: rest))) : W p l e R s m args below meth c H locs cells slots Q (F0 m pc ls (.int b :: rest)) := by
  exact vp_callSi (W.runS (As := [.int b]) (rest := rest) hC (c_X0_nerveLoss l b) (va_cwS 1 hC.2.2.2.2 (gi_S mM_X0_108 mT_X0_nerveLoss mI_MissRegistry mC_X0_nerveLoss) rfl rfl rfl (by decide +kernel) hR) ⟨fun _ _ _ _ q => q, fun U hU hW => ⟨rfl, trivial⟩⟩ rfl rfl hl rfl (lv_room hr) hdg hz) (fun r hr => by rw [hr]; exact kk)
set_option maxHeartbeats 4000000 in
set_option maxRecDepth 100000 in
theorem c_X0_nerveGain (l : Launch) (b : Int32) : Met l yX0_nerveGain (ws_ yX0_nerveGain cX0_nerveGain 1 (some .int)) ({ frames := 0, cells := 0, slots := 0, locals := 0 } : Room) (va_Pc [.int b] (fun _ => True)) (vp_Si (fun r : Int32 => r = sp_gain b)) 0 0 (fun _ => False) := by
  refine Met.ofW (cc := cX0_nerveGain) (maxL := 1) (ret := (some .int)) (by decide) rfl ?_
  intro p e s m args below meth c s₁ B hml hv
  obtain ⟨rfl, -⟩ := hv
  have hx := B.exec
  have hb := B.bytes
  have hr := B.returns
  have hts := atoms_spec (ws := ws_ yX0_nerveGain cX0_nerveGain 1 (some .int)) B.pre
  have hts : ∀ w ∈ lw_all, w.before _ s = true := fun w h => hts w (List.mem_cons_of_mem _ h)
  have hown : s.vm.findClass RX0 = some m.cls := findClass_of_methodNamed B.named
  have hlocks := B.notSynchronized
  have hC : CallFix p m c cX0_nerveGain 1 s _ lw_all RX0 := ⟨hx, hb, hml, hown, hts⟩
  have hl := lv_entry ([.int b]) (n := 1) (Nat.le_of_ble_eq_true rfl)
  rw [lg_entry_eq]
  generalize (lg_sl ([.int b]) ++ List.replicate (1 - (lg_sl ([.int b])).length) Slot.unset).toArray = ls at hl ⊢
  have hl : lv_has ls 1 [(0, .int b)] := hl
  refine lv_iload_n hx hb dX0_nerveGain_0 rfl (lv_at hl 0 rfl) ?_
  refine lv_if_eq (tgt := 8) hx hb dX0_nerveGain_1 (by decide) (fun c_1 => ?_) (fun c_1 => ?_)
  · refine lv_iconst (v := 2) hx hb dX0_nerveGain_8 (by decide) ?_
    exact W.iret (v := 2) hx hb hr (fun t ht hW => ⟨2, rfl, (by simp [sp_gain, c_1]), ht⟩) (fun q hq => absurd hq List.not_mem_nil) dX0_nerveGain_9
  · refine lv_iconst (v := 1) hx hb dX0_nerveGain_4 (by decide) ?_
    refine lv_goto (tgt := 9) hx hb dX0_nerveGain_5 (by decide) ?_
    exact W.iret (v := 1) hx hb hr (fun t ht hW => ⟨1, rfl, (by simp [sp_gain, c_1]), ht⟩) (fun q hq => absurd hq List.not_mem_nil) dX0_nerveGain_9
set_option maxRecDepth 100000 in
theorem k_X0_nerveGain {p : Program} {l : Launch} {e : Env} {R : Room} {s : State} {m : MethodId} {args : Array Value} {below : List Frame} {meth : Method} {c : Code} {H : Heap} {locs : List Loc} {cells slots : Nat} {Q : State → Prop} {cc : ByteArray} {nL pc : Nat} {ls : Array Slot} {rest : List Value} (hC : CallFix p m c cc nL s args lw_all RX0) (hl : ls.size = nL) (hR : 1 ≤ R.frames ∧ 20 ≤ R.locals) (hz : cells ≤ R.cells ∧ slots ≤ R.slots) (hr : (rest.map fun v => v.category).sum ≤ 8) {b : Int32}   (hdg : decode cc pc = .ok (.invokestatic 204, 3)) (kk : W p l e R s m args below meth c H locs cells slots Q (F0 m (pc + 3) ls (.int (sp_gain b) :: rest))) : W p l e R s m args below meth c H locs cells slots Q (F0 m pc ls (.int b :: rest)) := by
  exact vp_callSi (W.runS (As := [.int b]) (rest := rest) hC (c_X0_nerveGain l b) (va_cwS 1 hC.2.2.2.2 (gi_S mM_X0_204 mT_X0_nerveGain mI_MissRegistry mC_X0_nerveGain) rfl rfl rfl (by decide +kernel) hR) ⟨fun _ _ _ _ q => q, fun U hU hW => ⟨rfl, trivial⟩⟩ rfl rfl hl rfl (lv_room hr) hdg hz) (fun r hr => by rw [hr]; exact kk)
set_option maxHeartbeats 4000000 in
set_option maxRecDepth 100000 in
theorem c_X0_nightsToCalm (l : Launch) {D : va_G} {z : ClassId × ClassId} {a : Nat → Nat} {lv lk pu fa he : Nat → Int32} {n : Nat} {nv du ta : Nat → Int32} {w : Nat} {mp mi : Nat → Int32} {k : Nat} {nt fu re : Int32} (i : Nat) (hi : i < 6) : Met l yX0_nightsToCalm (ws_ yX0_nightsToCalm cX0_nightsToCalm 4 (some .int)) ({ frames := 1, cells := 0, slots := 0, locals := 20 } : Room) (va_Pc [.ref (a 0), .int (nI i)] (xI D z a lv lk pu fa he n nv du ta w mp mi k nt fu re)) (vp_Si (fun r : Int32 => r = sp_calm (nv i) (du i))) 0 0 (fun _ => False) := by
  refine Met.ofW (cc := cX0_nightsToCalm) (maxL := 4) (ret := (some .int)) (by decide) rfl ?_
  intro p e s m args below meth c s₁ B hml hv
  obtain ⟨rfl, hP, hK⟩ := hv
  have hx := B.exec
  have hb := B.bytes
  have hr := B.returns
  have hts := atoms_spec (ws := ws_ yX0_nightsToCalm cX0_nightsToCalm 4 (some .int)) B.pre
  have hts : ∀ w ∈ lw_all, w.before _ s = true := fun w h => hts w (List.mem_cons_of_mem _ h)
  have hown : s.vm.findClass RX0 = some m.cls := findClass_of_methodNamed B.named
  have hlocks := B.notSynchronized
  have hC : CallFix p m c cX0_nightsToCalm 4 s _ lw_all RX0 := ⟨hx, hb, hml, hown, hts⟩
  have hl := lv_entry ([.ref (a 0), .int (nI i)]) (n := 4) (Nat.le_of_ble_eq_true rfl)
  rw [lg_entry_eq]
  generalize (lg_sl ([.ref (a 0), .int (nI i)]) ++ List.replicate (4 - (lg_sl ([.ref (a 0), .int (nI i)])).length) Slot.unset).toArray = ls at hl ⊢
  have hl : lv_has ls 4 [(0, .ref (a 0)), (1, .int (nI i))] := hl
  refine lv_aload_n hx hb dX0_nightsToCalm_0 rfl (lv_at hl 0 rfl) ?_
  refine xg_du hC hK hP dX0_nightsToCalm_1 ?_
  refine lv_iload_n hx hb dX0_nightsToCalm_4 rfl (lv_at hl 1 rfl) ?_
  refine xl_du hC hK hP i rfl (by omega) dX0_nightsToCalm_5 ?_
  refine k_X0_nerveGain hC hl.1 ⟨Nat.le_of_ble_eq_true rfl, Nat.le_of_ble_eq_true rfl⟩ ⟨Nat.zero_le _, Nat.zero_le _⟩ (Nat.le_of_ble_eq_true rfl)   dX0_nightsToCalm_6 ?_
  refine lv_istore_n (lv' := [(2, .int (sp_gain (du i))), (0, .ref (a 0)), (1, .int (nI i))]) hx hb dX0_nightsToCalm_9 rfl hl (by decide) rfl (fun ls hl => ?_)
  refine lv_iconst (v := 0) hx hb dX0_nightsToCalm_10 (by decide) ?_
  refine lv_istore_n (lv' := [(3, .int 0), (2, .int (sp_gain (du i))), (0, .ref (a 0)), (1, .int (nI i))]) hx hb dX0_nightsToCalm_11 rfl hl (by decide) rfl (fun ls hl => ?_)
  have loop_12 : ∀ (f : Nat) (j : Nat), j ≤ 9 → j + f = 10 → sp_calmN (nv i) (sp_gain (du i)) f j = sp_calmN (nv i) (sp_gain (du i)) 10 0 → ∀ ls : Array Slot, lv_has ls 4 [(0, .ref (a 0)), (1, .int (nI i)), (2, .int (sp_gain (du i))), (3, .int (nI j))] → W p l e ({ frames := 1, cells := 0, slots := 0, locals := 20 } : Room) s m ([.ref (a 0), .int (nI i)] : List Value).toArray below meth c s.heap [] 0 0 (MQ below (vp_Si (fun r : Int32 => r = sp_calm (nv i) (du i))) ([.ref (a 0), .int (nI i)] : List Value).toArray s 0 0 (fun _ => False)) (F0 m 12 ls []) := by
    intro f
    induction f with
    | zero =>
      intro j hj hf er
      exact absurd hf (by omega)
    | succ f ih =>
      intro j hj hf er ls hl
      refine lv_iload_n hx hb dX0_nightsToCalm_12 rfl (lv_at hl 3 rfl) ?_
      refine lv_bipush (v := 9) hx hb dX0_nightsToCalm_13 (by decide) ?_
      refine lv_icmp_ge (tgt := 38) hx hb dX0_nightsToCalm_15 (by decide) (fun c_15 => ?_) (fun c_15 => ?_)
      · have nc_15 : 9 ≤ j := nn_le (by omega) c_15
        refine lv_iload_n hx hb dX0_nightsToCalm_38 rfl (lv_at hl 3 rfl) ?_
        exact W.iret (v := nI j) hx hb hr (fun t ht hW => ⟨nI j, rfl, (by unfold sp_calm; rw [← er]; simp [sp_calmN, nc_15]), ht⟩) (fun q hq => absurd hq List.not_mem_nil) dX0_nightsToCalm_39
      · have nc_15 : j < 9 := nn_nle (by omega) c_15
        refine lv_aload_n hx hb dX0_nightsToCalm_18 rfl (lv_at hl 0 rfl) ?_
        refine xg_nv hC hK hP dX0_nightsToCalm_19 ?_
        refine lv_iload_n hx hb dX0_nightsToCalm_22 rfl (lv_at hl 1 rfl) ?_
        refine xl_nv hC hK hP i rfl (by omega) dX0_nightsToCalm_23 ?_
        refine lv_iload_n hx hb dX0_nightsToCalm_24 rfl (lv_at hl 3 rfl) ?_
        refine lv_iload_n hx hb dX0_nightsToCalm_25 rfl (lv_at hl 2 rfl) ?_
        refine lv_imul hx hb dX0_nightsToCalm_26 ?_
        refine lv_iadd hx hb dX0_nightsToCalm_27 ?_
        refine lv_iconst (v := 2) hx hb dX0_nightsToCalm_28 (by decide) ?_
        refine lv_icmp_gt (tgt := 38) hx hb dX0_nightsToCalm_29 (by decide) (fun c_29 => ?_) (fun c_29 => ?_)
        · refine lv_iload_n hx hb dX0_nightsToCalm_38 rfl (lv_at hl 3 rfl) ?_
          exact W.iret (v := nI j) hx hb hr (fun t ht hW => ⟨nI j, rfl, (by unfold sp_calm; rw [← er]; simp [sp_calmN, c_29]), ht⟩) (fun q hq => absurd hq List.not_mem_nil) dX0_nightsToCalm_39
        · refine lv_iinc (v := nI (j + 1)) (lv' := [(3, .int (nI (j + 1))), (0, .ref (a 0)), (1, .int (nI i)), (2, .int (sp_gain (du i)))]) hx hb dX0_nightsToCalm_32 hl (k := 3) rfl (nI_1 _) (by decide) rfl (fun ls hl => ?_)
          refine lv_goto (tgt := 12) hx hb dX0_nightsToCalm_35 (by decide) ?_
          exact ih (j + 1) (by omega) (by omega) (by rw [← er]; simp [sp_calmN, c_29, Nat.not_le.mpr nc_15]) _ (lv_sub hl [1, 2, 3, 0] rfl)
  exact loop_12 10 0 (by omega) (by omega) rfl _ (lv_sub hl [2, 3, 1, 0] rfl)
set_option maxRecDepth 100000 in
theorem k_X0_nightsToCalm {p : Program} {l : Launch} {e : Env} {R : Room} {s : State} {m : MethodId} {args : Array Value} {below : List Frame} {meth : Method} {c : Code} {H : Heap} {locs : List Loc} {cells slots : Nat} {Q : State → Prop} {D : va_G} {z : ClassId × ClassId} {a : Nat → Nat} {lv lk pu fa he : Nat → Int32} {n : Nat} {nv du ta : Nat → Int32} {w : Nat} {mp mi : Nat → Int32} {k : Nat} {nt fu re : Int32} {cc : ByteArray} {nL pc : Nat} {ls : Array Slot} {rest : List Value} (hC : CallFix p m c cc nL s args lw_all RX0) (hK : kK D z s) (hP : va_P D vwCl (xW z a lv lk pu fa he n nv du ta w mp mi k nt fu re) H) (hl : ls.size = nL) (hR : 2 ≤ R.frames ∧ 43 ≤ R.locals) (hz : cells ≤ R.cells ∧ slots ≤ R.slots) (hr : (rest.map fun v => v.category).sum ≤ 8) {i : Nat} {x0 : Int32} (hx0 : x0 = nI i) (hi : i < 6) (hdg : decode cc pc = .ok (.invokevirtual 160, 3)) (kk : W p l e R s m args below meth c H locs cells slots Q (F0 m (pc + 3) ls (.int (sp_calm (nv i) (du i)) :: rest))) : W p l e R s m args below meth c H locs cells slots Q (F0 m pc ls (.int x0 :: .ref (a 0) :: rest)) := by
  subst hx0
  exact vp_callSi (W.runV (As := [.int (nI i)]) (rest := rest) hC (c_X0_nightsToCalm l i hi) (cwV 1 hC.2.2.2.2 (gi_V mM_X0_160 mV_X0_nightsToCalm mS_X0_nightsToCalm mI_MissRegistry mC_X0_nightsToCalm) rfl rfl rfl (by decide +kernel) hR) (xpre hK hP) rfl rfl hl rfl (lv_room hr) hdg hz) (fun r hr => by rw [hr]; exact kk)
set_option maxHeartbeats 4000000 in
set_option maxRecDepth 100000 in
theorem c_X0_alive (l : Launch) {D : va_G} {z : ClassId × ClassId} {a : Nat → Nat} {lv lk pu fa he : Nat → Int32} {n : Nat} {nv du ta : Nat → Int32} {w : Nat} {mp mi : Nat → Int32} {k : Nat} {nt fu re : Int32} (hn : n ≤ 10) : Met l yX0_alive (ws_ yX0_alive cX0_alive 3 (some .int)) ({ frames := 0, cells := 0, slots := 0, locals := 0 } : Room) (va_Pc [.ref (a 0)] (xI D z a lv lk pu fa he n nv du ta w mp mi k nt fu re)) (vp_Si (fun r : Int32 => r = sp_cnt lv n)) 0 0 (fun _ => False) := by
  refine Met.ofW (cc := cX0_alive) (maxL := 3) (ret := (some .int)) (by decide) rfl ?_
  intro p e s m args below meth c s₁ B hml hv
  obtain ⟨rfl, hP, hK⟩ := hv
  have hx := B.exec
  have hb := B.bytes
  have hr := B.returns
  have hts := atoms_spec (ws := ws_ yX0_alive cX0_alive 3 (some .int)) B.pre
  have hts : ∀ w ∈ lw_all, w.before _ s = true := fun w h => hts w (List.mem_cons_of_mem _ h)
  have hown : s.vm.findClass RX0 = some m.cls := findClass_of_methodNamed B.named
  have hlocks := B.notSynchronized
  have hC : CallFix p m c cX0_alive 3 s _ lw_all RX0 := ⟨hx, hb, hml, hown, hts⟩
  have hl := lv_entry ([.ref (a 0)]) (n := 3) (Nat.le_of_ble_eq_true rfl)
  rw [lg_entry_eq]
  generalize (lg_sl ([.ref (a 0)]) ++ List.replicate (3 - (lg_sl ([.ref (a 0)])).length) Slot.unset).toArray = ls at hl ⊢
  have hl : lv_has ls 3 [(0, .ref (a 0))] := hl
  refine lv_iconst (v := 0) hx hb dX0_alive_0 (by decide) ?_
  refine lv_istore_n (lv' := [(1, .int 0), (0, .ref (a 0))]) hx hb dX0_alive_1 rfl hl (by decide) rfl (fun ls hl => ?_)
  refine lv_iconst (v := 0) hx hb dX0_alive_2 (by decide) ?_
  refine lv_istore_n (lv' := [(2, .int 0), (1, .int 0), (0, .ref (a 0))]) hx hb dX0_alive_3 rfl hl (by decide) rfl (fun ls hl => ?_)
  have loop_4 : ∀ (f : Nat) (j : Nat) (x : Int32), j ≤ n → n + 1 ≤ j + f → x = sp_cnt lv j → ∀ ls : Array Slot, lv_has ls 3 [(0, .ref (a 0)), (1, .int x), (2, .int (nI j))] → W p l e ({ frames := 0, cells := 0, slots := 0, locals := 0 } : Room) s m ([.ref (a 0)] : List Value).toArray below meth c s.heap [] 0 0 (MQ below (vp_Si (fun r : Int32 => r = sp_cnt lv n)) ([.ref (a 0)] : List Value).toArray s 0 0 (fun _ => False)) (F0 m 4 ls []) := by
    intro f
    induction f with
    | zero =>
      intro j x hj hf ex
      exact absurd hf (by omega)
    | succ f ih =>
      intro j x hj hf ex ls hl
      refine lv_iload_n hx hb dX0_alive_4 rfl (lv_at hl 2 rfl) ?_
      refine lv_aload_n hx hb dX0_alive_5 rfl (lv_at hl 0 rfl) ?_
      refine xg_n hC hK hP dX0_alive_6 ?_
      refine lv_icmp_ge (tgt := 30) hx hb dX0_alive_9 (by decide) (fun c_9 => ?_) (fun c_9 => ?_)
      · have nc_9 : n ≤ j := nn_le (by omega) c_9
        refine lv_iload_n hx hb dX0_alive_30 rfl (lv_at hl 1 rfl) ?_
        exact W.iret (v := x) hx hb hr (fun t ht hW => ⟨x, rfl, (by rw [ex, show j = n by omega]), ht⟩) (fun q hq => absurd hq List.not_mem_nil) dX0_alive_31
      · have nc_9 : j < n := nn_nle (by omega) c_9
        refine lv_aload_n hx hb dX0_alive_12 rfl (lv_at hl 0 rfl) ?_
        refine xg_lv hC hK hP dX0_alive_13 ?_
        refine lv_iload_n hx hb dX0_alive_16 rfl (lv_at hl 2 rfl) ?_
        refine xl_lv hC hK hP j rfl (by omega) dX0_alive_17 ?_
        refine lv_if_eq (tgt := 24) hx hb dX0_alive_18 (by decide) (fun c_18 => ?_) (fun c_18 => ?_)
        · refine lv_iinc (v := nI (j + 1)) (lv' := [(2, .int (nI (j + 1))), (0, .ref (a 0)), (1, .int x)]) hx hb dX0_alive_24 hl (k := 2) rfl (nI_1 _) (by decide) rfl (fun ls hl => ?_)
          refine lv_goto (tgt := 4) hx hb dX0_alive_27 (by decide) ?_
          exact ih (j + 1) x (by omega) (by omega) (by simp [ex, sp_cnt, c_18]) _ (lv_sub hl [1, 2, 0] rfl)
        · refine lv_iinc (v := x + 1) (lv' := [(1, .int (x + 1)), (0, .ref (a 0)), (2, .int (nI j))]) hx hb dX0_alive_21 hl (k := 1) rfl rfl (by decide) rfl (fun ls hl => ?_)
          refine lv_iinc (v := nI (j + 1)) (lv' := [(2, .int (nI (j + 1))), (1, .int (x + 1)), (0, .ref (a 0))]) hx hb dX0_alive_24 hl (k := 2) rfl (nI_1 _) (by decide) rfl (fun ls hl => ?_)
          refine lv_goto (tgt := 4) hx hb dX0_alive_27 (by decide) ?_
          exact ih (j + 1) (x + 1) (by omega) (by omega) (by simp [ex, sp_cnt, c_18]) _ (lv_sub hl [2, 1, 0] rfl)
  exact loop_4 (n + 1) 0 0 (Nat.zero_le _) (by omega) rfl _ (lv_sub hl [2, 1, 0] rfl)
set_option maxRecDepth 100000 in
theorem k_X0_alive {p : Program} {l : Launch} {e : Env} {R : Room} {s : State} {m : MethodId} {args : Array Value} {below : List Frame} {meth : Method} {c : Code} {H : Heap} {locs : List Loc} {cells slots : Nat} {Q : State → Prop} {D : va_G} {z : ClassId × ClassId} {a : Nat → Nat} {lv lk pu fa he : Nat → Int32} {n : Nat} {nv du ta : Nat → Int32} {w : Nat} {mp mi : Nat → Int32} {k : Nat} {nt fu re : Int32} {cc : ByteArray} {nL pc : Nat} {ls : Array Slot} {rest : List Value} (hC : CallFix p m c cc nL s args lw_all RX0) (hK : kK D z s) (hP : va_P D vwCl (xW z a lv lk pu fa he n nv du ta w mp mi k nt fu re) H) (hl : ls.size = nL) (hR : 1 ≤ R.frames ∧ 22 ≤ R.locals) (hz : cells ≤ R.cells ∧ slots ≤ R.slots) (hr : (rest.map fun v => v.category).sum ≤ 8)   (hn : n ≤ 10) (hdg : decode cc pc = .ok (.invokevirtual 239, 3)) (kk : W p l e R s m args below meth c H locs cells slots Q (F0 m (pc + 3) ls (.int (sp_cnt lv n) :: rest))) : W p l e R s m args below meth c H locs cells slots Q (F0 m pc ls (.ref (a 0) :: rest)) := by
  exact vp_callSi (W.runV (As := []) (rest := rest) hC (c_X0_alive l hn) (cwV 0 hC.2.2.2.2 (gi_V mM_X0_239 mV_X0_alive mS_X0_alive mI_MissRegistry mC_X0_alive) rfl rfl rfl (by decide +kernel) hR) (xpre hK hP) rfl rfl hl rfl (lv_room hr) hdg hz) (fun r hr => by rw [hr]; exact kk)
set_option maxHeartbeats 4000000 in
set_option maxRecDepth 100000 in
theorem c_X0_shaken (l : Launch) {D : va_G} {z : ClassId × ClassId} {a : Nat → Nat} {lv lk pu fa he : Nat → Int32} {n : Nat} {nv du ta : Nat → Int32} {w : Nat} {mp mi : Nat → Int32} {k : Nat} {nt fu re : Int32} (hw : w ≤ 6) : Met l yX0_shaken (ws_ yX0_shaken cX0_shaken 3 (some .int)) ({ frames := 1, cells := 0, slots := 0, locals := 21 } : Room) (va_Pc [.ref (a 0)] (xI D z a lv lk pu fa he n nv du ta w mp mi k nt fu re)) (vp_Si (fun r : Int32 => r = sp_shk nv w)) 0 0 (fun _ => False) := by
  refine Met.ofW (cc := cX0_shaken) (maxL := 3) (ret := (some .int)) (by decide) rfl ?_
  intro p e s m args below meth c s₁ B hml hv
  obtain ⟨rfl, hP, hK⟩ := hv
  have hx := B.exec
  have hb := B.bytes
  have hr := B.returns
  have hts := atoms_spec (ws := ws_ yX0_shaken cX0_shaken 3 (some .int)) B.pre
  have hts : ∀ w ∈ lw_all, w.before _ s = true := fun w h => hts w (List.mem_cons_of_mem _ h)
  have hown : s.vm.findClass RX0 = some m.cls := findClass_of_methodNamed B.named
  have hlocks := B.notSynchronized
  have hC : CallFix p m c cX0_shaken 3 s _ lw_all RX0 := ⟨hx, hb, hml, hown, hts⟩
  have hl := lv_entry ([.ref (a 0)]) (n := 3) (Nat.le_of_ble_eq_true rfl)
  rw [lg_entry_eq]
  generalize (lg_sl ([.ref (a 0)]) ++ List.replicate (3 - (lg_sl ([.ref (a 0)])).length) Slot.unset).toArray = ls at hl ⊢
  have hl : lv_has ls 3 [(0, .ref (a 0))] := hl
  refine lv_iconst (v := 0) hx hb dX0_shaken_0 (by decide) ?_
  refine lv_istore_n (lv' := [(1, .int 0), (0, .ref (a 0))]) hx hb dX0_shaken_1 rfl hl (by decide) rfl (fun ls hl => ?_)
  refine lv_iconst (v := 0) hx hb dX0_shaken_2 (by decide) ?_
  refine lv_istore_n (lv' := [(2, .int 0), (1, .int 0), (0, .ref (a 0))]) hx hb dX0_shaken_3 rfl hl (by decide) rfl (fun ls hl => ?_)
  have loop_4 : ∀ (f : Nat) (j : Nat) (x : Int32), j ≤ w → w + 1 ≤ j + f → x = sp_shk nv j → ∀ ls : Array Slot, lv_has ls 3 [(0, .ref (a 0)), (1, .int x), (2, .int (nI j))] → W p l e ({ frames := 1, cells := 0, slots := 0, locals := 21 } : Room) s m ([.ref (a 0)] : List Value).toArray below meth c s.heap [] 0 0 (MQ below (vp_Si (fun r : Int32 => r = sp_shk nv w)) ([.ref (a 0)] : List Value).toArray s 0 0 (fun _ => False)) (F0 m 4 ls []) := by
    intro f
    induction f with
    | zero =>
      intro j x hj hf ex
      exact absurd hf (by omega)
    | succ f ih =>
      intro j x hj hf ex ls hl
      refine lv_iload_n hx hb dX0_shaken_4 rfl (lv_at hl 2 rfl) ?_
      refine lv_aload_n hx hb dX0_shaken_5 rfl (lv_at hl 0 rfl) ?_
      refine xg_w hC hK hP dX0_shaken_6 ?_
      refine lv_icmp_ge (tgt := 29) hx hb dX0_shaken_9 (by decide) (fun c_9 => ?_) (fun c_9 => ?_)
      · have nc_9 : w ≤ j := nn_le (by omega) c_9
        refine lv_iload_n hx hb dX0_shaken_29 rfl (lv_at hl 1 rfl) ?_
        exact W.iret (v := x) hx hb hr (fun t ht hW => ⟨x, rfl, (by rw [ex, show j = w by omega]), ht⟩) (fun q hq => absurd hq List.not_mem_nil) dX0_shaken_30
      · have nc_9 : j < w := nn_nle (by omega) c_9
        refine lv_aload_n hx hb dX0_shaken_12 rfl (lv_at hl 0 rfl) ?_
        refine lv_iload_n hx hb dX0_shaken_13 rfl (lv_at hl 2 rfl) ?_
        refine k_X0_isShaken hC hK hP hl.1 ⟨Nat.le_of_ble_eq_true rfl, Nat.le_of_ble_eq_true rfl⟩ ⟨Nat.zero_le _, Nat.zero_le _⟩ (Nat.le_of_ble_eq_true rfl) rfl (by omega) dX0_shaken_14 ?_
        refine lv_if_eq (tgt := 23) hx hb dX0_shaken_17 (by decide) (fun c_17 => ?_) (fun c_17 => ?_)
        · refine lv_iinc (v := nI (j + 1)) (lv' := [(2, .int (nI (j + 1))), (0, .ref (a 0)), (1, .int x)]) hx hb dX0_shaken_23 hl (k := 2) rfl (nI_1 _) (by decide) rfl (fun ls hl => ?_)
          refine lv_goto (tgt := 4) hx hb dX0_shaken_26 (by decide) ?_
          exact ih (j + 1) x (by omega) (by omega) (by simp [ex, sp_shk, c_17]) _ (lv_sub hl [1, 2, 0] rfl)
        · refine lv_iinc (v := x + 1) (lv' := [(1, .int (x + 1)), (0, .ref (a 0)), (2, .int (nI j))]) hx hb dX0_shaken_20 hl (k := 1) rfl rfl (by decide) rfl (fun ls hl => ?_)
          refine lv_iinc (v := nI (j + 1)) (lv' := [(2, .int (nI (j + 1))), (1, .int (x + 1)), (0, .ref (a 0))]) hx hb dX0_shaken_23 hl (k := 2) rfl (nI_1 _) (by decide) rfl (fun ls hl => ?_)
          refine lv_goto (tgt := 4) hx hb dX0_shaken_26 (by decide) ?_
          exact ih (j + 1) (x + 1) (by omega) (by omega) (by simp [ex, sp_shk, c_17]) _ (lv_sub hl [2, 1, 0] rfl)
  exact loop_4 (w + 1) 0 0 (Nat.zero_le _) (by omega) rfl _ (lv_sub hl [2, 1, 0] rfl)
set_option maxRecDepth 100000 in
theorem k_X0_shaken {p : Program} {l : Launch} {e : Env} {R : Room} {s : State} {m : MethodId} {args : Array Value} {below : List Frame} {meth : Method} {c : Code} {H : Heap} {locs : List Loc} {cells slots : Nat} {Q : State → Prop} {D : va_G} {z : ClassId × ClassId} {a : Nat → Nat} {lv lk pu fa he : Nat → Int32} {n : Nat} {nv du ta : Nat → Int32} {w : Nat} {mp mi : Nat → Int32} {k : Nat} {nt fu re : Int32} {cc : ByteArray} {nL pc : Nat} {ls : Array Slot} {rest : List Value} (hC : CallFix p m c cc nL s args lw_all RX0) (hK : kK D z s) (hP : va_P D vwCl (xW z a lv lk pu fa he n nv du ta w mp mi k nt fu re) H) (hl : ls.size = nL) (hR : 2 ≤ R.frames ∧ 43 ≤ R.locals) (hz : cells ≤ R.cells ∧ slots ≤ R.slots) (hr : (rest.map fun v => v.category).sum ≤ 8)   (hw : w ≤ 6) (hdg : decode cc pc = .ok (.invokevirtual 129, 3)) (kk : W p l e R s m args below meth c H locs cells slots Q (F0 m (pc + 3) ls (.int (sp_shk nv w) :: rest))) : W p l e R s m args below meth c H locs cells slots Q (F0 m pc ls (.ref (a 0) :: rest)) := by
  exact vp_callSi (W.runV (As := []) (rest := rest) hC (c_X0_shaken l hw) (cwV 0 hC.2.2.2.2 (gi_V mM_X0_129 mV_X0_shaken mS_X0_shaken mI_MissRegistry mC_X0_shaken) rfl rfl rfl (by decide +kernel) hR) (xpre hK hP) rfl rfl hl rfl (lv_room hr) hdg hz) (fun r hr => by rw [hr]; exact kk)
set_option maxHeartbeats 4000000 in
set_option maxRecDepth 100000 in
theorem c_X0_certified (l : Launch) {D : va_G} {z : ClassId × ClassId} {a : Nat → Nat} {lv lk pu fa he : Nat → Int32} {n : Nat} {nv du ta : Nat → Int32} {w : Nat} {mp mi : Nat → Int32} {k : Nat} {nt fu re : Int32} (hk : k ≤ 60) : Met l yX0_certified (ws_ yX0_certified cX0_certified 3 (some .int)) ({ frames := 0, cells := 0, slots := 0, locals := 0 } : Room) (va_Pc [.ref (a 0)] (xI D z a lv lk pu fa he n nv du ta w mp mi k nt fu re)) (vp_Si (fun r : Int32 => r = sp_cert mi k)) 0 0 (fun _ => False) := by
  refine Met.ofW (cc := cX0_certified) (maxL := 3) (ret := (some .int)) (by decide) rfl ?_
  intro p e s m args below meth c s₁ B hml hv
  obtain ⟨rfl, hP, hK⟩ := hv
  have hx := B.exec
  have hb := B.bytes
  have hr := B.returns
  have hts := atoms_spec (ws := ws_ yX0_certified cX0_certified 3 (some .int)) B.pre
  have hts : ∀ w ∈ lw_all, w.before _ s = true := fun w h => hts w (List.mem_cons_of_mem _ h)
  have hown : s.vm.findClass RX0 = some m.cls := findClass_of_methodNamed B.named
  have hlocks := B.notSynchronized
  have hC : CallFix p m c cX0_certified 3 s _ lw_all RX0 := ⟨hx, hb, hml, hown, hts⟩
  have hl := lv_entry ([.ref (a 0)]) (n := 3) (Nat.le_of_ble_eq_true rfl)
  rw [lg_entry_eq]
  generalize (lg_sl ([.ref (a 0)]) ++ List.replicate (3 - (lg_sl ([.ref (a 0)])).length) Slot.unset).toArray = ls at hl ⊢
  have hl : lv_has ls 3 [(0, .ref (a 0))] := hl
  refine lv_iconst (v := 0) hx hb dX0_certified_0 (by decide) ?_
  refine lv_istore_n (lv' := [(1, .int 0), (0, .ref (a 0))]) hx hb dX0_certified_1 rfl hl (by decide) rfl (fun ls hl => ?_)
  refine lv_iconst (v := 0) hx hb dX0_certified_2 (by decide) ?_
  refine lv_istore_n (lv' := [(2, .int 0), (1, .int 0), (0, .ref (a 0))]) hx hb dX0_certified_3 rfl hl (by decide) rfl (fun ls hl => ?_)
  have loop_4 : ∀ (f : Nat) (j : Nat) (x : Int32), j ≤ k → k + 1 ≤ j + f → x = sp_cert mi j → ∀ ls : Array Slot, lv_has ls 3 [(0, .ref (a 0)), (1, .int x), (2, .int (nI j))] → W p l e ({ frames := 0, cells := 0, slots := 0, locals := 0 } : Room) s m ([.ref (a 0)] : List Value).toArray below meth c s.heap [] 0 0 (MQ below (vp_Si (fun r : Int32 => r = sp_cert mi k)) ([.ref (a 0)] : List Value).toArray s 0 0 (fun _ => False)) (F0 m 4 ls []) := by
    intro f
    induction f with
    | zero =>
      intro j x hj hf ex
      exact absurd hf (by omega)
    | succ f ih =>
      intro j x hj hf ex ls hl
      refine lv_iload_n hx hb dX0_certified_4 rfl (lv_at hl 2 rfl) ?_
      refine lv_aload_n hx hb dX0_certified_5 rfl (lv_at hl 0 rfl) ?_
      refine xg_k hC hK hP dX0_certified_6 ?_
      refine lv_icmp_ge (tgt := 30) hx hb dX0_certified_9 (by decide) (fun c_9 => ?_) (fun c_9 => ?_)
      · have nc_9 : k ≤ j := nn_le (by omega) c_9
        refine lv_iload_n hx hb dX0_certified_30 rfl (lv_at hl 1 rfl) ?_
        exact W.iret (v := x) hx hb hr (fun t ht hW => ⟨x, rfl, (by rw [ex, show j = k by omega]), ht⟩) (fun q hq => absurd hq List.not_mem_nil) dX0_certified_31
      · have nc_9 : j < k := nn_nle (by omega) c_9
        refine lv_aload_n hx hb dX0_certified_12 rfl (lv_at hl 0 rfl) ?_
        refine xg_mi hC hK hP dX0_certified_13 ?_
        refine lv_iload_n hx hb dX0_certified_16 rfl (lv_at hl 2 rfl) ?_
        refine xl_mi hC hK hP j rfl (by omega) dX0_certified_17 ?_
        refine lv_if_le (tgt := 24) hx hb dX0_certified_18 (by decide) (fun c_18 => ?_) (fun c_18 => ?_)
        · refine lv_iinc (v := nI (j + 1)) (lv' := [(2, .int (nI (j + 1))), (0, .ref (a 0)), (1, .int x)]) hx hb dX0_certified_24 hl (k := 2) rfl (nI_1 _) (by decide) rfl (fun ls hl => ?_)
          refine lv_goto (tgt := 4) hx hb dX0_certified_27 (by decide) ?_
          exact ih (j + 1) x (by omega) (by omega) (by simp [ex, sp_cert, c_18]) _ (lv_sub hl [1, 2, 0] rfl)
        · refine lv_iinc (v := x + 1) (lv' := [(1, .int (x + 1)), (0, .ref (a 0)), (2, .int (nI j))]) hx hb dX0_certified_21 hl (k := 1) rfl rfl (by decide) rfl (fun ls hl => ?_)
          refine lv_iinc (v := nI (j + 1)) (lv' := [(2, .int (nI (j + 1))), (1, .int (x + 1)), (0, .ref (a 0))]) hx hb dX0_certified_24 hl (k := 2) rfl (nI_1 _) (by decide) rfl (fun ls hl => ?_)
          refine lv_goto (tgt := 4) hx hb dX0_certified_27 (by decide) ?_
          exact ih (j + 1) (x + 1) (by omega) (by omega) (by simp [ex, sp_cert, c_18]) _ (lv_sub hl [2, 1, 0] rfl)
  exact loop_4 (k + 1) 0 0 (Nat.zero_le _) (by omega) rfl _ (lv_sub hl [2, 1, 0] rfl)
set_option maxRecDepth 100000 in
theorem k_X0_certified {p : Program} {l : Launch} {e : Env} {R : Room} {s : State} {m : MethodId} {args : Array Value} {below : List Frame} {meth : Method} {c : Code} {H : Heap} {locs : List Loc} {cells slots : Nat} {Q : State → Prop} {D : va_G} {z : ClassId × ClassId} {a : Nat → Nat} {lv lk pu fa he : Nat → Int32} {n : Nat} {nv du ta : Nat → Int32} {w : Nat} {mp mi : Nat → Int32} {k : Nat} {nt fu re : Int32} {cc : ByteArray} {nL pc : Nat} {ls : Array Slot} {rest : List Value} (hC : CallFix p m c cc nL s args lw_all RX0) (hK : kK D z s) (hP : va_P D vwCl (xW z a lv lk pu fa he n nv du ta w mp mi k nt fu re) H) (hl : ls.size = nL) (hR : 1 ≤ R.frames ∧ 22 ≤ R.locals) (hz : cells ≤ R.cells ∧ slots ≤ R.slots) (hr : (rest.map fun v => v.category).sum ≤ 8)   (hk : k ≤ 60) (hdg : decode cc pc = .ok (.invokevirtual 254, 3)) (kk : W p l e R s m args below meth c H locs cells slots Q (F0 m (pc + 3) ls (.int (sp_cert mi k) :: rest))) : W p l e R s m args below meth c H locs cells slots Q (F0 m pc ls (.ref (a 0) :: rest)) := by
  exact vp_callSi (W.runV (As := []) (rest := rest) hC (c_X0_certified l hk) (cwV 0 hC.2.2.2.2 (gi_V mM_X0_254 mV_X0_certified mS_X0_certified mI_MissRegistry mC_X0_certified) rfl rfl rfl (by decide +kernel) hR) (xpre hK hP) rfl rfl hl rfl (lv_room hr) hdg hz) (fun r hr => by rw [hr]; exact kk)
set_option maxHeartbeats 4000000 in
set_option maxRecDepth 100000 in
theorem c_X0_steadiest (l : Launch) {D : va_G} {z : ClassId × ClassId} {a : Nat → Nat} {lv lk pu fa he : Nat → Int32} {n : Nat} {nv du ta : Nat → Int32} {w : Nat} {mp mi : Nat → Int32} {k : Nat} {nt fu re : Int32} (hw : w ≤ 6) : Met l yX0_steadiest (ws_ yX0_steadiest cX0_steadiest 4 (some .int)) ({ frames := 0, cells := 0, slots := 0, locals := 0 } : Room) (va_Pc [.ref (a 0)] (xI D z a lv lk pu fa he n nv du ta w mp mi k nt fu re)) (vp_Si (fun r : Int32 => r = (sp_best du nv w).1)) 0 0 (fun _ => False) := by
  refine Met.ofW (cc := cX0_steadiest) (maxL := 4) (ret := (some .int)) (by decide) rfl ?_
  intro p e s m args below meth c s₁ B hml hv
  obtain ⟨rfl, hP, hK⟩ := hv
  have hx := B.exec
  have hb := B.bytes
  have hr := B.returns
  have hts := atoms_spec (ws := ws_ yX0_steadiest cX0_steadiest 4 (some .int)) B.pre
  have hts : ∀ w ∈ lw_all, w.before _ s = true := fun w h => hts w (List.mem_cons_of_mem _ h)
  have hown : s.vm.findClass RX0 = some m.cls := findClass_of_methodNamed B.named
  have hlocks := B.notSynchronized
  have hC : CallFix p m c cX0_steadiest 4 s _ lw_all RX0 := ⟨hx, hb, hml, hown, hts⟩
  have hl := lv_entry ([.ref (a 0)]) (n := 4) (Nat.le_of_ble_eq_true rfl)
  rw [lg_entry_eq]
  generalize (lg_sl ([.ref (a 0)]) ++ List.replicate (4 - (lg_sl ([.ref (a 0)])).length) Slot.unset).toArray = ls at hl ⊢
  have hl : lv_has ls 4 [(0, .ref (a 0))] := hl
  refine lv_iconst (v := (-1)) hx hb dX0_steadiest_0 (by decide) ?_
  refine lv_istore_n (lv' := [(1, .int (-1)), (0, .ref (a 0))]) hx hb dX0_steadiest_1 rfl hl (by decide) rfl (fun ls hl => ?_)
  refine lv_iconst (v := (-1)) hx hb dX0_steadiest_2 (by decide) ?_
  refine lv_istore_n (lv' := [(2, .int (-1)), (1, .int (-1)), (0, .ref (a 0))]) hx hb dX0_steadiest_3 rfl hl (by decide) rfl (fun ls hl => ?_)
  refine lv_iconst (v := 0) hx hb dX0_steadiest_4 (by decide) ?_
  refine lv_istore_n (lv' := [(3, .int 0), (2, .int (-1)), (1, .int (-1)), (0, .ref (a 0))]) hx hb dX0_steadiest_5 rfl hl (by decide) rfl (fun ls hl => ?_)
  have loop_6 : ∀ (f : Nat) (j : Nat) (x : Int32) (y : Int32), j ≤ w → w + 1 ≤ j + f → x = (sp_best du nv j).1 → y = (sp_best du nv j).2 → ∀ ls : Array Slot, lv_has ls 4 [(0, .ref (a 0)), (1, .int x), (2, .int y), (3, .int (nI j))] → W p l e ({ frames := 0, cells := 0, slots := 0, locals := 0 } : Room) s m ([.ref (a 0)] : List Value).toArray below meth c s.heap [] 0 0 (MQ below (vp_Si (fun r : Int32 => r = (sp_best du nv w).1)) ([.ref (a 0)] : List Value).toArray s 0 0 (fun _ => False)) (F0 m 6 ls []) := by
    intro f
    induction f with
    | zero =>
      intro j x y hj hf ex ey
      exact absurd hf (by omega)
    | succ f ih =>
      intro j x y hj hf ex ey ls hl
      refine lv_iload_n hx hb dX0_steadiest_6 rfl (lv_at hl 3 rfl) ?_
      refine lv_aload_n hx hb dX0_steadiest_7 rfl (lv_at hl 0 rfl) ?_
      refine xg_w hC hK hP dX0_steadiest_8 ?_
      refine lv_icmp_ge (tgt := 48) hx hb dX0_steadiest_11 (by decide) (fun c_11 => ?_) (fun c_11 => ?_)
      · have nc_11 : w ≤ j := nn_le (by omega) c_11
        refine lv_iload_n hx hb dX0_steadiest_48 rfl (lv_at hl 1 rfl) ?_
        exact W.iret (v := x) hx hb hr (fun t ht hW => ⟨x, rfl, (by rw [ex, show j = w by omega]), ht⟩) (fun q hq => absurd hq List.not_mem_nil) dX0_steadiest_49
      · have nc_11 : j < w := nn_nle (by omega) c_11
        refine lv_aload_n hx hb dX0_steadiest_14 rfl (lv_at hl 0 rfl) ?_
        refine xg_du hC hK hP dX0_steadiest_15 ?_
        refine lv_iload_n hx hb dX0_steadiest_18 rfl (lv_at hl 3 rfl) ?_
        refine xl_du hC hK hP j rfl (by omega) dX0_steadiest_19 ?_
        refine lv_if_eq (tgt := 42) hx hb dX0_steadiest_20 (by decide) (fun c_20 => ?_) (fun c_20 => ?_)
        · refine lv_iinc (v := nI (j + 1)) (lv' := [(3, .int (nI (j + 1))), (0, .ref (a 0)), (1, .int x), (2, .int y)]) hx hb dX0_steadiest_42 hl (k := 3) rfl (nI_1 _) (by decide) rfl (fun ls hl => ?_)
          refine lv_goto (tgt := 6) hx hb dX0_steadiest_45 (by decide) ?_
          exact ih (j + 1) x y (by omega) (by omega) (by rw [ey] at *; simp [ex, sp_best, c_20]) (by rw [ey] at *; simp [ex, sp_best, c_20]) _ (lv_sub hl [1, 2, 3, 0] rfl)
        · refine lv_aload_n hx hb dX0_steadiest_23 rfl (lv_at hl 0 rfl) ?_
          refine xg_nv hC hK hP dX0_steadiest_24 ?_
          refine lv_iload_n hx hb dX0_steadiest_27 rfl (lv_at hl 3 rfl) ?_
          refine xl_nv hC hK hP j rfl (by omega) dX0_steadiest_28 ?_
          refine lv_iload_n hx hb dX0_steadiest_29 rfl (lv_at hl 2 rfl) ?_
          refine lv_icmp_le (tgt := 42) hx hb dX0_steadiest_30 (by decide) (fun c_30 => ?_) (fun c_30 => ?_)
          · refine lv_iinc (v := nI (j + 1)) (lv' := [(3, .int (nI (j + 1))), (0, .ref (a 0)), (1, .int x), (2, .int y)]) hx hb dX0_steadiest_42 hl (k := 3) rfl (nI_1 _) (by decide) rfl (fun ls hl => ?_)
            refine lv_goto (tgt := 6) hx hb dX0_steadiest_45 (by decide) ?_
            exact ih (j + 1) x y (by omega) (by omega) (by rw [ey] at *; simp [ex, sp_best, c_20, c_30]) (by rw [ey] at *; simp [ex, sp_best, c_20, c_30]) _ (lv_sub hl [1, 2, 3, 0] rfl)
          · refine lv_iload_n hx hb dX0_steadiest_33 rfl (lv_at hl 3 rfl) ?_
            refine lv_istore_n (lv' := [(1, .int (nI j)), (0, .ref (a 0)), (2, .int y), (3, .int (nI j))]) hx hb dX0_steadiest_34 rfl hl (by decide) rfl (fun ls hl => ?_)
            refine lv_aload_n hx hb dX0_steadiest_35 rfl (lv_at hl 1 rfl) ?_
            refine xg_nv hC hK hP dX0_steadiest_36 ?_
            refine lv_iload_n hx hb dX0_steadiest_39 rfl (lv_at hl 3 rfl) ?_
            refine xl_nv hC hK hP j rfl (by omega) dX0_steadiest_40 ?_
            refine lv_istore_n (lv' := [(2, .int (nv j)), (1, .int (nI j)), (0, .ref (a 0)), (3, .int (nI j))]) hx hb dX0_steadiest_41 rfl hl (by decide) rfl (fun ls hl => ?_)
            refine lv_iinc (v := nI (j + 1)) (lv' := [(3, .int (nI (j + 1))), (2, .int (nv j)), (1, .int (nI j)), (0, .ref (a 0))]) hx hb dX0_steadiest_42 hl (k := 3) rfl (nI_1 _) (by decide) rfl (fun ls hl => ?_)
            refine lv_goto (tgt := 6) hx hb dX0_steadiest_45 (by decide) ?_
            exact ih (j + 1) (nI j) (nv j) (by omega) (by omega) (by rw [ey] at *; simp [ex, sp_best, c_20, c_30]) (by rw [ey] at *; simp [ex, sp_best, c_20, c_30]) _ (lv_sub hl [3, 2, 1, 0] rfl)
  exact loop_6 (w + 1) 0 (-1) (-1) (Nat.zero_le _) (by omega) rfl rfl _ (lv_sub hl [3, 2, 1, 0] rfl)
set_option maxRecDepth 100000 in
theorem k_X0_steadiest {p : Program} {l : Launch} {e : Env} {R : Room} {s : State} {m : MethodId} {args : Array Value} {below : List Frame} {meth : Method} {c : Code} {H : Heap} {locs : List Loc} {cells slots : Nat} {Q : State → Prop} {D : va_G} {z : ClassId × ClassId} {a : Nat → Nat} {lv lk pu fa he : Nat → Int32} {n : Nat} {nv du ta : Nat → Int32} {w : Nat} {mp mi : Nat → Int32} {k : Nat} {nt fu re : Int32} {cc : ByteArray} {nL pc : Nat} {ls : Array Slot} {rest : List Value} (hC : CallFix p m c cc nL s args lw_all RX0) (hK : kK D z s) (hP : va_P D vwCl (xW z a lv lk pu fa he n nv du ta w mp mi k nt fu re) H) (hl : ls.size = nL) (hR : 1 ≤ R.frames ∧ 23 ≤ R.locals) (hz : cells ≤ R.cells ∧ slots ≤ R.slots) (hr : (rest.map fun v => v.category).sum ≤ 8)   (hw : w ≤ 6) (hdg : decode cc pc = .ok (.invokevirtual 154, 3)) (kk : W p l e R s m args below meth c H locs cells slots Q (F0 m (pc + 3) ls (.int ((sp_best du nv w).1) :: rest))) : W p l e R s m args below meth c H locs cells slots Q (F0 m pc ls (.ref (a 0) :: rest)) := by
  exact vp_callSi (W.runV (As := []) (rest := rest) hC (c_X0_steadiest l hw) (cwV 0 hC.2.2.2.2 (gi_V mM_X0_154 mV_X0_steadiest mS_X0_steadiest mI_MissRegistry mC_X0_steadiest) rfl rfl rfl (by decide +kernel) hR) (xpre hK hP) rfl rfl hl rfl (lv_room hr) hdg hz) (fun r hr => by rw [hr]; exact kk)
set_option maxHeartbeats 4000000 in
set_option maxRecDepth 100000 in
theorem c_X0_luckiest (l : Launch) {D : va_G} {z : ClassId × ClassId} {a : Nat → Nat} {lv lk pu fa he : Nat → Int32} {n : Nat} {nv du ta : Nat → Int32} {w : Nat} {mp mi : Nat → Int32} {k : Nat} {nt fu re : Int32} (hn : n ≤ 10) : Met l yX0_luckiest (ws_ yX0_luckiest cX0_luckiest 4 (some .int)) ({ frames := 0, cells := 0, slots := 0, locals := 0 } : Room) (va_Pc [.ref (a 0)] (xI D z a lv lk pu fa he n nv du ta w mp mi k nt fu re)) (vp_Si (fun r : Int32 => r = (sp_best lv lk n).1)) 0 0 (fun _ => False) := by
  refine Met.ofW (cc := cX0_luckiest) (maxL := 4) (ret := (some .int)) (by decide) rfl ?_
  intro p e s m args below meth c s₁ B hml hv
  obtain ⟨rfl, hP, hK⟩ := hv
  have hx := B.exec
  have hb := B.bytes
  have hr := B.returns
  have hts := atoms_spec (ws := ws_ yX0_luckiest cX0_luckiest 4 (some .int)) B.pre
  have hts : ∀ w ∈ lw_all, w.before _ s = true := fun w h => hts w (List.mem_cons_of_mem _ h)
  have hown : s.vm.findClass RX0 = some m.cls := findClass_of_methodNamed B.named
  have hlocks := B.notSynchronized
  have hC : CallFix p m c cX0_luckiest 4 s _ lw_all RX0 := ⟨hx, hb, hml, hown, hts⟩
  have hl := lv_entry ([.ref (a 0)]) (n := 4) (Nat.le_of_ble_eq_true rfl)
  rw [lg_entry_eq]
  generalize (lg_sl ([.ref (a 0)]) ++ List.replicate (4 - (lg_sl ([.ref (a 0)])).length) Slot.unset).toArray = ls at hl ⊢
  have hl : lv_has ls 4 [(0, .ref (a 0))] := hl
  refine lv_iconst (v := (-1)) hx hb dX0_luckiest_0 (by decide) ?_
  refine lv_istore_n (lv' := [(1, .int (-1)), (0, .ref (a 0))]) hx hb dX0_luckiest_1 rfl hl (by decide) rfl (fun ls hl => ?_)
  refine lv_iconst (v := (-1)) hx hb dX0_luckiest_2 (by decide) ?_
  refine lv_istore_n (lv' := [(2, .int (-1)), (1, .int (-1)), (0, .ref (a 0))]) hx hb dX0_luckiest_3 rfl hl (by decide) rfl (fun ls hl => ?_)
  refine lv_iconst (v := 0) hx hb dX0_luckiest_4 (by decide) ?_
  refine lv_istore_n (lv' := [(3, .int 0), (2, .int (-1)), (1, .int (-1)), (0, .ref (a 0))]) hx hb dX0_luckiest_5 rfl hl (by decide) rfl (fun ls hl => ?_)
  have loop_6 : ∀ (f : Nat) (j : Nat) (x : Int32) (y : Int32), j ≤ n → n + 1 ≤ j + f → x = (sp_best lv lk j).1 → y = (sp_best lv lk j).2 → ∀ ls : Array Slot, lv_has ls 4 [(0, .ref (a 0)), (1, .int x), (2, .int y), (3, .int (nI j))] → W p l e ({ frames := 0, cells := 0, slots := 0, locals := 0 } : Room) s m ([.ref (a 0)] : List Value).toArray below meth c s.heap [] 0 0 (MQ below (vp_Si (fun r : Int32 => r = (sp_best lv lk n).1)) ([.ref (a 0)] : List Value).toArray s 0 0 (fun _ => False)) (F0 m 6 ls []) := by
    intro f
    induction f with
    | zero =>
      intro j x y hj hf ex ey
      exact absurd hf (by omega)
    | succ f ih =>
      intro j x y hj hf ex ey ls hl
      refine lv_iload_n hx hb dX0_luckiest_6 rfl (lv_at hl 3 rfl) ?_
      refine lv_aload_n hx hb dX0_luckiest_7 rfl (lv_at hl 0 rfl) ?_
      refine xg_n hC hK hP dX0_luckiest_8 ?_
      refine lv_icmp_ge (tgt := 48) hx hb dX0_luckiest_11 (by decide) (fun c_11 => ?_) (fun c_11 => ?_)
      · have nc_11 : n ≤ j := nn_le (by omega) c_11
        refine lv_iload_n hx hb dX0_luckiest_48 rfl (lv_at hl 1 rfl) ?_
        exact W.iret (v := x) hx hb hr (fun t ht hW => ⟨x, rfl, (by rw [ex, show j = n by omega]), ht⟩) (fun q hq => absurd hq List.not_mem_nil) dX0_luckiest_49
      · have nc_11 : j < n := nn_nle (by omega) c_11
        refine lv_aload_n hx hb dX0_luckiest_14 rfl (lv_at hl 0 rfl) ?_
        refine xg_lv hC hK hP dX0_luckiest_15 ?_
        refine lv_iload_n hx hb dX0_luckiest_18 rfl (lv_at hl 3 rfl) ?_
        refine xl_lv hC hK hP j rfl (by omega) dX0_luckiest_19 ?_
        refine lv_if_eq (tgt := 42) hx hb dX0_luckiest_20 (by decide) (fun c_20 => ?_) (fun c_20 => ?_)
        · refine lv_iinc (v := nI (j + 1)) (lv' := [(3, .int (nI (j + 1))), (0, .ref (a 0)), (1, .int x), (2, .int y)]) hx hb dX0_luckiest_42 hl (k := 3) rfl (nI_1 _) (by decide) rfl (fun ls hl => ?_)
          refine lv_goto (tgt := 6) hx hb dX0_luckiest_45 (by decide) ?_
          exact ih (j + 1) x y (by omega) (by omega) (by rw [ey] at *; simp [ex, sp_best, c_20]) (by rw [ey] at *; simp [ex, sp_best, c_20]) _ (lv_sub hl [1, 2, 3, 0] rfl)
        · refine lv_aload_n hx hb dX0_luckiest_23 rfl (lv_at hl 0 rfl) ?_
          refine xg_lk hC hK hP dX0_luckiest_24 ?_
          refine lv_iload_n hx hb dX0_luckiest_27 rfl (lv_at hl 3 rfl) ?_
          refine xl_lk hC hK hP j rfl (by omega) dX0_luckiest_28 ?_
          refine lv_iload_n hx hb dX0_luckiest_29 rfl (lv_at hl 2 rfl) ?_
          refine lv_icmp_le (tgt := 42) hx hb dX0_luckiest_30 (by decide) (fun c_30 => ?_) (fun c_30 => ?_)
          · refine lv_iinc (v := nI (j + 1)) (lv' := [(3, .int (nI (j + 1))), (0, .ref (a 0)), (1, .int x), (2, .int y)]) hx hb dX0_luckiest_42 hl (k := 3) rfl (nI_1 _) (by decide) rfl (fun ls hl => ?_)
            refine lv_goto (tgt := 6) hx hb dX0_luckiest_45 (by decide) ?_
            exact ih (j + 1) x y (by omega) (by omega) (by rw [ey] at *; simp [ex, sp_best, c_20, c_30]) (by rw [ey] at *; simp [ex, sp_best, c_20, c_30]) _ (lv_sub hl [1, 2, 3, 0] rfl)
          · refine lv_iload_n hx hb dX0_luckiest_33 rfl (lv_at hl 3 rfl) ?_
            refine lv_istore_n (lv' := [(1, .int (nI j)), (0, .ref (a 0)), (2, .int y), (3, .int (nI j))]) hx hb dX0_luckiest_34 rfl hl (by decide) rfl (fun ls hl => ?_)
            refine lv_aload_n hx hb dX0_luckiest_35 rfl (lv_at hl 1 rfl) ?_
            refine xg_lk hC hK hP dX0_luckiest_36 ?_
            refine lv_iload_n hx hb dX0_luckiest_39 rfl (lv_at hl 3 rfl) ?_
            refine xl_lk hC hK hP j rfl (by omega) dX0_luckiest_40 ?_
            refine lv_istore_n (lv' := [(2, .int (lk j)), (1, .int (nI j)), (0, .ref (a 0)), (3, .int (nI j))]) hx hb dX0_luckiest_41 rfl hl (by decide) rfl (fun ls hl => ?_)
            refine lv_iinc (v := nI (j + 1)) (lv' := [(3, .int (nI (j + 1))), (2, .int (lk j)), (1, .int (nI j)), (0, .ref (a 0))]) hx hb dX0_luckiest_42 hl (k := 3) rfl (nI_1 _) (by decide) rfl (fun ls hl => ?_)
            refine lv_goto (tgt := 6) hx hb dX0_luckiest_45 (by decide) ?_
            exact ih (j + 1) (nI j) (lk j) (by omega) (by omega) (by rw [ey] at *; simp [ex, sp_best, c_20, c_30]) (by rw [ey] at *; simp [ex, sp_best, c_20, c_30]) _ (lv_sub hl [3, 2, 1, 0] rfl)
  exact loop_6 (n + 1) 0 (-1) (-1) (Nat.zero_le _) (by omega) rfl rfl _ (lv_sub hl [3, 2, 1, 0] rfl)
set_option maxRecDepth 100000 in
theorem k_X0_luckiest {p : Program} {l : Launch} {e : Env} {R : Room} {s : State} {m : MethodId} {args : Array Value} {below : List Frame} {meth : Method} {c : Code} {H : Heap} {locs : List Loc} {cells slots : Nat} {Q : State → Prop} {D : va_G} {z : ClassId × ClassId} {a : Nat → Nat} {lv lk pu fa he : Nat → Int32} {n : Nat} {nv du ta : Nat → Int32} {w : Nat} {mp mi : Nat → Int32} {k : Nat} {nt fu re : Int32} {cc : ByteArray} {nL pc : Nat} {ls : Array Slot} {rest : List Value} (hC : CallFix p m c cc nL s args lw_all RX0) (hK : kK D z s) (hP : va_P D vwCl (xW z a lv lk pu fa he n nv du ta w mp mi k nt fu re) H) (hl : ls.size = nL) (hR : 1 ≤ R.frames ∧ 23 ≤ R.locals) (hz : cells ≤ R.cells ∧ slots ≤ R.slots) (hr : (rest.map fun v => v.category).sum ≤ 8)   (hn : n ≤ 10) (hdg : decode cc pc = .ok (.invokevirtual 266, 3)) (kk : W p l e R s m args below meth c H locs cells slots Q (F0 m (pc + 3) ls (.int ((sp_best lv lk n).1) :: rest))) : W p l e R s m args below meth c H locs cells slots Q (F0 m pc ls (.ref (a 0) :: rest)) := by
  exact vp_callSi (W.runV (As := []) (rest := rest) hC (c_X0_luckiest l hn) (cwV 0 hC.2.2.2.2 (gi_V mM_X0_266 mV_X0_luckiest mS_X0_luckiest mI_MissRegistry mC_X0_luckiest) rfl rfl rfl (by decide +kernel) hR) (xpre hK hP) rfl rfl hl rfl (lv_room hr) hdg hz) (fun r hr => by rw [hr]; exact kk)
set_option maxHeartbeats 4000000 in
set_option maxRecDepth 100000 in
theorem c_X0_nightsUntilCalm (l : Launch) {D : va_G} {z : ClassId × ClassId} {a : Nat → Nat} {lv lk pu fa he : Nat → Int32} {n : Nat} {nv du ta : Nat → Int32} {w : Nat} {mp mi : Nat → Int32} {k : Nat} {nt fu re : Int32} (hw : w ≤ 6) : Met l yX0_nightsUntilCalm (ws_ yX0_nightsUntilCalm cX0_nightsUntilCalm 3 (some .int)) ({ frames := 2, cells := 0, slots := 0, locals := 43 } : Room) (va_Pc [.ref (a 0)] (xI D z a lv lk pu fa he n nv du ta w mp mi k nt fu re)) (vp_Si (fun r : Int32 => r = sp_nuc nv du w)) 0 0 (fun _ => False) := by
  refine Met.ofW (cc := cX0_nightsUntilCalm) (maxL := 3) (ret := (some .int)) (by decide) rfl ?_
  intro p e s m args below meth c s₁ B hml hv
  obtain ⟨rfl, hP, hK⟩ := hv
  have hx := B.exec
  have hb := B.bytes
  have hr := B.returns
  have hts := atoms_spec (ws := ws_ yX0_nightsUntilCalm cX0_nightsUntilCalm 3 (some .int)) B.pre
  have hts : ∀ w ∈ lw_all, w.before _ s = true := fun w h => hts w (List.mem_cons_of_mem _ h)
  have hown : s.vm.findClass RX0 = some m.cls := findClass_of_methodNamed B.named
  have hlocks := B.notSynchronized
  have hC : CallFix p m c cX0_nightsUntilCalm 3 s _ lw_all RX0 := ⟨hx, hb, hml, hown, hts⟩
  have hl := lv_entry ([.ref (a 0)]) (n := 3) (Nat.le_of_ble_eq_true rfl)
  rw [lg_entry_eq]
  generalize (lg_sl ([.ref (a 0)]) ++ List.replicate (3 - (lg_sl ([.ref (a 0)])).length) Slot.unset).toArray = ls at hl ⊢
  have hl : lv_has ls 3 [(0, .ref (a 0))] := hl
  refine lv_iconst (v := 0) hx hb dX0_nightsUntilCalm_0 (by decide) ?_
  refine lv_istore_n (lv' := [(1, .int 0), (0, .ref (a 0))]) hx hb dX0_nightsUntilCalm_1 rfl hl (by decide) rfl (fun ls hl => ?_)
  refine lv_iconst (v := 0) hx hb dX0_nightsUntilCalm_2 (by decide) ?_
  refine lv_istore_n (lv' := [(2, .int 0), (1, .int 0), (0, .ref (a 0))]) hx hb dX0_nightsUntilCalm_3 rfl hl (by decide) rfl (fun ls hl => ?_)
  have loop_4 : ∀ (f : Nat) (j : Nat) (x : Int32), j ≤ w → w + 1 ≤ j + f → x = sp_nuc nv du j → ∀ ls : Array Slot, lv_has ls 3 [(0, .ref (a 0)), (1, .int x), (2, .int (nI j))] → W p l e ({ frames := 2, cells := 0, slots := 0, locals := 43 } : Room) s m ([.ref (a 0)] : List Value).toArray below meth c s.heap [] 0 0 (MQ below (vp_Si (fun r : Int32 => r = sp_nuc nv du w)) ([.ref (a 0)] : List Value).toArray s 0 0 (fun _ => False)) (F0 m 4 ls []) := by
    intro f
    induction f with
    | zero =>
      intro j x hj hf ex
      exact absurd hf (by omega)
    | succ f ih =>
      intro j x hj hf ex ls hl
      refine lv_iload_n hx hb dX0_nightsUntilCalm_4 rfl (lv_at hl 2 rfl) ?_
      refine lv_aload_n hx hb dX0_nightsUntilCalm_5 rfl (lv_at hl 0 rfl) ?_
      refine xg_w hC hK hP dX0_nightsUntilCalm_6 ?_
      refine lv_icmp_ge (tgt := 28) hx hb dX0_nightsUntilCalm_9 (by decide) (fun c_9 => ?_) (fun c_9 => ?_)
      · have nc_9 : w ≤ j := nn_le (by omega) c_9
        refine lv_iload_n hx hb dX0_nightsUntilCalm_28 rfl (lv_at hl 1 rfl) ?_
        exact W.iret (v := x) hx hb hr (fun t ht hW => ⟨x, rfl, (by rw [ex, show j = w by omega]), ht⟩) (fun q hq => absurd hq List.not_mem_nil) dX0_nightsUntilCalm_29
      · have nc_9 : j < w := nn_nle (by omega) c_9
        refine lv_iload_n hx hb dX0_nightsUntilCalm_12 rfl (lv_at hl 1 rfl) ?_
        refine lv_aload_n hx hb dX0_nightsUntilCalm_13 rfl (lv_at hl 0 rfl) ?_
        refine lv_iload_n hx hb dX0_nightsUntilCalm_14 rfl (lv_at hl 2 rfl) ?_
        refine k_X0_nightsToCalm hC hK hP hl.1 ⟨Nat.le_of_ble_eq_true rfl, Nat.le_of_ble_eq_true rfl⟩ ⟨Nat.zero_le _, Nat.zero_le _⟩ (Nat.le_of_ble_eq_true rfl) rfl (by omega) dX0_nightsUntilCalm_15 ?_
        refine va_mmax hx hb (hml.trans hl.1.symm) hown (hts _ mM_X0_102) (hts _ mT_max) (hts _ mI_Math) (hts _ mC_max) (Nat.le_of_ble_eq_true rfl) (Nat.le_of_ble_eq_true rfl) (Nat.zero_le _) (Nat.zero_le _) dX0_nightsUntilCalm_18 ?_
        refine lv_istore_n (lv' := [(1, .int (imax x (sp_calm (nv j) (du j)))), (0, .ref (a 0)), (2, .int (nI j))]) hx hb dX0_nightsUntilCalm_21 rfl hl (by decide) rfl (fun ls hl => ?_)
        refine lv_iinc (v := nI (j + 1)) (lv' := [(2, .int (nI (j + 1))), (1, .int (imax x (sp_calm (nv j) (du j)))), (0, .ref (a 0))]) hx hb dX0_nightsUntilCalm_22 hl (k := 2) rfl (nI_1 _) (by decide) rfl (fun ls hl => ?_)
        refine lv_goto (tgt := 4) hx hb dX0_nightsUntilCalm_25 (by decide) ?_
        exact ih (j + 1) (imax x (sp_calm (nv j) (du j))) (by omega) (by omega) (by simp [ex, sp_nuc]) _ (lv_sub hl [2, 1, 0] rfl)
  exact loop_4 (w + 1) 0 0 (Nat.zero_le _) (by omega) rfl _ (lv_sub hl [2, 1, 0] rfl)
set_option maxRecDepth 100000 in
theorem k_X0_nightsUntilCalm {p : Program} {l : Launch} {e : Env} {R : Room} {s : State} {m : MethodId} {args : Array Value} {below : List Frame} {meth : Method} {c : Code} {H : Heap} {locs : List Loc} {cells slots : Nat} {Q : State → Prop} {D : va_G} {z : ClassId × ClassId} {a : Nat → Nat} {lv lk pu fa he : Nat → Int32} {n : Nat} {nv du ta : Nat → Int32} {w : Nat} {mp mi : Nat → Int32} {k : Nat} {nt fu re : Int32} {cc : ByteArray} {nL pc : Nat} {ls : Array Slot} {rest : List Value} (hC : CallFix p m c cc nL s args lw_all RX0) (hK : kK D z s) (hP : va_P D vwCl (xW z a lv lk pu fa he n nv du ta w mp mi k nt fu re) H) (hl : ls.size = nL) (hR : 3 ≤ R.frames ∧ 65 ≤ R.locals) (hz : cells ≤ R.cells ∧ slots ≤ R.slots) (hr : (rest.map fun v => v.category).sum ≤ 8)   (hw : w ≤ 6) (hdg : decode cc pc = .ok (.invokevirtual 263, 3)) (kk : W p l e R s m args below meth c H locs cells slots Q (F0 m (pc + 3) ls (.int (sp_nuc nv du w) :: rest))) : W p l e R s m args below meth c H locs cells slots Q (F0 m pc ls (.ref (a 0) :: rest)) := by
  exact vp_callSi (W.runV (As := []) (rest := rest) hC (c_X0_nightsUntilCalm l hw) (cwV 0 hC.2.2.2.2 (gi_V mM_X0_263 mV_X0_nightsUntilCalm mS_X0_nightsUntilCalm mI_MissRegistry mC_X0_nightsUntilCalm) rfl rfl rfl (by decide +kernel) hR) (xpre hK hP) rfl rfl hl rfl (lv_room hr) hdg hz) (fun r hr => by rw [hr]; exact kk)
set_option maxHeartbeats 4000000 in
set_option maxRecDepth 100000 in
theorem c_X0_mix (l : Launch) (x y : Int64) : Met l yX0_mix (ws_ yX0_mix cX0_mix 4 (some .long)) ({ frames := 0, cells := 0, slots := 0, locals := 0 } : Room) (va_Pc [.long x, .long y] (fun _ => True)) (vp_Sl (fun r : Int64 => r = sp_mix x y)) 0 0 (fun _ => False) := by
  refine Met.ofW (cc := cX0_mix) (maxL := 4) (ret := (some .long)) (by decide) rfl ?_
  intro p e s m args below meth c s₁ B hml hv
  obtain ⟨rfl, -⟩ := hv
  have hx := B.exec
  have hb := B.bytes
  have hr := B.returns
  have hts := atoms_spec (ws := ws_ yX0_mix cX0_mix 4 (some .long)) B.pre
  have hts : ∀ w ∈ lw_all, w.before _ s = true := fun w h => hts w (List.mem_cons_of_mem _ h)
  have hown : s.vm.findClass RX0 = some m.cls := findClass_of_methodNamed B.named
  have hlocks := B.notSynchronized
  have hC : CallFix p m c cX0_mix 4 s _ lw_all RX0 := ⟨hx, hb, hml, hown, hts⟩
  have hl := lv_entry ([.long x, .long y]) (n := 4) (Nat.le_of_ble_eq_true rfl)
  rw [lg_entry_eq]
  generalize (lg_sl ([.long x, .long y]) ++ List.replicate (4 - (lg_sl ([.long x, .long y])).length) Slot.unset).toArray = ls at hl ⊢
  have hl : lv_has ls 4 [(0, .long x), (2, .long y)] := hl
  refine lv_lload_n hx hb dX0_mix_0 rfl (lv_at hl 0 rfl) ?_
  refine lv_ldc2 (v := 31) hx hb hown (hts _ mL_X0_231) dX0_mix_1 ?_
  refine lv_lmul hx hb dX0_mix_4 ?_
  refine lv_lload_n hx hb dX0_mix_5 rfl (lv_at hl 1 rfl) ?_
  refine lv_ladd hx hb dX0_mix_6 ?_
  exact W.lret (v := (x * 31) + y) hx hb hr (fun t ht hW => ⟨(x * 31) + y, rfl, (by unfold sp_mix; rfl), ht⟩) (fun q hq => absurd hq List.not_mem_nil) dX0_mix_7
set_option maxRecDepth 100000 in
theorem k_X0_mix {p : Program} {l : Launch} {e : Env} {R : Room} {s : State} {m : MethodId} {args : Array Value} {below : List Frame} {meth : Method} {c : Code} {H : Heap} {locs : List Loc} {cells slots : Nat} {Q : State → Prop} {cc : ByteArray} {nL pc : Nat} {ls : Array Slot} {rest : List Value} (hC : CallFix p m c cc nL s args lw_all RX0) (hl : ls.size = nL) (hR : 1 ≤ R.frames ∧ 23 ≤ R.locals) (hz : cells ≤ R.cells ∧ slots ≤ R.slots) (hr : (rest.map fun v => v.category).sum ≤ 8) {x : Int64} {y : Int64}   (hdg : decode cc pc = .ok (.invokestatic 173, 3)) (kk : W p l e R s m args below meth c H locs cells slots Q (F0 m (pc + 3) ls (.long (sp_mix x y) :: rest))) : W p l e R s m args below meth c H locs cells slots Q (F0 m pc ls (.long y :: .long x :: rest)) := by
  exact vp_callSl (W.runS (As := [.long x, .long y]) (rest := rest) hC (c_X0_mix l x y) (va_cwS 2 hC.2.2.2.2 (gi_S mM_X0_173 mT_X0_mix mI_MissRegistry mC_X0_mix) rfl rfl rfl (by decide +kernel) hR) ⟨fun _ _ _ _ q => q, fun U hU hW => ⟨rfl, trivial⟩⟩ rfl rfl hl rfl (lv_room hr) hdg hz) (fun r hr => by rw [hr]; exact kk)
set_option maxHeartbeats 4000000 in
set_option maxRecDepth 100000 in
theorem c_X0_asNumber (l : Launch) (b : Int32) : Met l yX0_asNumber (ws_ yX0_asNumber cX0_asNumber 1 (some .int)) ({ frames := 0, cells := 0, slots := 0, locals := 0 } : Room) (va_Pc [.int b] (fun _ => True)) (vp_Si (fun r : Int32 => r = sp_bit b)) 0 0 (fun _ => False) := by
  refine Met.ofW (cc := cX0_asNumber) (maxL := 1) (ret := (some .int)) (by decide) rfl ?_
  intro p e s m args below meth c s₁ B hml hv
  obtain ⟨rfl, -⟩ := hv
  have hx := B.exec
  have hb := B.bytes
  have hr := B.returns
  have hts := atoms_spec (ws := ws_ yX0_asNumber cX0_asNumber 1 (some .int)) B.pre
  have hts : ∀ w ∈ lw_all, w.before _ s = true := fun w h => hts w (List.mem_cons_of_mem _ h)
  have hown : s.vm.findClass RX0 = some m.cls := findClass_of_methodNamed B.named
  have hlocks := B.notSynchronized
  have hC : CallFix p m c cX0_asNumber 1 s _ lw_all RX0 := ⟨hx, hb, hml, hown, hts⟩
  have hl := lv_entry ([.int b]) (n := 1) (Nat.le_of_ble_eq_true rfl)
  rw [lg_entry_eq]
  generalize (lg_sl ([.int b]) ++ List.replicate (1 - (lg_sl ([.int b])).length) Slot.unset).toArray = ls at hl ⊢
  have hl : lv_has ls 1 [(0, .int b)] := hl
  refine lv_iload_n hx hb dX0_asNumber_0 rfl (lv_at hl 0 rfl) ?_
  refine lv_if_eq (tgt := 8) hx hb dX0_asNumber_1 (by decide) (fun c_1 => ?_) (fun c_1 => ?_)
  · refine lv_iconst (v := 0) hx hb dX0_asNumber_8 (by decide) ?_
    exact W.iret (v := 0) hx hb hr (fun t ht hW => ⟨0, rfl, (by simp [sp_bit, c_1]), ht⟩) (fun q hq => absurd hq List.not_mem_nil) dX0_asNumber_9
  · refine lv_iconst (v := 1) hx hb dX0_asNumber_4 (by decide) ?_
    refine lv_goto (tgt := 9) hx hb dX0_asNumber_5 (by decide) ?_
    exact W.iret (v := 1) hx hb hr (fun t ht hW => ⟨1, rfl, (by simp [sp_bit, c_1]), ht⟩) (fun q hq => absurd hq List.not_mem_nil) dX0_asNumber_9
set_option maxRecDepth 100000 in
theorem k_X0_asNumber {p : Program} {l : Launch} {e : Env} {R : Room} {s : State} {m : MethodId} {args : Array Value} {below : List Frame} {meth : Method} {c : Code} {H : Heap} {locs : List Loc} {cells slots : Nat} {Q : State → Prop} {cc : ByteArray} {nL pc : Nat} {ls : Array Slot} {rest : List Value} (hC : CallFix p m c cc nL s args lw_all RX0) (hl : ls.size = nL) (hR : 1 ≤ R.frames ∧ 20 ≤ R.locals) (hz : cells ≤ R.cells ∧ slots ≤ R.slots) (hr : (rest.map fun v => v.category).sum ≤ 8) {b : Int32}   (hdg : decode cc pc = .ok (.invokestatic 177, 3)) (kk : W p l e R s m args below meth c H locs cells slots Q (F0 m (pc + 3) ls (.int (sp_bit b) :: rest))) : W p l e R s m args below meth c H locs cells slots Q (F0 m pc ls (.int b :: rest)) := by
  exact vp_callSi (W.runS (As := [.int b]) (rest := rest) hC (c_X0_asNumber l b) (va_cwS 1 hC.2.2.2.2 (gi_S mM_X0_177 mT_X0_asNumber mI_MissRegistry mC_X0_asNumber) rfl rfl rfl (by decide +kernel) hR) ⟨fun _ _ _ _ q => q, fun U hU hW => ⟨rfl, trivial⟩⟩ rfl rfl hl rfl (lv_room hr) hdg hz) (fun r hr => by rw [hr]; exact kk)
set_option maxHeartbeats 4000000 in
set_option maxRecDepth 100000 in
theorem c_X0_sealNumber (l : Launch) (x y : Int32) : Met l yX0_sealNumber (ws_ yX0_sealNumber cX0_sealNumber 2 (some .int)) ({ frames := 0, cells := 0, slots := 0, locals := 0 } : Room) (va_Pc [.int x, .int y] (fun _ => True)) (vp_Si (fun r : Int32 => r = sp_num x y)) 0 0 (fun _ => False) := by
  refine Met.ofW (cc := cX0_sealNumber) (maxL := 2) (ret := (some .int)) (by decide) rfl ?_
  intro p e s m args below meth c s₁ B hml hv
  obtain ⟨rfl, -⟩ := hv
  have hx := B.exec
  have hb := B.bytes
  have hr := B.returns
  have hts := atoms_spec (ws := ws_ yX0_sealNumber cX0_sealNumber 2 (some .int)) B.pre
  have hts : ∀ w ∈ lw_all, w.before _ s = true := fun w h => hts w (List.mem_cons_of_mem _ h)
  have hown : s.vm.findClass RX0 = some m.cls := findClass_of_methodNamed B.named
  have hlocks := B.notSynchronized
  have hC : CallFix p m c cX0_sealNumber 2 s _ lw_all RX0 := ⟨hx, hb, hml, hown, hts⟩
  have hl := lv_entry ([.int x, .int y]) (n := 2) (Nat.le_of_ble_eq_true rfl)
  rw [lg_entry_eq]
  generalize (lg_sl ([.int x, .int y]) ++ List.replicate (2 - (lg_sl ([.int x, .int y])).length) Slot.unset).toArray = ls at hl ⊢
  have hl : lv_has ls 2 [(0, .int x), (1, .int y)] := hl
  refine lv_iload_n hx hb dX0_sealNumber_0 rfl (lv_at hl 1 rfl) ?_
  refine lv_bipush (v := 10) hx hb dX0_sealNumber_1 (by decide) ?_
  refine lv_icmp_lt (tgt := 19) hx hb dX0_sealNumber_3 (by decide) (fun c_3 => ?_) (fun c_3 => ?_)
  · refine lv_iload_n hx hb dX0_sealNumber_19 rfl (lv_at hl 0 rfl) ?_
    refine lv_bipush (v := 31) hx hb dX0_sealNumber_20 (by decide) ?_
    refine lv_imul hx hb dX0_sealNumber_22 ?_
    refine lv_bipush (v := 48) hx hb dX0_sealNumber_23 (by decide) ?_
    refine lv_iadd hx hb dX0_sealNumber_25 ?_
    refine lv_iload_n hx hb dX0_sealNumber_26 rfl (lv_at hl 1 rfl) ?_
    refine lv_bipush (v := 10) hx hb dX0_sealNumber_27 (by decide) ?_
    refine lv_irem hx hb dX0_sealNumber_29 (by decide) ?_
    refine lv_iadd hx hb dX0_sealNumber_30 ?_
    exact W.iret (v := ((x * 31) + 48) + (y - y / 10 * 10)) hx hb hr (fun t ht hW => ⟨((x * 31) + 48) + (y - y / 10 * 10), rfl, (by simp [sp_num, c_3]), ht⟩) (fun q hq => absurd hq List.not_mem_nil) dX0_sealNumber_31
  · refine lv_iload_n hx hb dX0_sealNumber_6 rfl (lv_at hl 0 rfl) ?_
    refine lv_bipush (v := 31) hx hb dX0_sealNumber_7 (by decide) ?_
    refine lv_imul hx hb dX0_sealNumber_9 ?_
    refine lv_bipush (v := 48) hx hb dX0_sealNumber_10 (by decide) ?_
    refine lv_iadd hx hb dX0_sealNumber_12 ?_
    refine lv_iload_n hx hb dX0_sealNumber_13 rfl (lv_at hl 1 rfl) ?_
    refine lv_bipush (v := 10) hx hb dX0_sealNumber_14 (by decide) ?_
    refine lv_idiv hx hb dX0_sealNumber_16 (by decide) ?_
    refine lv_iadd hx hb dX0_sealNumber_17 ?_
    refine lv_istore_n (lv' := [(0, .int (((x * 31) + 48) + (y / 10))), (1, .int y)]) hx hb dX0_sealNumber_18 rfl hl (by decide) rfl (fun ls hl => ?_)
    refine lv_iload_n hx hb dX0_sealNumber_19 rfl (lv_at hl 0 rfl) ?_
    refine lv_bipush (v := 31) hx hb dX0_sealNumber_20 (by decide) ?_
    refine lv_imul hx hb dX0_sealNumber_22 ?_
    refine lv_bipush (v := 48) hx hb dX0_sealNumber_23 (by decide) ?_
    refine lv_iadd hx hb dX0_sealNumber_25 ?_
    refine lv_iload_n hx hb dX0_sealNumber_26 rfl (lv_at hl 1 rfl) ?_
    refine lv_bipush (v := 10) hx hb dX0_sealNumber_27 (by decide) ?_
    refine lv_irem hx hb dX0_sealNumber_29 (by decide) ?_
    refine lv_iadd hx hb dX0_sealNumber_30 ?_
    exact W.iret (v := (((((x * 31) + 48) + (y / 10)) * 31) + 48) + (y - y / 10 * 10)) hx hb hr (fun t ht hW => ⟨(((((x * 31) + 48) + (y / 10)) * 31) + 48) + (y - y / 10 * 10), rfl, (by simp [sp_num, c_3]), ht⟩) (fun q hq => absurd hq List.not_mem_nil) dX0_sealNumber_31
set_option maxRecDepth 100000 in
theorem k_X0_sealNumber {p : Program} {l : Launch} {e : Env} {R : Room} {s : State} {m : MethodId} {args : Array Value} {below : List Frame} {meth : Method} {c : Code} {H : Heap} {locs : List Loc} {cells slots : Nat} {Q : State → Prop} {cc : ByteArray} {nL pc : Nat} {ls : Array Slot} {rest : List Value} (hC : CallFix p m c cc nL s args lw_all RX0) (hl : ls.size = nL) (hR : 1 ≤ R.frames ∧ 21 ≤ R.locals) (hz : cells ≤ R.cells ∧ slots ≤ R.slots) (hr : (rest.map fun v => v.category).sum ≤ 8) {x : Int32} {y : Int32}   (hdg : decode cc pc = .ok (.invokestatic 213, 3)) (kk : W p l e R s m args below meth c H locs cells slots Q (F0 m (pc + 3) ls (.int (sp_num x y) :: rest))) : W p l e R s m args below meth c H locs cells slots Q (F0 m pc ls (.int y :: .int x :: rest)) := by
  exact vp_callSi (W.runS (As := [.int x, .int y]) (rest := rest) hC (c_X0_sealNumber l x y) (va_cwS 2 hC.2.2.2.2 (gi_S mM_X0_213 mT_X0_sealNumber mI_MissRegistry mC_X0_sealNumber) rfl rfl rfl (by decide +kernel) hR) ⟨fun _ _ _ _ q => q, fun U hU hW => ⟨rfl, trivial⟩⟩ rfl rfl hl rfl (lv_room hr) hdg hz) (fun r hr => by rw [hr]; exact kk)
set_option maxHeartbeats 4000000 in
set_option maxRecDepth 100000 in
theorem c_X0_night (l : Launch) {D : va_G} {z : ClassId × ClassId} {a : Nat → Nat} {lv lk pu fa he : Nat → Int32} {n : Nat} {nv du ta : Nat → Int32} {w : Nat} {mp mi : Nat → Int32} {k : Nat} {nt fu re : Int32}  : Met l yX0_night (ws_ yX0_night cX0_night 1 (some .int)) ({ frames := 0, cells := 0, slots := 0, locals := 0 } : Room) (va_Pc [.ref (a 0)] (xI D z a lv lk pu fa he n nv du ta w mp mi k nt fu re)) (vp_Si (fun r : Int32 => r = nt)) 0 0 (fun _ => False) := by
  refine Met.ofW (cc := cX0_night) (maxL := 1) (ret := (some .int)) (by decide) rfl ?_
  intro p e s m args below meth c s₁ B hml hv
  obtain ⟨rfl, hP, hK⟩ := hv
  have hx := B.exec
  have hb := B.bytes
  have hr := B.returns
  have hts := atoms_spec (ws := ws_ yX0_night cX0_night 1 (some .int)) B.pre
  have hts : ∀ w ∈ lw_all, w.before _ s = true := fun w h => hts w (List.mem_cons_of_mem _ h)
  have hown : s.vm.findClass RX0 = some m.cls := findClass_of_methodNamed B.named
  have hlocks := B.notSynchronized
  have hC : CallFix p m c cX0_night 1 s _ lw_all RX0 := ⟨hx, hb, hml, hown, hts⟩
  have hl := lv_entry ([.ref (a 0)]) (n := 1) (Nat.le_of_ble_eq_true rfl)
  rw [lg_entry_eq]
  generalize (lg_sl ([.ref (a 0)]) ++ List.replicate (1 - (lg_sl ([.ref (a 0)])).length) Slot.unset).toArray = ls at hl ⊢
  have hl : lv_has ls 1 [(0, .ref (a 0))] := hl
  refine lv_aload_n hx hb dX0_night_0 rfl (lv_at hl 0 rfl) ?_
  refine xg_nt hC hK hP dX0_night_1 ?_
  exact W.iret (v := nt) hx hb hr (fun t ht hW => ⟨nt, rfl, rfl, ht⟩) (fun q hq => absurd hq List.not_mem_nil) dX0_night_4
set_option maxRecDepth 100000 in
theorem k_X0_night {p : Program} {l : Launch} {e : Env} {R : Room} {s : State} {m : MethodId} {args : Array Value} {below : List Frame} {meth : Method} {c : Code} {H : Heap} {locs : List Loc} {cells slots : Nat} {Q : State → Prop} {D : va_G} {z : ClassId × ClassId} {a : Nat → Nat} {lv lk pu fa he : Nat → Int32} {n : Nat} {nv du ta : Nat → Int32} {w : Nat} {mp mi : Nat → Int32} {k : Nat} {nt fu re : Int32} {cc : ByteArray} {nL pc : Nat} {ls : Array Slot} {rest : List Value} (hC : CallFix p m c cc nL s args lw_all RX0) (hK : kK D z s) (hP : va_P D vwCl (xW z a lv lk pu fa he n nv du ta w mp mi k nt fu re) H) (hl : ls.size = nL) (hR : 1 ≤ R.frames ∧ 20 ≤ R.locals) (hz : cells ≤ R.cells ∧ slots ≤ R.slots) (hr : (rest.map fun v => v.category).sum ≤ 8)    (hdg : decode cc pc = .ok (.invokevirtual 233, 3)) (kk : W p l e R s m args below meth c H locs cells slots Q (F0 m (pc + 3) ls (.int nt :: rest))) : W p l e R s m args below meth c H locs cells slots Q (F0 m pc ls (.ref (a 0) :: rest)) := by
  exact vp_callSi (W.runV (As := []) (rest := rest) hC (c_X0_night l ) (cwV 0 hC.2.2.2.2 (gi_V mM_X0_233 mV_X0_night mS_X0_night mI_MissRegistry mC_X0_night) rfl rfl rfl (by decide +kernel) hR) (xpre hK hP) rfl rfl hl rfl (lv_room hr) hdg hz) (fun r hr => by rw [hr]; exact kk)
set_option maxHeartbeats 4000000 in
set_option maxRecDepth 100000 in
theorem c_X0_persons (l : Launch) {D : va_G} {z : ClassId × ClassId} {a : Nat → Nat} {lv lk pu fa he : Nat → Int32} {n : Nat} {nv du ta : Nat → Int32} {w : Nat} {mp mi : Nat → Int32} {k : Nat} {nt fu re : Int32}  : Met l yX0_persons (ws_ yX0_persons cX0_persons 1 (some .int)) ({ frames := 0, cells := 0, slots := 0, locals := 0 } : Room) (va_Pc [.ref (a 0)] (xI D z a lv lk pu fa he n nv du ta w mp mi k nt fu re)) (vp_Si (fun r : Int32 => r = nI n)) 0 0 (fun _ => False) := by
  refine Met.ofW (cc := cX0_persons) (maxL := 1) (ret := (some .int)) (by decide) rfl ?_
  intro p e s m args below meth c s₁ B hml hv
  obtain ⟨rfl, hP, hK⟩ := hv
  have hx := B.exec
  have hb := B.bytes
  have hr := B.returns
  have hts := atoms_spec (ws := ws_ yX0_persons cX0_persons 1 (some .int)) B.pre
  have hts : ∀ w ∈ lw_all, w.before _ s = true := fun w h => hts w (List.mem_cons_of_mem _ h)
  have hown : s.vm.findClass RX0 = some m.cls := findClass_of_methodNamed B.named
  have hlocks := B.notSynchronized
  have hC : CallFix p m c cX0_persons 1 s _ lw_all RX0 := ⟨hx, hb, hml, hown, hts⟩
  have hl := lv_entry ([.ref (a 0)]) (n := 1) (Nat.le_of_ble_eq_true rfl)
  rw [lg_entry_eq]
  generalize (lg_sl ([.ref (a 0)]) ++ List.replicate (1 - (lg_sl ([.ref (a 0)])).length) Slot.unset).toArray = ls at hl ⊢
  have hl : lv_has ls 1 [(0, .ref (a 0))] := hl
  refine lv_aload_n hx hb dX0_persons_0 rfl (lv_at hl 0 rfl) ?_
  refine xg_n hC hK hP dX0_persons_1 ?_
  exact W.iret (v := nI n) hx hb hr (fun t ht hW => ⟨nI n, rfl, rfl, ht⟩) (fun q hq => absurd hq List.not_mem_nil) dX0_persons_4
set_option maxRecDepth 100000 in
theorem k_X0_persons {p : Program} {l : Launch} {e : Env} {R : Room} {s : State} {m : MethodId} {args : Array Value} {below : List Frame} {meth : Method} {c : Code} {H : Heap} {locs : List Loc} {cells slots : Nat} {Q : State → Prop} {D : va_G} {z : ClassId × ClassId} {a : Nat → Nat} {lv lk pu fa he : Nat → Int32} {n : Nat} {nv du ta : Nat → Int32} {w : Nat} {mp mi : Nat → Int32} {k : Nat} {nt fu re : Int32} {cc : ByteArray} {nL pc : Nat} {ls : Array Slot} {rest : List Value} (hC : CallFix p m c cc nL s args lw_all RX0) (hK : kK D z s) (hP : va_P D vwCl (xW z a lv lk pu fa he n nv du ta w mp mi k nt fu re) H) (hl : ls.size = nL) (hR : 1 ≤ R.frames ∧ 20 ≤ R.locals) (hz : cells ≤ R.cells ∧ slots ≤ R.slots) (hr : (rest.map fun v => v.category).sum ≤ 8)    (hdg : decode cc pc = .ok (.invokevirtual 236, 3)) (kk : W p l e R s m args below meth c H locs cells slots Q (F0 m (pc + 3) ls (.int (nI n) :: rest))) : W p l e R s m args below meth c H locs cells slots Q (F0 m pc ls (.ref (a 0) :: rest)) := by
  exact vp_callSi (W.runV (As := []) (rest := rest) hC (c_X0_persons l ) (cwV 0 hC.2.2.2.2 (gi_V mM_X0_236 mV_X0_persons mS_X0_persons mI_MissRegistry mC_X0_persons) rfl rfl rfl (by decide +kernel) hR) (xpre hK hP) rfl rfl hl rfl (lv_room hr) hdg hz) (fun r hr => by rw [hr]; exact kk)
set_option maxHeartbeats 4000000 in
set_option maxRecDepth 100000 in
theorem c_X0_witnesses (l : Launch) {D : va_G} {z : ClassId × ClassId} {a : Nat → Nat} {lv lk pu fa he : Nat → Int32} {n : Nat} {nv du ta : Nat → Int32} {w : Nat} {mp mi : Nat → Int32} {k : Nat} {nt fu re : Int32}  : Met l yX0_witnesses (ws_ yX0_witnesses cX0_witnesses 1 (some .int)) ({ frames := 0, cells := 0, slots := 0, locals := 0 } : Room) (va_Pc [.ref (a 0)] (xI D z a lv lk pu fa he n nv du ta w mp mi k nt fu re)) (vp_Si (fun r : Int32 => r = nI w)) 0 0 (fun _ => False) := by
  refine Met.ofW (cc := cX0_witnesses) (maxL := 1) (ret := (some .int)) (by decide) rfl ?_
  intro p e s m args below meth c s₁ B hml hv
  obtain ⟨rfl, hP, hK⟩ := hv
  have hx := B.exec
  have hb := B.bytes
  have hr := B.returns
  have hts := atoms_spec (ws := ws_ yX0_witnesses cX0_witnesses 1 (some .int)) B.pre
  have hts : ∀ w ∈ lw_all, w.before _ s = true := fun w h => hts w (List.mem_cons_of_mem _ h)
  have hown : s.vm.findClass RX0 = some m.cls := findClass_of_methodNamed B.named
  have hlocks := B.notSynchronized
  have hC : CallFix p m c cX0_witnesses 1 s _ lw_all RX0 := ⟨hx, hb, hml, hown, hts⟩
  have hl := lv_entry ([.ref (a 0)]) (n := 1) (Nat.le_of_ble_eq_true rfl)
  rw [lg_entry_eq]
  generalize (lg_sl ([.ref (a 0)]) ++ List.replicate (1 - (lg_sl ([.ref (a 0)])).length) Slot.unset).toArray = ls at hl ⊢
  have hl : lv_has ls 1 [(0, .ref (a 0))] := hl
  refine lv_aload_n hx hb dX0_witnesses_0 rfl (lv_at hl 0 rfl) ?_
  refine xg_w hC hK hP dX0_witnesses_1 ?_
  exact W.iret (v := nI w) hx hb hr (fun t ht hW => ⟨nI w, rfl, rfl, ht⟩) (fun q hq => absurd hq List.not_mem_nil) dX0_witnesses_4
set_option maxRecDepth 100000 in
theorem k_X0_witnesses {p : Program} {l : Launch} {e : Env} {R : Room} {s : State} {m : MethodId} {args : Array Value} {below : List Frame} {meth : Method} {c : Code} {H : Heap} {locs : List Loc} {cells slots : Nat} {Q : State → Prop} {D : va_G} {z : ClassId × ClassId} {a : Nat → Nat} {lv lk pu fa he : Nat → Int32} {n : Nat} {nv du ta : Nat → Int32} {w : Nat} {mp mi : Nat → Int32} {k : Nat} {nt fu re : Int32} {cc : ByteArray} {nL pc : Nat} {ls : Array Slot} {rest : List Value} (hC : CallFix p m c cc nL s args lw_all RX0) (hK : kK D z s) (hP : va_P D vwCl (xW z a lv lk pu fa he n nv du ta w mp mi k nt fu re) H) (hl : ls.size = nL) (hR : 1 ≤ R.frames ∧ 20 ≤ R.locals) (hz : cells ≤ R.cells ∧ slots ≤ R.slots) (hr : (rest.map fun v => v.category).sum ≤ 8)    (hdg : decode cc pc = .ok (.invokevirtual 242, 3)) (kk : W p l e R s m args below meth c H locs cells slots Q (F0 m (pc + 3) ls (.int (nI w) :: rest))) : W p l e R s m args below meth c H locs cells slots Q (F0 m pc ls (.ref (a 0) :: rest)) := by
  exact vp_callSi (W.runV (As := []) (rest := rest) hC (c_X0_witnesses l ) (cwV 0 hC.2.2.2.2 (gi_V mM_X0_242 mV_X0_witnesses mS_X0_witnesses mI_MissRegistry mC_X0_witnesses) rfl rfl rfl (by decide +kernel) hR) (xpre hK hP) rfl rfl hl rfl (lv_room hr) hdg hz) (fun r hr => by rw [hr]; exact kk)
set_option maxHeartbeats 4000000 in
set_option maxRecDepth 100000 in
theorem c_X0_fund (l : Launch) {D : va_G} {z : ClassId × ClassId} {a : Nat → Nat} {lv lk pu fa he : Nat → Int32} {n : Nat} {nv du ta : Nat → Int32} {w : Nat} {mp mi : Nat → Int32} {k : Nat} {nt fu re : Int32}  : Met l yX0_fund (ws_ yX0_fund cX0_fund 1 (some .int)) ({ frames := 0, cells := 0, slots := 0, locals := 0 } : Room) (va_Pc [.ref (a 0)] (xI D z a lv lk pu fa he n nv du ta w mp mi k nt fu re)) (vp_Si (fun r : Int32 => r = fu)) 0 0 (fun _ => False) := by
  refine Met.ofW (cc := cX0_fund) (maxL := 1) (ret := (some .int)) (by decide) rfl ?_
  intro p e s m args below meth c s₁ B hml hv
  obtain ⟨rfl, hP, hK⟩ := hv
  have hx := B.exec
  have hb := B.bytes
  have hr := B.returns
  have hts := atoms_spec (ws := ws_ yX0_fund cX0_fund 1 (some .int)) B.pre
  have hts : ∀ w ∈ lw_all, w.before _ s = true := fun w h => hts w (List.mem_cons_of_mem _ h)
  have hown : s.vm.findClass RX0 = some m.cls := findClass_of_methodNamed B.named
  have hlocks := B.notSynchronized
  have hC : CallFix p m c cX0_fund 1 s _ lw_all RX0 := ⟨hx, hb, hml, hown, hts⟩
  have hl := lv_entry ([.ref (a 0)]) (n := 1) (Nat.le_of_ble_eq_true rfl)
  rw [lg_entry_eq]
  generalize (lg_sl ([.ref (a 0)]) ++ List.replicate (1 - (lg_sl ([.ref (a 0)])).length) Slot.unset).toArray = ls at hl ⊢
  have hl : lv_has ls 1 [(0, .ref (a 0))] := hl
  refine lv_aload_n hx hb dX0_fund_0 rfl (lv_at hl 0 rfl) ?_
  refine xg_fu hC hK hP dX0_fund_1 ?_
  exact W.iret (v := fu) hx hb hr (fun t ht hW => ⟨fu, rfl, rfl, ht⟩) (fun q hq => absurd hq List.not_mem_nil) dX0_fund_4
set_option maxRecDepth 100000 in
theorem k_X0_fund {p : Program} {l : Launch} {e : Env} {R : Room} {s : State} {m : MethodId} {args : Array Value} {below : List Frame} {meth : Method} {c : Code} {H : Heap} {locs : List Loc} {cells slots : Nat} {Q : State → Prop} {D : va_G} {z : ClassId × ClassId} {a : Nat → Nat} {lv lk pu fa he : Nat → Int32} {n : Nat} {nv du ta : Nat → Int32} {w : Nat} {mp mi : Nat → Int32} {k : Nat} {nt fu re : Int32} {cc : ByteArray} {nL pc : Nat} {ls : Array Slot} {rest : List Value} (hC : CallFix p m c cc nL s args lw_all RX0) (hK : kK D z s) (hP : va_P D vwCl (xW z a lv lk pu fa he n nv du ta w mp mi k nt fu re) H) (hl : ls.size = nL) (hR : 1 ≤ R.frames ∧ 20 ≤ R.locals) (hz : cells ≤ R.cells ∧ slots ≤ R.slots) (hr : (rest.map fun v => v.category).sum ≤ 8)    (hdg : decode cc pc = .ok (.invokevirtual 245, 3)) (kk : W p l e R s m args below meth c H locs cells slots Q (F0 m (pc + 3) ls (.int fu :: rest))) : W p l e R s m args below meth c H locs cells slots Q (F0 m pc ls (.ref (a 0) :: rest)) := by
  exact vp_callSi (W.runV (As := []) (rest := rest) hC (c_X0_fund l ) (cwV 0 hC.2.2.2.2 (gi_V mM_X0_245 mV_X0_fund mS_X0_fund mI_MissRegistry mC_X0_fund) rfl rfl rfl (by decide +kernel) hR) (xpre hK hP) rfl rfl hl rfl (lv_room hr) hdg hz) (fun r hr => by rw [hr]; exact kk)
set_option maxHeartbeats 4000000 in
set_option maxRecDepth 100000 in
theorem c_X0_refunded (l : Launch) {D : va_G} {z : ClassId × ClassId} {a : Nat → Nat} {lv lk pu fa he : Nat → Int32} {n : Nat} {nv du ta : Nat → Int32} {w : Nat} {mp mi : Nat → Int32} {k : Nat} {nt fu re : Int32}  : Met l yX0_refunded (ws_ yX0_refunded cX0_refunded 1 (some .int)) ({ frames := 0, cells := 0, slots := 0, locals := 0 } : Room) (va_Pc [.ref (a 0)] (xI D z a lv lk pu fa he n nv du ta w mp mi k nt fu re)) (vp_Si (fun r : Int32 => r = re)) 0 0 (fun _ => False) := by
  refine Met.ofW (cc := cX0_refunded) (maxL := 1) (ret := (some .int)) (by decide) rfl ?_
  intro p e s m args below meth c s₁ B hml hv
  obtain ⟨rfl, hP, hK⟩ := hv
  have hx := B.exec
  have hb := B.bytes
  have hr := B.returns
  have hts := atoms_spec (ws := ws_ yX0_refunded cX0_refunded 1 (some .int)) B.pre
  have hts : ∀ w ∈ lw_all, w.before _ s = true := fun w h => hts w (List.mem_cons_of_mem _ h)
  have hown : s.vm.findClass RX0 = some m.cls := findClass_of_methodNamed B.named
  have hlocks := B.notSynchronized
  have hC : CallFix p m c cX0_refunded 1 s _ lw_all RX0 := ⟨hx, hb, hml, hown, hts⟩
  have hl := lv_entry ([.ref (a 0)]) (n := 1) (Nat.le_of_ble_eq_true rfl)
  rw [lg_entry_eq]
  generalize (lg_sl ([.ref (a 0)]) ++ List.replicate (1 - (lg_sl ([.ref (a 0)])).length) Slot.unset).toArray = ls at hl ⊢
  have hl : lv_has ls 1 [(0, .ref (a 0))] := hl
  refine lv_aload_n hx hb dX0_refunded_0 rfl (lv_at hl 0 rfl) ?_
  refine xg_re hC hK hP dX0_refunded_1 ?_
  exact W.iret (v := re) hx hb hr (fun t ht hW => ⟨re, rfl, rfl, ht⟩) (fun q hq => absurd hq List.not_mem_nil) dX0_refunded_4
set_option maxRecDepth 100000 in
theorem k_X0_refunded {p : Program} {l : Launch} {e : Env} {R : Room} {s : State} {m : MethodId} {args : Array Value} {below : List Frame} {meth : Method} {c : Code} {H : Heap} {locs : List Loc} {cells slots : Nat} {Q : State → Prop} {D : va_G} {z : ClassId × ClassId} {a : Nat → Nat} {lv lk pu fa he : Nat → Int32} {n : Nat} {nv du ta : Nat → Int32} {w : Nat} {mp mi : Nat → Int32} {k : Nat} {nt fu re : Int32} {cc : ByteArray} {nL pc : Nat} {ls : Array Slot} {rest : List Value} (hC : CallFix p m c cc nL s args lw_all RX0) (hK : kK D z s) (hP : va_P D vwCl (xW z a lv lk pu fa he n nv du ta w mp mi k nt fu re) H) (hl : ls.size = nL) (hR : 1 ≤ R.frames ∧ 20 ≤ R.locals) (hz : cells ≤ R.cells ∧ slots ≤ R.slots) (hr : (rest.map fun v => v.category).sum ≤ 8)    (hdg : decode cc pc = .ok (.invokevirtual 248, 3)) (kk : W p l e R s m args below meth c H locs cells slots Q (F0 m (pc + 3) ls (.int re :: rest))) : W p l e R s m args below meth c H locs cells slots Q (F0 m pc ls (.ref (a 0) :: rest)) := by
  exact vp_callSi (W.runV (As := []) (rest := rest) hC (c_X0_refunded l ) (cwV 0 hC.2.2.2.2 (gi_V mM_X0_248 mV_X0_refunded mS_X0_refunded mI_MissRegistry mC_X0_refunded) rfl rfl rfl (by decide +kernel) hR) (xpre hK hP) rfl rfl hl rfl (lv_room hr) hdg hz) (fun r hr => by rw [hr]; exact kk)
set_option maxHeartbeats 4000000 in
set_option maxRecDepth 100000 in
theorem c_X0_misses (l : Launch) {D : va_G} {z : ClassId × ClassId} {a : Nat → Nat} {lv lk pu fa he : Nat → Int32} {n : Nat} {nv du ta : Nat → Int32} {w : Nat} {mp mi : Nat → Int32} {k : Nat} {nt fu re : Int32}  : Met l yX0_misses (ws_ yX0_misses cX0_misses 1 (some .int)) ({ frames := 0, cells := 0, slots := 0, locals := 0 } : Room) (va_Pc [.ref (a 0)] (xI D z a lv lk pu fa he n nv du ta w mp mi k nt fu re)) (vp_Si (fun r : Int32 => r = nI k)) 0 0 (fun _ => False) := by
  refine Met.ofW (cc := cX0_misses) (maxL := 1) (ret := (some .int)) (by decide) rfl ?_
  intro p e s m args below meth c s₁ B hml hv
  obtain ⟨rfl, hP, hK⟩ := hv
  have hx := B.exec
  have hb := B.bytes
  have hr := B.returns
  have hts := atoms_spec (ws := ws_ yX0_misses cX0_misses 1 (some .int)) B.pre
  have hts : ∀ w ∈ lw_all, w.before _ s = true := fun w h => hts w (List.mem_cons_of_mem _ h)
  have hown : s.vm.findClass RX0 = some m.cls := findClass_of_methodNamed B.named
  have hlocks := B.notSynchronized
  have hC : CallFix p m c cX0_misses 1 s _ lw_all RX0 := ⟨hx, hb, hml, hown, hts⟩
  have hl := lv_entry ([.ref (a 0)]) (n := 1) (Nat.le_of_ble_eq_true rfl)
  rw [lg_entry_eq]
  generalize (lg_sl ([.ref (a 0)]) ++ List.replicate (1 - (lg_sl ([.ref (a 0)])).length) Slot.unset).toArray = ls at hl ⊢
  have hl : lv_has ls 1 [(0, .ref (a 0))] := hl
  refine lv_aload_n hx hb dX0_misses_0 rfl (lv_at hl 0 rfl) ?_
  refine xg_k hC hK hP dX0_misses_1 ?_
  exact W.iret (v := nI k) hx hb hr (fun t ht hW => ⟨nI k, rfl, rfl, ht⟩) (fun q hq => absurd hq List.not_mem_nil) dX0_misses_4
set_option maxRecDepth 100000 in
theorem k_X0_misses {p : Program} {l : Launch} {e : Env} {R : Room} {s : State} {m : MethodId} {args : Array Value} {below : List Frame} {meth : Method} {c : Code} {H : Heap} {locs : List Loc} {cells slots : Nat} {Q : State → Prop} {D : va_G} {z : ClassId × ClassId} {a : Nat → Nat} {lv lk pu fa he : Nat → Int32} {n : Nat} {nv du ta : Nat → Int32} {w : Nat} {mp mi : Nat → Int32} {k : Nat} {nt fu re : Int32} {cc : ByteArray} {nL pc : Nat} {ls : Array Slot} {rest : List Value} (hC : CallFix p m c cc nL s args lw_all RX0) (hK : kK D z s) (hP : va_P D vwCl (xW z a lv lk pu fa he n nv du ta w mp mi k nt fu re) H) (hl : ls.size = nL) (hR : 1 ≤ R.frames ∧ 20 ≤ R.locals) (hz : cells ≤ R.cells ∧ slots ≤ R.slots) (hr : (rest.map fun v => v.category).sum ≤ 8)    (hdg : decode cc pc = .ok (.invokevirtual 251, 3)) (kk : W p l e R s m args below meth c H locs cells slots Q (F0 m (pc + 3) ls (.int (nI k) :: rest))) : W p l e R s m args below meth c H locs cells slots Q (F0 m pc ls (.ref (a 0) :: rest)) := by
  exact vp_callSi (W.runV (As := []) (rest := rest) hC (c_X0_misses l ) (cwV 0 hC.2.2.2.2 (gi_V mM_X0_251 mV_X0_misses mS_X0_misses mI_MissRegistry mC_X0_misses) rfl rfl rfl (by decide +kernel) hR) (xpre hK hP) rfl rfl hl rfl (lv_room hr) hdg hz) (fun r hr => by rw [hr]; exact kk)
set_option maxHeartbeats 4000000 in
set_option maxRecDepth 100000 in
theorem c_X0_tale (l : Launch) {D : va_G} {z : ClassId × ClassId} {a : Nat → Nat} {lv lk pu fa he : Nat → Int32} {n : Nat} {nv du ta : Nat → Int32} {w : Nat} {mp mi : Nat → Int32} {k : Nat} {nt fu re : Int32} (i : Nat) (hi : i < 6) (b : Int32) : Met l yX0_tale (ws_ yX0_tale cX0_tale 3 (some .int)) ({ frames := 1, cells := 0, slots := 0, locals := 21 } : Room) (va_Pc [.ref (a 0), .int (nI i), .int b] (xI D z a lv lk pu fa he n nv du ta w mp mi k nt fu re)) (vp_Si (fun r : Int32 => r = sp_tale (nv i) b)) 0 0 (fun _ => False) := by
  refine Met.ofW (cc := cX0_tale) (maxL := 3) (ret := (some .int)) (by decide) rfl ?_
  intro p e s m args below meth c s₁ B hml hv
  obtain ⟨rfl, hP, hK⟩ := hv
  have hx := B.exec
  have hb := B.bytes
  have hr := B.returns
  have hts := atoms_spec (ws := ws_ yX0_tale cX0_tale 3 (some .int)) B.pre
  have hts : ∀ w ∈ lw_all, w.before _ s = true := fun w h => hts w (List.mem_cons_of_mem _ h)
  have hown : s.vm.findClass RX0 = some m.cls := findClass_of_methodNamed B.named
  have hlocks := B.notSynchronized
  have hC : CallFix p m c cX0_tale 3 s _ lw_all RX0 := ⟨hx, hb, hml, hown, hts⟩
  have hl := lv_entry ([.ref (a 0), .int (nI i), .int b]) (n := 3) (Nat.le_of_ble_eq_true rfl)
  rw [lg_entry_eq]
  generalize (lg_sl ([.ref (a 0), .int (nI i), .int b]) ++ List.replicate (3 - (lg_sl ([.ref (a 0), .int (nI i), .int b])).length) Slot.unset).toArray = ls at hl ⊢
  have hl : lv_has ls 3 [(0, .ref (a 0)), (1, .int (nI i)), (2, .int b)] := hl
  refine lv_aload_n hx hb dX0_tale_0 rfl (lv_at hl 0 rfl) ?_
  refine lv_iload_n hx hb dX0_tale_1 rfl (lv_at hl 1 rfl) ?_
  refine k_X0_isShaken hC hK hP hl.1 ⟨Nat.le_of_ble_eq_true rfl, Nat.le_of_ble_eq_true rfl⟩ ⟨Nat.zero_le _, Nat.zero_le _⟩ (Nat.le_of_ble_eq_true rfl) rfl (by omega) dX0_tale_2 ?_
  refine lv_if_eq (tgt := 10) hx hb dX0_tale_5 (by decide) (fun c_5 => ?_) (fun c_5 => ?_)
  · refine lv_iconst (v := 1) hx hb dX0_tale_10 (by decide) ?_
    refine lv_iload_n hx hb dX0_tale_11 rfl (lv_at hl 2 rfl) ?_
    refine lv_bipush (v := 9) hx hb dX0_tale_12 (by decide) ?_
    refine lv_aload_n hx hb dX0_tale_14 rfl (lv_at hl 0 rfl) ?_
    refine xg_nv hC hK hP dX0_tale_15 ?_
    refine lv_iload_n hx hb dX0_tale_18 rfl (lv_at hl 1 rfl) ?_
    refine xl_nv hC hK hP i rfl (by omega) dX0_tale_19 ?_
    refine lv_isub hx hb dX0_tale_20 ?_
    refine lv_iconst (v := 2) hx hb dX0_tale_21 (by decide) ?_
    refine lv_idiv hx hb dX0_tale_22 (by decide) ?_
    refine lv_isub hx hb dX0_tale_23 ?_
    refine va_mmax hx hb (hml.trans hl.1.symm) hown (hts _ mM_X0_102) (hts _ mT_max) (hts _ mI_Math) (hts _ mC_max) (Nat.le_of_ble_eq_true rfl) (Nat.le_of_ble_eq_true rfl) (Nat.zero_le _) (Nat.zero_le _) dX0_tale_24 ?_
    exact W.iret (v := imax 1 (b - ((9 - (nv i)) / 2))) hx hb hr (fun t ht hW => ⟨imax 1 (b - ((9 - (nv i)) / 2)), rfl, (by simp [sp_tale, c_5]), ht⟩) (fun q hq => absurd hq List.not_mem_nil) dX0_tale_27
  · refine lv_iconst (v := 0) hx hb dX0_tale_8 (by decide) ?_
    exact W.iret (v := 0) hx hb hr (fun t ht hW => ⟨0, rfl, (by simp [sp_tale, c_5]), ht⟩) (fun q hq => absurd hq List.not_mem_nil) dX0_tale_9
set_option maxRecDepth 100000 in
theorem k_X0_tale {p : Program} {l : Launch} {e : Env} {R : Room} {s : State} {m : MethodId} {args : Array Value} {below : List Frame} {meth : Method} {c : Code} {H : Heap} {locs : List Loc} {cells slots : Nat} {Q : State → Prop} {D : va_G} {z : ClassId × ClassId} {a : Nat → Nat} {lv lk pu fa he : Nat → Int32} {n : Nat} {nv du ta : Nat → Int32} {w : Nat} {mp mi : Nat → Int32} {k : Nat} {nt fu re : Int32} {cc : ByteArray} {nL pc : Nat} {ls : Array Slot} {rest : List Value} (hC : CallFix p m c cc nL s args lw_all RX0) (hK : kK D z s) (hP : va_P D vwCl (xW z a lv lk pu fa he n nv du ta w mp mi k nt fu re) H) (hl : ls.size = nL) (hR : 2 ≤ R.frames ∧ 43 ≤ R.locals) (hz : cells ≤ R.cells ∧ slots ≤ R.slots) (hr : (rest.map fun v => v.category).sum ≤ 8) {i : Nat} {b : Int32} {x0 : Int32} (hx0 : x0 = nI i) (hi : i < 6) (hdg : decode cc pc = .ok (.invokevirtual 142, 3)) (kk : W p l e R s m args below meth c H locs cells slots Q (F0 m (pc + 3) ls (.int (sp_tale (nv i) b) :: rest))) : W p l e R s m args below meth c H locs cells slots Q (F0 m pc ls (.int b :: .int x0 :: .ref (a 0) :: rest)) := by
  subst hx0
  exact vp_callSi (W.runV (As := [.int (nI i), .int b]) (rest := rest) hC (c_X0_tale l i hi b) (cwV 2 hC.2.2.2.2 (gi_V mM_X0_142 mV_X0_tale mS_X0_tale mI_MissRegistry mC_X0_tale) rfl rfl rfl (by decide +kernel) hR) (xpre hK hP) rfl rfl hl rfl (lv_room hr) hdg hz) (fun r hr => by rw [hr]; exact kk)
set_option maxHeartbeats 4000000 in
set_option maxRecDepth 100000 in
theorem c_X0_findLastHeir (l : Launch) {D : va_G} {z : ClassId × ClassId} {a : Nat → Nat} {lv lk pu fa he : Nat → Int32} {n : Nat} {nv du ta : Nat → Int32} {w : Nat} {mp mi : Nat → Int32} {k : Nat} {nt fu re : Int32} (i : Nat) (hi : i < 10) (hn : n ≤ 10) : Met l yX0_findLastHeir (ws_ yX0_findLastHeir cX0_findLastHeir 4 (some .int)) ({ frames := 1, cells := 0, slots := 0, locals := 21 } : Room) (va_Pc [.ref (a 0), .int (nI i)] (xI D z a lv lk pu fa he n nv du ta w mp mi k nt fu re)) (vp_Si (fun r : Int32 => r = sp_heir he lv n i n (he i))) 0 0 (fun _ => False) := by
  refine Met.ofW (cc := cX0_findLastHeir) (maxL := 4) (ret := (some .int)) (by decide) rfl ?_
  intro p e s m args below meth c s₁ B hml hv
  obtain ⟨rfl, hP, hK⟩ := hv
  have hx := B.exec
  have hb := B.bytes
  have hr := B.returns
  have hts := atoms_spec (ws := ws_ yX0_findLastHeir cX0_findLastHeir 4 (some .int)) B.pre
  have hts : ∀ w ∈ lw_all, w.before _ s = true := fun w h => hts w (List.mem_cons_of_mem _ h)
  have hown : s.vm.findClass RX0 = some m.cls := findClass_of_methodNamed B.named
  have hlocks := B.notSynchronized
  have hC : CallFix p m c cX0_findLastHeir 4 s _ lw_all RX0 := ⟨hx, hb, hml, hown, hts⟩
  have hl := lv_entry ([.ref (a 0), .int (nI i)]) (n := 4) (Nat.le_of_ble_eq_true rfl)
  rw [lg_entry_eq]
  generalize (lg_sl ([.ref (a 0), .int (nI i)]) ++ List.replicate (4 - (lg_sl ([.ref (a 0), .int (nI i)])).length) Slot.unset).toArray = ls at hl ⊢
  have hl : lv_has ls 4 [(0, .ref (a 0)), (1, .int (nI i))] := hl
  refine lv_aload_n hx hb dX0_findLastHeir_0 rfl (lv_at hl 0 rfl) ?_
  refine xg_he hC hK hP dX0_findLastHeir_1 ?_
  refine lv_iload_n hx hb dX0_findLastHeir_4 rfl (lv_at hl 1 rfl) ?_
  refine xl_he hC hK hP i rfl (by omega) dX0_findLastHeir_5 ?_
  refine lv_istore_n (lv' := [(2, .int (he i)), (0, .ref (a 0)), (1, .int (nI i))]) hx hb dX0_findLastHeir_6 rfl hl (by decide) rfl (fun ls hl => ?_)
  refine lv_iconst (v := 0) hx hb dX0_findLastHeir_7 (by decide) ?_
  refine lv_istore_n (lv' := [(3, .int 0), (2, .int (he i)), (0, .ref (a 0)), (1, .int (nI i))]) hx hb dX0_findLastHeir_8 rfl hl (by decide) rfl (fun ls hl => ?_)
  have loop_9 : ∀ (f : Nat) (j : Nat) (x : Int32), j ≤ n → j + f = n + 1 → sp_heir he lv n i (n - j) x = sp_heir he lv n i n (he i) → ∀ ls : Array Slot, lv_has ls 4 [(0, .ref (a 0)), (1, .int (nI i)), (2, .int x), (3, .int (nI j))] → W p l e ({ frames := 1, cells := 0, slots := 0, locals := 21 } : Room) s m ([.ref (a 0), .int (nI i)] : List Value).toArray below meth c s.heap [] 0 0 (MQ below (vp_Si (fun r : Int32 => r = sp_heir he lv n i n (he i))) ([.ref (a 0), .int (nI i)] : List Value).toArray s 0 0 (fun _ => False)) (F0 m 9 ls []) := by
    intro f
    induction f with
    | zero =>
      intro j x hj hf er
      exact absurd hf (by omega)
    | succ f ih =>
      intro j x hj hf er ls hl
      refine lv_iload_n hx hb dX0_findLastHeir_9 rfl (lv_at hl 3 rfl) ?_
      refine lv_aload_n hx hb dX0_findLastHeir_10 rfl (lv_at hl 0 rfl) ?_
      refine xg_n hC hK hP dX0_findLastHeir_11 ?_
      refine lv_icmp_ge (tgt := 56) hx hb dX0_findLastHeir_14 (by decide) (fun c_14 => ?_) (fun c_14 => ?_)
      · have nc_14 : n ≤ j := nn_le (by omega) c_14
        refine lv_iconst (v := (-1)) hx hb dX0_findLastHeir_56 (by decide) ?_
        exact W.iret (v := (-1)) hx hb hr (fun t ht hW => ⟨(-1), rfl, (by rw [← er, show n - j = 0 by omega]; rfl), ht⟩) (fun q hq => absurd hq List.not_mem_nil) dX0_findLastHeir_57
      · have nc_14 : j < n := nn_nle (by omega) c_14
        refine lv_aload_n hx hb dX0_findLastHeir_17 rfl (lv_at hl 0 rfl) ?_
        refine lv_iload_n hx hb dX0_findLastHeir_18 rfl (lv_at hl 2 rfl) ?_
        refine k_X0_isPerson hC hK hP hl.1 ⟨Nat.le_of_ble_eq_true rfl, Nat.le_of_ble_eq_true rfl⟩ ⟨Nat.zero_le _, Nat.zero_le _⟩ (Nat.le_of_ble_eq_true rfl)   dX0_findLastHeir_19 ?_
        refine lv_if_eq (tgt := 30) hx hb dX0_findLastHeir_22 (by decide) (fun c_22 => ?_) (fun c_22 => ?_)
        · refine lv_iconst (v := (-1)) hx hb dX0_findLastHeir_30 (by decide) ?_
          exact W.iret (v := (-1)) hx hb hr (fun t ht hW => ⟨(-1), rfl, (by rw [← er, show n - j = (n - (j + 1)) + 1 by omega]; simp [sp_heir, c_22]), ht⟩) (fun q hq => absurd hq List.not_mem_nil) dX0_findLastHeir_31
        · refine lv_iload_n hx hb dX0_findLastHeir_25 rfl (lv_at hl 2 rfl) ?_
          refine lv_iload_n hx hb dX0_findLastHeir_26 rfl (lv_at hl 1 rfl) ?_
          refine lv_icmp_ne (tgt := 32) hx hb dX0_findLastHeir_27 (by decide) (fun c_27 => ?_) (fun c_27 => ?_)
          · obtain ⟨y, hyn, hy⟩ := isP_ex (by omega) c_22
            have eNy : x.toNatClampNeg = y := by rw [hy]; exact nI_clamp (by omega)
            refine lv_aload_n hx hb dX0_findLastHeir_32 rfl (lv_at hl 0 rfl) ?_
            refine xg_lv hC hK hP dX0_findLastHeir_33 ?_
            refine lv_iload_n hx hb dX0_findLastHeir_36 rfl (lv_at hl 2 rfl) ?_
            refine xl_lv hC hK hP y hy (by omega) dX0_findLastHeir_37 ?_
            refine lv_if_eq (tgt := 43) hx hb dX0_findLastHeir_38 (by decide) (fun c_38 => ?_) (fun c_38 => ?_)
            · refine lv_aload_n hx hb dX0_findLastHeir_43 rfl (lv_at hl 0 rfl) ?_
              refine xg_he hC hK hP dX0_findLastHeir_44 ?_
              refine lv_iload_n hx hb dX0_findLastHeir_47 rfl (lv_at hl 2 rfl) ?_
              refine xl_he hC hK hP y hy (by omega) dX0_findLastHeir_48 ?_
              refine lv_istore_n (lv' := [(2, .int (he y)), (0, .ref (a 0)), (1, .int (nI i)), (3, .int (nI j))]) hx hb dX0_findLastHeir_49 rfl hl (by decide) rfl (fun ls hl => ?_)
              refine lv_iinc (v := nI (j + 1)) (lv' := [(3, .int (nI (j + 1))), (2, .int (he y)), (0, .ref (a 0)), (1, .int (nI i))]) hx hb dX0_findLastHeir_50 hl (k := 3) rfl (nI_1 _) (by decide) rfl (fun ls hl => ?_)
              refine lv_goto (tgt := 9) hx hb dX0_findLastHeir_53 (by decide) ?_
              exact ih (j + 1) (he y) (by omega) (by omega) (by rw [← er, show n - j = (n - (j + 1)) + 1 by omega]; simp [sp_heir, c_22, c_27, eNy, c_38]) _ (lv_sub hl [2, 3, 1, 0] rfl)
            · refine lv_iload_n hx hb dX0_findLastHeir_41 rfl (lv_at hl 2 rfl) ?_
              exact W.iret (v := x) hx hb hr (fun t ht hW => ⟨x, rfl, (by rw [← er, show n - j = (n - (j + 1)) + 1 by omega]; simp [sp_heir, c_22, c_27, c_38, eNy]), ht⟩) (fun q hq => absurd hq List.not_mem_nil) dX0_findLastHeir_42
          · refine lv_iconst (v := (-1)) hx hb dX0_findLastHeir_30 (by decide) ?_
            exact W.iret (v := (-1)) hx hb hr (fun t ht hW => ⟨(-1), rfl, (by rw [← er, show n - j = (n - (j + 1)) + 1 by omega]; simp [sp_heir, c_22, c_27]), ht⟩) (fun q hq => absurd hq List.not_mem_nil) dX0_findLastHeir_31
  exact loop_9 (n + 1) 0 (he i) (by omega) (by omega) rfl _ (lv_sub hl [2, 3, 1, 0] rfl)
set_option maxRecDepth 100000 in
theorem k_X0_findLastHeir {p : Program} {l : Launch} {e : Env} {R : Room} {s : State} {m : MethodId} {args : Array Value} {below : List Frame} {meth : Method} {c : Code} {H : Heap} {locs : List Loc} {cells slots : Nat} {Q : State → Prop} {D : va_G} {z : ClassId × ClassId} {a : Nat → Nat} {lv lk pu fa he : Nat → Int32} {n : Nat} {nv du ta : Nat → Int32} {w : Nat} {mp mi : Nat → Int32} {k : Nat} {nt fu re : Int32} {cc : ByteArray} {nL pc : Nat} {ls : Array Slot} {rest : List Value} (hC : CallFix p m c cc nL s args lw_all RX0) (hK : kK D z s) (hP : va_P D vwCl (xW z a lv lk pu fa he n nv du ta w mp mi k nt fu re) H) (hl : ls.size = nL) (hR : 2 ≤ R.frames ∧ 44 ≤ R.locals) (hz : cells ≤ R.cells ∧ slots ≤ R.slots) (hr : (rest.map fun v => v.category).sum ≤ 8) {i : Nat} {x0 : Int32} (hx0 : x0 = nI i) (hi : i < 10) (hn : n ≤ 10) (hdg : decode cc pc = .ok (.invokevirtual 114, 3)) (kk : W p l e R s m args below meth c H locs cells slots Q (F0 m (pc + 3) ls (.int (sp_heir he lv n i n (he i)) :: rest))) : W p l e R s m args below meth c H locs cells slots Q (F0 m pc ls (.int x0 :: .ref (a 0) :: rest)) := by
  subst hx0
  exact vp_callSi (W.runV (As := [.int (nI i)]) (rest := rest) hC (c_X0_findLastHeir l i hi hn) (cwV 1 hC.2.2.2.2 (gi_V mM_X0_114 mV_X0_findLastHeir mS_X0_findLastHeir mI_MissRegistry mC_X0_findLastHeir) rfl rfl rfl (by decide +kernel) hR) (xpre hK hP) rfl rfl hl rfl (lv_room hr) hdg hz) (fun r hr => by rw [hr]; exact kk)
end

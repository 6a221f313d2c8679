section
-- ===== PART A: goes FIRST, ahead of the names: the tables' words, and 'selects' of the private methods out of them =====
/-- a private method of a class that the tables say can be made, by its rows of tables_1 -/
def lw_okq (q : MethodName × Nat) : Prop := (q.1.cls ≠ "java/lang/invoke/MethodHandle" ∧ q.1.cls ≠ "java/lang/invoke/VarHandle") ∧ Cond.instantiable q.1.cls q.2 ∈ tables_1 ∧ Cond.privateMethod q.1 ∈ tables_1 ∧ Cond.instanceMethod q.1 ∈ tables_1
theorem lw_p0 : lw_okq (⟨"MissRegistry", "isShaken", "(I)Z"⟩, 16) := ⟨⟨by decide +kernel, by decide +kernel⟩, List.mem_of_getElem? (i := 21) (by decide +kernel), List.mem_of_getElem? (i := 96) (by decide +kernel), List.mem_of_getElem? (i := 97) (by decide +kernel)⟩
theorem lw_p1 : lw_okq (⟨"MissRegistry", "requirePerson", "(I)V"⟩, 16) := ⟨⟨by decide +kernel, by decide +kernel⟩, List.mem_of_getElem? (i := 21) (by decide +kernel), List.mem_of_getElem? (i := 120) (by decide +kernel), List.mem_of_getElem? (i := 121) (by decide +kernel)⟩
theorem lw_p2 : lw_okq (⟨"MissRegistry", "isPerson", "(I)Z"⟩, 16) := ⟨⟨by decide +kernel, by decide +kernel⟩, List.mem_of_getElem? (i := 21) (by decide +kernel), List.mem_of_getElem? (i := 124) (by decide +kernel), List.mem_of_getElem? (i := 125) (by decide +kernel)⟩
theorem lw_p3 : lw_okq (⟨"java/lang/Throwable", "fillInStackTrace", "(I)Ljava/lang/Throwable;"⟩, 6) := ⟨⟨by decide +kernel, by decide +kernel⟩, List.mem_of_getElem? (i := 166) (by decide +kernel), List.mem_of_getElem? (i := 164) (by decide +kernel), List.mem_of_getElem? (i := 165) (by decide +kernel)⟩
theorem lw_p4 : lw_okq (⟨"MissRegistry", "findLastHeir", "(I)I"⟩, 16) := ⟨⟨by decide +kernel, by decide +kernel⟩, List.mem_of_getElem? (i := 21) (by decide +kernel), List.mem_of_getElem? (i := 216) (by decide +kernel), List.mem_of_getElem? (i := 217) (by decide +kernel)⟩
theorem lw_p5 : lw_okq (⟨"MissRegistry", "fatePrice", "(I)I"⟩, 16) := ⟨⟨by decide +kernel, by decide +kernel⟩, List.mem_of_getElem? (i := 21) (by decide +kernel), List.mem_of_getElem? (i := 224) (by decide +kernel), List.mem_of_getElem? (i := 225) (by decide +kernel)⟩
theorem lw_p6 : lw_okq (⟨"MissRegistry", "requireWitness", "(I)V"⟩, 16) := ⟨⟨by decide +kernel, by decide +kernel⟩, List.mem_of_getElem? (i := 21) (by decide +kernel), List.mem_of_getElem? (i := 236) (by decide +kernel), List.mem_of_getElem? (i := 237) (by decide +kernel)⟩
theorem lw_p7 : lw_okq (⟨"MissRegistry", "isWitness", "(I)Z"⟩, 16) := ⟨⟨by decide +kernel, by decide +kernel⟩, List.mem_of_getElem? (i := 21) (by decide +kernel), List.mem_of_getElem? (i := 240) (by decide +kernel), List.mem_of_getElem? (i := 241) (by decide +kernel)⟩
theorem lw_p8 : lw_okq (⟨"MissRegistry", "requireInches", "(I)V"⟩, 16) := ⟨⟨by decide +kernel, by decide +kernel⟩, List.mem_of_getElem? (i := 21) (by decide +kernel), List.mem_of_getElem? (i := 253) (by decide +kernel), List.mem_of_getElem? (i := 254) (by decide +kernel)⟩
theorem lw_p9 : lw_okq (⟨"MissRegistry", "tale", "(II)I"⟩, 16) := ⟨⟨by decide +kernel, by decide +kernel⟩, List.mem_of_getElem? (i := 21) (by decide +kernel), List.mem_of_getElem? (i := 273) (by decide +kernel), List.mem_of_getElem? (i := 274) (by decide +kernel)⟩
theorem lw_p10 : lw_okq (⟨"MissRegistry", "requireMiss", "(I)V"⟩, 16) := ⟨⟨by decide +kernel, by decide +kernel⟩, List.mem_of_getElem? (i := 21) (by decide +kernel), List.mem_of_getElem? (i := 284) (by decide +kernel), List.mem_of_getElem? (i := 285) (by decide +kernel)⟩
theorem lw_p11 : lw_okq (⟨"MissRegistry", "middleTale", "(I)I"⟩, 16) := ⟨⟨by decide +kernel, by decide +kernel⟩, List.mem_of_getElem? (i := 21) (by decide +kernel), List.mem_of_getElem? (i := 362) (by decide +kernel), List.mem_of_getElem? (i := 363) (by decide +kernel)⟩
theorem lw_p12 : lw_okq (⟨"MissRegistry", "insertTale", "(II)V"⟩, 16) := ⟨⟨by decide +kernel, by decide +kernel⟩, List.mem_of_getElem? (i := 21) (by decide +kernel), List.mem_of_getElem? (i := 366) (by decide +kernel), List.mem_of_getElem? (i := 367) (by decide +kernel)⟩
theorem lw_p13 : lw_okq (⟨"MissRegistry", "nightsToCalm", "(I)I"⟩, 16) := ⟨⟨by decide +kernel, by decide +kernel⟩, List.mem_of_getElem? (i := 21) (by decide +kernel), List.mem_of_getElem? (i := 385) (by decide +kernel), List.mem_of_getElem? (i := 386) (by decide +kernel)⟩
theorem lw_p14 : lw_okq (⟨"MissRegistry", "requireAlive", "(I)V"⟩, 16) := ⟨⟨by decide +kernel, by decide +kernel⟩, List.mem_of_getElem? (i := 21) (by decide +kernel), List.mem_of_getElem? (i := 715) (by decide +kernel), List.mem_of_getElem? (i := 716) (by decide +kernel)⟩
theorem lw_p15 : lw_okq (⟨"MissRegistry", "passOneNight", "()V"⟩, 16) := ⟨⟨by decide +kernel, by decide +kernel⟩, List.mem_of_getElem? (i := 21) (by decide +kernel), List.mem_of_getElem? (i := 746) (by decide +kernel), List.mem_of_getElem? (i := 747) (by decide +kernel)⟩
def lw_privs_1 : List (MethodName × Nat) := [(⟨"MissRegistry", "isShaken", "(I)Z"⟩, 16), (⟨"MissRegistry", "requirePerson", "(I)V"⟩, 16), (⟨"MissRegistry", "isPerson", "(I)Z"⟩, 16), (⟨"java/lang/Throwable", "fillInStackTrace", "(I)Ljava/lang/Throwable;"⟩, 6), (⟨"MissRegistry", "findLastHeir", "(I)I"⟩, 16), (⟨"MissRegistry", "fatePrice", "(I)I"⟩, 16), (⟨"MissRegistry", "requireWitness", "(I)V"⟩, 16), (⟨"MissRegistry", "isWitness", "(I)Z"⟩, 16), (⟨"MissRegistry", "requireInches", "(I)V"⟩, 16), (⟨"MissRegistry", "tale", "(II)I"⟩, 16), (⟨"MissRegistry", "requireMiss", "(I)V"⟩, 16), (⟨"MissRegistry", "middleTale", "(I)I"⟩, 16), (⟨"MissRegistry", "insertTale", "(II)V"⟩, 16), (⟨"MissRegistry", "nightsToCalm", "(I)I"⟩, 16), (⟨"MissRegistry", "requireAlive", "(I)V"⟩, 16), (⟨"MissRegistry", "passOneNight", "()V"⟩, 16)]
theorem lw_r1 : ∀ q ∈ lw_privs_1, lw_okq q := List.forall_mem_cons.mpr ⟨lw_p0, List.forall_mem_cons.mpr ⟨lw_p1, List.forall_mem_cons.mpr ⟨lw_p2, List.forall_mem_cons.mpr ⟨lw_p3, List.forall_mem_cons.mpr ⟨lw_p4, List.forall_mem_cons.mpr ⟨lw_p5, List.forall_mem_cons.mpr ⟨lw_p6, List.forall_mem_cons.mpr ⟨lw_p7, List.forall_mem_cons.mpr ⟨lw_p8, List.forall_mem_cons.mpr ⟨lw_p9, List.forall_mem_cons.mpr ⟨lw_p10, List.forall_mem_cons.mpr ⟨lw_p11, List.forall_mem_cons.mpr ⟨lw_p12, List.forall_mem_cons.mpr ⟨lw_p13, List.forall_mem_cons.mpr ⟨lw_p14, List.forall_mem_cons.mpr ⟨lw_p15, fun _ h => absurd h List.not_mem_nil⟩⟩⟩⟩⟩⟩⟩⟩⟩⟩⟩⟩⟩⟩⟩⟩
theorem lw_p16 : lw_okq (⟨"MissRegistry", "refundFate", "(II)V"⟩, 16) := ⟨⟨by decide +kernel, by decide +kernel⟩, List.mem_of_getElem? (i := 21) (by decide +kernel), List.mem_of_getElem? (i := 760) (by decide +kernel), List.mem_of_getElem? (i := 761) (by decide +kernel)⟩
theorem lw_p17 : lw_okq (⟨"MissRegistry", "usesFate", "(II)Z"⟩, 16) := ⟨⟨by decide +kernel, by decide +kernel⟩, List.mem_of_getElem? (i := 21) (by decide +kernel), List.mem_of_getElem? (i := 764) (by decide +kernel), List.mem_of_getElem? (i := 765) (by decide +kernel)⟩
theorem lw_p18 : lw_okq (⟨"MissRegistry", "refundCoins", "(II)I"⟩, 16) := ⟨⟨by decide +kernel, by decide +kernel⟩, List.mem_of_getElem? (i := 21) (by decide +kernel), List.mem_of_getElem? (i := 768) (by decide +kernel), List.mem_of_getElem? (i := 769) (by decide +kernel)⟩
theorem lw_p19 : lw_okq (⟨"MissRegistry", "frightenWitnesses", "(I)V"⟩, 16) := ⟨⟨by decide +kernel, by decide +kernel⟩, List.mem_of_getElem? (i := 21) (by decide +kernel), List.mem_of_getElem? (i := 772) (by decide +kernel), List.mem_of_getElem? (i := 773) (by decide +kernel)⟩
def lw_privs_2 : List (MethodName × Nat) := [(⟨"MissRegistry", "refundFate", "(II)V"⟩, 16), (⟨"MissRegistry", "usesFate", "(II)Z"⟩, 16), (⟨"MissRegistry", "refundCoins", "(II)I"⟩, 16), (⟨"MissRegistry", "frightenWitnesses", "(I)V"⟩, 16)]
theorem lw_r2 : ∀ q ∈ lw_privs_2, lw_okq q := List.forall_mem_cons.mpr ⟨lw_p16, List.forall_mem_cons.mpr ⟨lw_p17, List.forall_mem_cons.mpr ⟨lw_p18, List.forall_mem_cons.mpr ⟨lw_p19, fun _ h => absurd h List.not_mem_nil⟩⟩⟩⟩
def lw_privs : List (MethodName × Nat) := lw_privs_1 ++ (lw_privs_2)
def lw_tbl : List Cond := k2_sels lw_privs ++ tables_1
theorem lw_privs_ok : ∀ q ∈ lw_privs, lw_okq q := by
  show ∀ q ∈ lw_privs_1 ++ (lw_privs_2), lw_okq q
  exact List.forall_mem_append.mpr ⟨lw_r1, lw_r2⟩
/-- the streams that the claim lets the run draw from -/
abbrev lw_cs : List Choice := [Jvm.Choice.named "NaN.bits"]
theorem lw_bits : nanBits ∈ lw_cs := by first | decide | exact List.mem_cons_self | simp [lw_cs, nanBits]
/-! ===== BEGIN words of one list among another's, by their places ===== -/
theorem goodIn_r {big : List Cond} (ws : List Cond) (ps : List Nat) (hp : ws = ps.filterMap (fun i => big[i]?)) (h : ws.all goodWord = true) : GoodIn big ws := by
  intro w hw
  have h1 := List.all_eq_true.mp h w hw
  rw [hp] at hw
  obtain ⟨i, -, hi⟩ := List.mem_filterMap.mp hw
  have hm : w ∈ big := by first | exact List.mem_of_getElem? hi | exact List.getElem?_mem hi
  exact ⟨hm, good_of_word h1⟩
theorem goodIn_app {big a b : List Cond} (ha : GoodIn big a) (hb : GoodIn big b) : GoodIn big (a ++ b) := fun w h => (List.mem_append.mp h).elim (ha w) (hb w)
theorem goodIn_ca {big a b : List Cond} {c : Cond} (ha : GoodIn big (c :: a)) (hb : GoodIn big b) : GoodIn big (c :: (a ++ b)) := fun w h => (List.mem_cons.mp h).elim (fun e => ha w (List.mem_cons.mpr (Or.inl e))) (fun h => (List.mem_append.mp h).elim (fun h => ha w (List.mem_cons.mpr (Or.inr h))) (hb w))
theorem goodIn_sub {big ws : List Cond} (hm : ∀ w ∈ ws, w ∈ big) (h : ws.all goodWord = true) : GoodIn big ws := fun w hw => ⟨hm w hw, good_of_word (List.all_eq_true.mp h w hw)⟩
/-! ===== END ===== -/
/-! names -/
def RX0 : String := "MissRegistry"
def TX0 : u_T := fun k => match k with
  | 0 => ("MissRegistry", "living", "[Z", true)
  | 1 => ("MissRegistry", "luck", "[I", true)
  | 2 => ("MissRegistry", "purse", "[I", true)
  | 3 => ("MissRegistry", "fates", "[I", true)
  | 4 => ("MissRegistry", "heirs", "[I", true)
  | 5 => ("MissRegistry", "personCount", "I", false)
  | 6 => ("MissRegistry", "nerve", "[I", true)
  | 7 => ("MissRegistry", "onDuty", "[Z", true)
  | 8 => ("MissRegistry", "tales", "[I", true)
  | 9 => ("MissRegistry", "witnessCount", "I", false)
  | 10 => ("MissRegistry", "missPerson", "[I", true)
  | 11 => ("MissRegistry", "missInches", "[I", true)
  | 12 => ("MissRegistry", "missCount", "I", false)
  | 13 => ("MissRegistry", "nightCount", "I", false)
  | 14 => ("MissRegistry", "fundCoins", "I", false)
  | _ => ("MissRegistry", "refundedCoins", "I", false)
def tyX0 : Nat → FieldType := fun k => match k with
  | 0 => .array .boolean
  | 1 => .array .int
  | 2 => .array .int
  | 3 => .array .int
  | 4 => .array .int
  | 5 => .int
  | 6 => .array .int
  | 7 => .array .boolean
  | 8 => .array .int
  | 9 => .int
  | 10 => .array .int
  | 11 => .array .int
  | 12 => .int
  | 13 => .int
  | 14 => .int
  | _ => .int
abbrev wsX00 : List Cond := u_ws RX0 TX0 16
theorem nmX0 : ∀ a, a < 16 → ∀ b, b < 16 → a ≠ b → (TX0 a).2.1 ≠ (TX0 b).2.1 := by decide +kernel
theorem tyX0_ok : ∀ k, k < 16 → parseFieldDescriptor (TX0 k).2.2.1 = some (tyX0 k) := by decide +kernel
abbrev cX0_init : ByteArray := prog_1_method_1_code
def yX0_init : MethodName := ⟨RX0, "<init>", "()V"⟩
abbrev cX0_addPerson : ByteArray := prog_1_method_2_code
def yX0_addPerson : MethodName := ⟨RX0, "addPerson", "(I)I"⟩
abbrev cX0_addWitness : ByteArray := prog_1_method_3_code
def yX0_addWitness : MethodName := ⟨RX0, "addWitness", "(I)I"⟩
abbrev cX0_setHeir : ByteArray := prog_1_method_4_code
def yX0_setHeir : MethodName := ⟨RX0, "setHeir", "(II)I"⟩
abbrev cX0_buyFate : ByteArray := prog_1_method_5_code
def yX0_buyFate : MethodName := ⟨RX0, "buyFate", "(I)I"⟩
abbrev cX0_turnDuty : ByteArray := prog_1_method_6_code
def yX0_turnDuty : MethodName := ⟨RX0, "turnDuty", "(I)Z"⟩
abbrev cX0_miss : ByteArray := prog_1_method_7_code
def yX0_miss : MethodName := ⟨RX0, "miss", "(II)I"⟩
abbrev cX0_hit : ByteArray := prog_1_method_8_code
def yX0_hit : MethodName := ⟨RX0, "hit", "(I)I"⟩
abbrev cX0_pass : ByteArray := prog_1_method_9_code
def yX0_pass : MethodName := ⟨RX0, "pass", "(I)I"⟩
abbrev cX0_night : ByteArray := prog_1_method_10_code
def yX0_night : MethodName := ⟨RX0, "night", "()I"⟩
abbrev cX0_persons : ByteArray := prog_1_method_11_code
def yX0_persons : MethodName := ⟨RX0, "persons", "()I"⟩
abbrev cX0_alive : ByteArray := prog_1_method_12_code
def yX0_alive : MethodName := ⟨RX0, "alive", "()I"⟩
abbrev cX0_witnesses : ByteArray := prog_1_method_13_code
def yX0_witnesses : MethodName := ⟨RX0, "witnesses", "()I"⟩
abbrev cX0_shaken : ByteArray := prog_1_method_14_code
def yX0_shaken : MethodName := ⟨RX0, "shaken", "()I"⟩
abbrev cX0_fund : ByteArray := prog_1_method_15_code
def yX0_fund : MethodName := ⟨RX0, "fund", "()I"⟩
abbrev cX0_refunded : ByteArray := prog_1_method_16_code
def yX0_refunded : MethodName := ⟨RX0, "refunded", "()I"⟩
abbrev cX0_misses : ByteArray := prog_1_method_17_code
def yX0_misses : MethodName := ⟨RX0, "misses", "()I"⟩
abbrev cX0_certified : ByteArray := prog_1_method_18_code
def yX0_certified : MethodName := ⟨RX0, "certified", "()I"⟩
abbrev cX0_isAlive : ByteArray := prog_1_method_19_code
def yX0_isAlive : MethodName := ⟨RX0, "isAlive", "(I)Z"⟩
abbrev cX0_luckOf : ByteArray := prog_1_method_20_code
def yX0_luckOf : MethodName := ⟨RX0, "luckOf", "(I)I"⟩
abbrev cX0_purseOf : ByteArray := prog_1_method_21_code
def yX0_purseOf : MethodName := ⟨RX0, "purseOf", "(I)I"⟩
abbrev cX0_fatesOf : ByteArray := prog_1_method_22_code
def yX0_fatesOf : MethodName := ⟨RX0, "fatesOf", "(I)I"⟩
abbrev cX0_heirOf : ByteArray := prog_1_method_23_code
def yX0_heirOf : MethodName := ⟨RX0, "heirOf", "(I)I"⟩
abbrev cX0_lastHeirOf : ByteArray := prog_1_method_24_code
def yX0_lastHeirOf : MethodName := ⟨RX0, "lastHeirOf", "(I)I"⟩
abbrev cX0_priceFor : ByteArray := prog_1_method_25_code
def yX0_priceFor : MethodName := ⟨RX0, "priceFor", "(I)I"⟩
abbrev cX0_missesOf : ByteArray := prog_1_method_26_code
def yX0_missesOf : MethodName := ⟨RX0, "missesOf", "(I)I"⟩
abbrev cX0_closestOf : ByteArray := prog_1_method_27_code
def yX0_closestOf : MethodName := ⟨RX0, "closestOf", "(I)I"⟩
abbrev cX0_nerveOf : ByteArray := prog_1_method_28_code
def yX0_nerveOf : MethodName := ⟨RX0, "nerveOf", "(I)I"⟩
abbrev cX0_isOnDuty : ByteArray := prog_1_method_29_code
def yX0_isOnDuty : MethodName := ⟨RX0, "isOnDuty", "(I)Z"⟩
abbrev cX0_wouldTell : ByteArray := prog_1_method_30_code
def yX0_wouldTell : MethodName := ⟨RX0, "wouldTell", "(II)I"⟩
abbrev cX0_personOf : ByteArray := prog_1_method_31_code
def yX0_personOf : MethodName := ⟨RX0, "personOf", "(I)I"⟩
abbrev cX0_inchesOf : ByteArray := prog_1_method_32_code
def yX0_inchesOf : MethodName := ⟨RX0, "inchesOf", "(I)I"⟩
abbrev cX0_sealOf : ByteArray := prog_1_method_33_code
def yX0_sealOf : MethodName := ⟨RX0, "sealOf", "(I)I"⟩
abbrev cX0_wouldCertify : ByteArray := prog_1_method_34_code
def yX0_wouldCertify : MethodName := ⟨RX0, "wouldCertify", "(I)I"⟩
abbrev cX0_missesUntilShaken : ByteArray := prog_1_method_36_code
def yX0_missesUntilShaken : MethodName := ⟨RX0, "missesUntilShaken", "(I)I"⟩
abbrev cX0_nightsUntilCalm : ByteArray := prog_1_method_37_code
def yX0_nightsUntilCalm : MethodName := ⟨RX0, "nightsUntilCalm", "()I"⟩
abbrev cX0_steadiest : ByteArray := prog_1_method_38_code
def yX0_steadiest : MethodName := ⟨RX0, "steadiest", "()I"⟩
abbrev cX0_luckiest : ByteArray := prog_1_method_39_code
def yX0_luckiest : MethodName := ⟨RX0, "luckiest", "()I"⟩
abbrev cX0_meanLuck : ByteArray := prog_1_method_40_code
def yX0_meanLuck : MethodName := ⟨RX0, "meanLuck", "()D"⟩
abbrev cX0_isPerson : ByteArray := prog_1_method_42_code
def yX0_isPerson : MethodName := ⟨RX0, "isPerson", "(I)Z"⟩
abbrev cX0_isWitness : ByteArray := prog_1_method_43_code
def yX0_isWitness : MethodName := ⟨RX0, "isWitness", "(I)Z"⟩
abbrev cX0_isShaken : ByteArray := prog_1_method_44_code
def yX0_isShaken : MethodName := ⟨RX0, "isShaken", "(I)Z"⟩
abbrev cX0_requirePerson : ByteArray := prog_1_method_45_code
def yX0_requirePerson : MethodName := ⟨RX0, "requirePerson", "(I)V"⟩
abbrev cX0_requireAlive : ByteArray := prog_1_method_46_code
def yX0_requireAlive : MethodName := ⟨RX0, "requireAlive", "(I)V"⟩
abbrev cX0_requireWitness : ByteArray := prog_1_method_47_code
def yX0_requireWitness : MethodName := ⟨RX0, "requireWitness", "(I)V"⟩
abbrev cX0_requireMiss : ByteArray := prog_1_method_48_code
def yX0_requireMiss : MethodName := ⟨RX0, "requireMiss", "(I)V"⟩
abbrev cX0_requireInches : ByteArray := prog_1_method_49_code
def yX0_requireInches : MethodName := ⟨RX0, "requireInches", "(I)V"⟩
abbrev cX0_fatePrice : ByteArray := prog_1_method_50_code
def yX0_fatePrice : MethodName := ⟨RX0, "fatePrice", "(I)I"⟩
abbrev cX0_findLastHeir : ByteArray := prog_1_method_51_code
def yX0_findLastHeir : MethodName := ⟨RX0, "findLastHeir", "(I)I"⟩
abbrev cX0_tale : ByteArray := prog_1_method_52_code
def yX0_tale : MethodName := ⟨RX0, "tale", "(II)I"⟩
abbrev cX0_middleTale : ByteArray := prog_1_method_53_code
def yX0_middleTale : MethodName := ⟨RX0, "middleTale", "(I)I"⟩
abbrev cX0_insertTale : ByteArray := prog_1_method_54_code
def yX0_insertTale : MethodName := ⟨RX0, "insertTale", "(II)V"⟩
abbrev cX0_usesFate : ByteArray := prog_1_method_55_code
def yX0_usesFate : MethodName := ⟨RX0, "usesFate", "(II)Z"⟩
abbrev cX0_refundCoins : ByteArray := prog_1_method_56_code
def yX0_refundCoins : MethodName := ⟨RX0, "refundCoins", "(II)I"⟩
abbrev cX0_refundFate : ByteArray := prog_1_method_57_code
def yX0_refundFate : MethodName := ⟨RX0, "refundFate", "(II)V"⟩
abbrev cX0_nerveLoss : ByteArray := prog_1_method_58_code
def yX0_nerveLoss : MethodName := ⟨RX0, "nerveLoss", "(I)I"⟩
abbrev cX0_nerveGain : ByteArray := prog_1_method_59_code
def yX0_nerveGain : MethodName := ⟨RX0, "nerveGain", "(Z)I"⟩
abbrev cX0_frightenWitnesses : ByteArray := prog_1_method_60_code
def yX0_frightenWitnesses : MethodName := ⟨RX0, "frightenWitnesses", "(I)V"⟩
abbrev cX0_passOneNight : ByteArray := prog_1_method_61_code
def yX0_passOneNight : MethodName := ⟨RX0, "passOneNight", "()V"⟩
abbrev cX0_nightsToCalm : ByteArray := prog_1_method_62_code
def yX0_nightsToCalm : MethodName := ⟨RX0, "nightsToCalm", "(I)I"⟩
abbrev cX0_certificateSeal : ByteArray := prog_1_method_63_code
def yX0_certificateSeal : MethodName := ⟨RX0, "certificateSeal", "(II)I"⟩
abbrev cX0_sealText : ByteArray := prog_1_method_64_code
def yX0_sealText : MethodName := ⟨RX0, "sealText", "(ILjava/lang/String;)I"⟩
abbrev cX0_sealNumber : ByteArray := prog_1_method_65_code
def yX0_sealNumber : MethodName := ⟨RX0, "sealNumber", "(II)I"⟩
def RX1 : String := "MissRegistryLaw$Sim"
def TX1 : u_T := fun k => match k with
  | 0 => ("MissRegistryLaw$Sim", "night", "I", false)
  | 1 => ("MissRegistryLaw$Sim", "fund", "I", false)
  | 2 => ("MissRegistryLaw$Sim", "refunded", "I", false)
  | 3 => ("MissRegistryLaw$Sim", "persons", "[[I", false)
  | 4 => ("MissRegistryLaw$Sim", "witnesses", "[[I", false)
  | _ => ("MissRegistryLaw$Sim", "misses", "[[I", false)
def tyX1 : Nat → FieldType := fun k => match k with
  | 0 => .int
  | 1 => .int
  | 2 => .int
  | 3 => .array (.array .int)
  | 4 => .array (.array .int)
  | _ => .array (.array .int)
abbrev wsX10 : List Cond := u_ws RX1 TX1 6
theorem nmX1 : ∀ a, a < 6 → ∀ b, b < 6 → a ≠ b → (TX1 a).2.1 ≠ (TX1 b).2.1 := by decide +kernel
theorem tyX1_ok : ∀ k, k < 6 → parseFieldDescriptor (TX1 k).2.2.1 = some (tyX1 k) := by decide +kernel
abbrev cX1_init : ByteArray := prog_3_method_1_code
def yX1_init : MethodName := ⟨RX1, "<init>", "()V"⟩
abbrev cX1_with : ByteArray := prog_3_method_2_code
def yX1_with : MethodName := ⟨RX1, "with", "([[I[I)[[I"⟩
abbrev cX1_price : ByteArray := prog_3_method_3_code
def yX1_price : MethodName := ⟨RX1, "price", "([I)I"⟩
abbrev cX1_lastHeir : ByteArray := prog_3_method_4_code
def yX1_lastHeir : MethodName := ⟨RX1, "lastHeir", "(I)I"⟩
abbrev cX1_tells : ByteArray := prog_3_method_5_code
def yX1_tells : MethodName := ⟨RX1, "tells", "([II)I"⟩
abbrev cX1_certify : ByteArray := prog_3_method_6_code
def yX1_certify : MethodName := ⟨RX1, "certify", "(I)I"⟩
abbrev cX1_refund : ByteArray := prog_3_method_7_code
def yX1_refund : MethodName := ⟨RX1, "refund", "([II)I"⟩
abbrev cX1_miss : ByteArray := prog_3_method_8_code
def yX1_miss : MethodName := ⟨RX1, "miss", "(II)I"⟩
abbrev cX1_hit : ByteArray := prog_3_method_9_code
def yX1_hit : MethodName := ⟨RX1, "hit", "(I)I"⟩
abbrev cX1_pass : ByteArray := prog_3_method_10_code
def yX1_pass : MethodName := ⟨RX1, "pass", "(I)I"⟩
abbrev cX1_shaken : ByteArray := prog_3_method_11_code
def yX1_shaken : MethodName := ⟨RX1, "shaken", "()I"⟩
abbrev cX1_seal : ByteArray := prog_3_method_12_code
def yX1_seal : MethodName := ⟨RX1, "seal", "([I)I"⟩
abbrev cX1_isSame : ByteArray := prog_3_method_14_code
def yX1_isSame : MethodName := ⟨RX1, "isSame", "(LMissRegistry;)Z"⟩
def RX2 : String := "MissRegistryModel"
def TX2 : u_T := fun k => match k with
  | _ => ("", "", "", false)
def tyX2 : Nat → FieldType := fun k => match k with
  | _ => .int
abbrev wsX20 : List Cond := u_ws RX2 TX2 0
theorem nmX2 : ∀ a, a < 0 → ∀ b, b < 0 → a ≠ b → (TX2 a).2.1 ≠ (TX2 b).2.1 := by decide +kernel
theorem tyX2_ok : ∀ k, k < 0 → parseFieldDescriptor (TX2 k).2.2.1 = some (tyX2 k) := by decide +kernel
def RJ5 : String := "java/lang/AbstractStringBuilder"
def TJ5 : u_T := fun k => match k with
  | _ => ("", "", "", false)
def tyJ5 : Nat → FieldType := fun k => match k with
  | _ => .int
abbrev wsJ50 : List Cond := u_ws RJ5 TJ5 0
theorem nmJ5 : ∀ a, a < 0 → ∀ b, b < 0 → a ≠ b → (TJ5 a).2.1 ≠ (TJ5 b).2.1 := by decide +kernel
theorem tyJ5_ok : ∀ k, k < 0 → parseFieldDescriptor (TJ5 k).2.2.1 = some (tyJ5 k) := by decide +kernel
abbrev cJ5_init_d00df : ByteArray := prog_5_method_2_code
def yJ5_init_d00df : MethodName := ⟨RJ5, "<init>", "(I)V"⟩
abbrev cJ5_length_8abf5 : ByteArray := prog_5_method_6_code
def yJ5_length_8abf5 : MethodName := ⟨RJ5, "length", "()I"⟩
abbrev cJ5_ensureCapacityInternal_d00df : ByteArray := prog_5_method_9_code
def yJ5_ensureCapacityInternal_d00df : MethodName := ⟨RJ5, "ensureCapacityInternal", "(I)V"⟩
abbrev cJ5_newCapacity_0f7a4 : ByteArray := prog_5_method_10_code
def yJ5_newCapacity_0f7a4 : MethodName := ⟨RJ5, "newCapacity", "(I)I"⟩
abbrev cJ5_inflate_da8c8 : ByteArray := prog_5_method_11_code
def yJ5_inflate_da8c8 : MethodName := ⟨RJ5, "inflate", "()V"⟩
abbrev cJ5_append_cf1ce : ByteArray := prog_5_method_22_code
def yJ5_append_cf1ce : MethodName := ⟨RJ5, "append", "(Ljava/lang/String;)Ljava/lang/AbstractStringBuilder;"⟩
abbrev cJ5_appendNull_278bc : ByteArray := prog_5_method_26_code
def yJ5_appendNull_278bc : MethodName := ⟨RJ5, "appendNull", "()Ljava/lang/AbstractStringBuilder;"⟩
abbrev cJ5_append_c97b9 : ByteArray := prog_5_method_32_code
def yJ5_append_c97b9 : MethodName := ⟨RJ5, "append", "(I)Ljava/lang/AbstractStringBuilder;"⟩
abbrev cJ5_getValue_6d5f1 : ByteArray := prog_5_method_64_code
def yJ5_getValue_6d5f1 : MethodName := ⟨RJ5, "getValue", "()[B"⟩
abbrev cJ5_isLatin1_aae02 : ByteArray := prog_5_method_68_code
def yJ5_isLatin1_aae02 : MethodName := ⟨RJ5, "isLatin1", "()Z"⟩
abbrev cJ5_inflateIfNeededFor_a7421 : ByteArray := prog_5_method_71_code
def yJ5_inflateIfNeededFor_a7421 : MethodName := ⟨RJ5, "inflateIfNeededFor", "(Ljava/lang/String;)V"⟩
abbrev cJ5_putStringAt_47b60 : ByteArray := prog_5_method_73_code
def yJ5_putStringAt_47b60 : MethodName := ⟨RJ5, "putStringAt", "(ILjava/lang/String;)V"⟩
def RJx8e188 : String := "java/lang/Cloneable"
def TJx8e188 : u_T := fun k => match k with
  | _ => ("", "", "", false)
def tyJx8e188 : Nat → FieldType := fun k => match k with
  | _ => .int
abbrev wsJx8e1880 : List Cond := u_ws RJx8e188 TJx8e188 0
theorem nmJx8e188 : ∀ a, a < 0 → ∀ b, b < 0 → a ≠ b → (TJx8e188 a).2.1 ≠ (TJx8e188 b).2.1 := by decide +kernel
theorem tyJx8e188_ok : ∀ k, k < 0 → parseFieldDescriptor (TJx8e188 k).2.2.1 = some (tyJx8e188 k) := by decide +kernel
def RJ6 : String := "java/lang/Integer"
def TJ6 : u_T := fun k => match k with
  | _ => ("", "", "", false)
def tyJ6 : Nat → FieldType := fun k => match k with
  | _ => .int
abbrev wsJ60 : List Cond := u_ws RJ6 TJ6 0
theorem nmJ6 : ∀ a, a < 0 → ∀ b, b < 0 → a ≠ b → (TJ6 a).2.1 ≠ (TJ6 b).2.1 := by decide +kernel
theorem tyJ6_ok : ∀ k, k < 0 → parseFieldDescriptor (TJ6 k).2.2.1 = some (tyJ6 k) := by decide +kernel
abbrev cJ6_getChars_ba4f3 : ByteArray := prog_11_method_12_code
def yJ6_getChars_ba4f3 : MethodName := ⟨RJ6, "getChars", "(II[B)I"⟩
abbrev cJ6_stringSize_0f7a4 : ByteArray := prog_11_method_13_code
def yJ6_stringSize_0f7a4 : MethodName := ⟨RJ6, "stringSize", "(I)I"⟩
def RJ9 : String := "java/lang/Math"
def TJ9 : u_T := fun k => match k with
  | _ => ("", "", "", false)
def tyJ9 : Nat → FieldType := fun k => match k with
  | _ => .int
abbrev wsJ90 : List Cond := u_ws RJ9 TJ9 0
theorem nmJ9 : ∀ a, a < 0 → ∀ b, b < 0 → a ≠ b → (TJ9 a).2.1 ≠ (TJ9 b).2.1 := by decide +kernel
theorem tyJ9_ok : ∀ k, k < 0 → parseFieldDescriptor (TJ9 k).2.2.1 = some (tyJ9 k) := by decide +kernel
abbrev cJ9_max_7cf53 : ByteArray := prog_12_method_65_code
def yJ9_max_7cf53 : MethodName := ⟨RJ9, "max", "(II)I"⟩
abbrev cJ9_min_7cf53 : ByteArray := prog_12_method_69_code
def yJ9_min_7cf53 : MethodName := ⟨RJ9, "min", "(II)I"⟩
def RJ0 : String := "java/lang/String"
def TJ0 : u_T := fun k => match k with
  | 0 => ("java/lang/String", "value", "[B", true)
  | 1 => ("java/lang/String", "coder", "B", true)
  | 2 => ("java/lang/String", "hash", "I", false)
  | _ => ("java/lang/String", "hashIsZero", "Z", false)
def tyJ0 : Nat → FieldType := fun k => match k with
  | 0 => .array .byte
  | 1 => .byte
  | 2 => .int
  | _ => .boolean
abbrev wsJ00 : List Cond := u_ws RJ0 TJ0 4
theorem nmJ0 : ∀ a, a < 4 → ∀ b, b < 4 → a ≠ b → (TJ0 a).2.1 ≠ (TJ0 b).2.1 := by decide +kernel
theorem tyJ0_ok : ∀ k, k < 4 → parseFieldDescriptor (TJ0 k).2.2.1 = some (tyJ0 k) := by decide +kernel
abbrev cJ0_init_81219 : ByteArray := prog_14_method_53_code
def yJ0_init_81219 : MethodName := ⟨RJ0, "<init>", "(Ljava/lang/StringBuilder;)V"⟩
abbrev cJ0_length_8abf5 : ByteArray := prog_14_method_54_code
def yJ0_length_8abf5 : MethodName := ⟨RJ0, "length", "()I"⟩
abbrev cJ0_charAt_5068e : ByteArray := prog_14_method_56_code
def yJ0_charAt_5068e : MethodName := ⟨RJ0, "charAt", "(I)C"⟩
abbrev cJ0_getBytes_840e7 : ByteArray := prog_14_method_147_code
def yJ0_getBytes_840e7 : MethodName := ⟨RJ0, "getBytes", "([BIB)V"⟩
abbrev cJ0_init_db425 : ByteArray := prog_14_method_150_code
def yJ0_init_db425 : MethodName := ⟨RJ0, "<init>", "(Ljava/lang/AbstractStringBuilder;Ljava/lang/Void;)V"⟩
abbrev cJ0_coder_7d493 : ByteArray := prog_14_method_152_code
def yJ0_coder_7d493 : MethodName := ⟨RJ0, "coder", "()B"⟩
abbrev cJ0_isLatin1_aae02 : ByteArray := prog_14_method_154_code
def yJ0_isLatin1_aae02 : MethodName := ⟨RJ0, "isLatin1", "()Z"⟩
abbrev cJ0_checkIndex_df160 : ByteArray := prog_14_method_155_code
def yJ0_checkIndex_df160 : MethodName := ⟨RJ0, "checkIndex", "(II)V"⟩
abbrev cJ0_checkBoundsOffCount_cabcc : ByteArray := prog_14_method_157_code
def yJ0_checkBoundsOffCount_cabcc : MethodName := ⟨RJ0, "checkBoundsOffCount", "(III)I"⟩
abbrev cJ0_checkBoundsBeginEnd_23922 : ByteArray := prog_14_method_158_code
def yJ0_checkBoundsBeginEnd_23922 : MethodName := ⟨RJ0, "checkBoundsBeginEnd", "(III)V"⟩
def RJ4 : String := "java/lang/StringBuilder"
def TJ4 : u_T := fun k => match k with
  | 0 => ("java/lang/AbstractStringBuilder", "value", "[B", false)
  | 1 => ("java/lang/AbstractStringBuilder", "coder", "B", false)
  | 2 => ("java/lang/AbstractStringBuilder", "maybeLatin1", "Z", false)
  | _ => ("java/lang/AbstractStringBuilder", "count", "I", false)
def tyJ4 : Nat → FieldType := fun k => match k with
  | 0 => .array .byte
  | 1 => .byte
  | 2 => .boolean
  | _ => .int
abbrev wsJ40 : List Cond := u_ws RJ4 TJ4 4
theorem nmJ4 : ∀ a, a < 4 → ∀ b, b < 4 → a ≠ b → (TJ4 a).2.1 ≠ (TJ4 b).2.1 := by decide +kernel
theorem tyJ4_ok : ∀ k, k < 4 → parseFieldDescriptor (TJ4 k).2.2.1 = some (tyJ4 k) := by decide +kernel
abbrev cJ4_init_da8c8 : ByteArray := prog_15_method_1_code
def yJ4_init_da8c8 : MethodName := ⟨RJ4, "<init>", "()V"⟩
abbrev cJ4_append_15ec4 : ByteArray := prog_15_method_7_code
def yJ4_append_15ec4 : MethodName := ⟨RJ4, "append", "(Ljava/lang/String;)Ljava/lang/StringBuilder;"⟩
abbrev cJ4_append_bf812 : ByteArray := prog_15_method_15_code
def yJ4_append_bf812 : MethodName := ⟨RJ4, "append", "(I)Ljava/lang/StringBuilder;"⟩
abbrev cJ4_toString_0e30d : ByteArray := prog_15_method_42_code
def yJ4_toString_0e30d : MethodName := ⟨RJ4, "toString", "()Ljava/lang/String;"⟩
abbrev cJ4_length_8abf5 : ByteArray := prog_15_method_93_code
def yJ4_length_8abf5 : MethodName := ⟨RJ4, "length", "()I"⟩
def RJ1 : String := "java/lang/StringLatin1"
def TJ1 : u_T := fun k => match k with
  | _ => ("", "", "", false)
def tyJ1 : Nat → FieldType := fun k => match k with
  | _ => .int
abbrev wsJ10 : List Cond := u_ws RJ1 TJ1 0
theorem nmJ1 : ∀ a, a < 0 → ∀ b, b < 0 → a ≠ b → (TJ1 a).2.1 ≠ (TJ1 b).2.1 := by decide +kernel
theorem tyJ1_ok : ∀ k, k < 0 → parseFieldDescriptor (TJ1 k).2.2.1 = some (tyJ1 k) := by decide +kernel
abbrev cJ1_charAt_3b067 : ByteArray := prog_16_method_2_code
def yJ1_charAt_3b067 : MethodName := ⟨RJ1, "charAt", "([BI)C"⟩
abbrev cJ1_inflate_0e8fd : ByteArray := prog_16_method_50_code
def yJ1_inflate_0e8fd : MethodName := ⟨RJ1, "inflate", "([BI[BII)V"⟩
def RJ2 : String := "java/lang/StringUTF16"
def TJ2 : u_T := fun k => match k with
  | _ => ("", "", "", false)
def tyJ2 : Nat → FieldType := fun k => match k with
  | _ => .int
abbrev wsJ20 : List Cond := u_ws RJ2 TJ2 0
theorem nmJ2 : ∀ a, a < 0 → ∀ b, b < 0 → a ≠ b → (TJ2 a).2.1 ≠ (TJ2 b).2.1 := by decide +kernel
theorem tyJ2_ok : ∀ k, k < 0 → parseFieldDescriptor (TJ2 k).2.2.1 = some (tyJ2 k) := by decide +kernel
abbrev cJ2_newBytesFor_77867 : ByteArray := prog_17_method_2_code
def yJ2_newBytesFor_77867 : MethodName := ⟨RJ2, "newBytesFor", "(I)[B"⟩
abbrev cJ2_newBytesLength_0f7a4 : ByteArray := prog_17_method_3_code
def yJ2_newBytesLength_0f7a4 : MethodName := ⟨RJ2, "newBytesLength", "(I)I"⟩
abbrev cJ2_putChar_b72d1 : ByteArray := prog_17_method_4_code
def yJ2_putChar_b72d1 : MethodName := ⟨RJ2, "putChar", "([BII)V"⟩
abbrev cJ2_getChar_3b067 : ByteArray := prog_17_method_5_code
def yJ2_getChar_3b067 : MethodName := ⟨RJ2, "getChar", "([BI)C"⟩
abbrev cJ2_length_9d52b : ByteArray := prog_17_method_6_code
def yJ2_length_9d52b : MethodName := ⟨RJ2, "length", "([B)I"⟩
abbrev cJ2_coderFromArrayLen_85cad : ByteArray := prog_17_method_15_code
def yJ2_coderFromArrayLen_85cad : MethodName := ⟨RJ2, "coderFromArrayLen", "([BI)B"⟩
abbrev cJ2_compress_39247 : ByteArray := prog_17_method_17_code
def yJ2_compress_39247 : MethodName := ⟨RJ2, "compress", "([BII)[B"⟩
abbrev cJ2_compress_5af95 : ByteArray := prog_17_method_22_code
def yJ2_compress_5af95 : MethodName := ⟨RJ2, "compress", "([BI[BII)I"⟩
abbrev cJ2_getChars_46870 : ByteArray := prog_17_method_77_code
def yJ2_getChars_46870 : MethodName := ⟨RJ2, "getChars", "(III[B)I"⟩
abbrev cJ2_putCharsAt_cd4e5 : ByteArray := prog_17_method_81_code
def yJ2_putCharsAt_cd4e5 : MethodName := ⟨RJ2, "putCharsAt", "([BICCCC)I"⟩
abbrev cJ2_charAt_3b067 : ByteArray := prog_17_method_83_code
def yJ2_charAt_3b067 : MethodName := ⟨RJ2, "charAt", "([BI)C"⟩
abbrev cJ2_inflate_0e8fd : ByteArray := prog_17_method_86_code
def yJ2_inflate_0e8fd : MethodName := ⟨RJ2, "inflate", "([BI[BII)V"⟩
abbrev cJ2_getChars_ba4f3 : ByteArray := prog_17_method_89_code
def yJ2_getChars_ba4f3 : MethodName := ⟨RJ2, "getChars", "(II[B)I"⟩
abbrev cJ2_checkIndex_2214a : ByteArray := prog_17_method_91_code
def yJ2_checkIndex_2214a : MethodName := ⟨RJ2, "checkIndex", "(I[B)V"⟩
abbrev cJ2_checkBoundsBeginEnd_d044e : ByteArray := prog_17_method_93_code
def yJ2_checkBoundsBeginEnd_d044e : MethodName := ⟨RJ2, "checkBoundsBeginEnd", "(II[B)V"⟩
abbrev cJ2_checkBoundsOffCount_d044e : ByteArray := prog_17_method_94_code
def yJ2_checkBoundsOffCount_d044e : MethodName := ⟨RJ2, "checkBoundsOffCount", "(II[B)V"⟩
def RJ10 : String := "java/lang/System"
def TJ10 : u_T := fun k => match k with
  | _ => ("", "", "", false)
def tyJ10 : Nat → FieldType := fun k => match k with
  | _ => .int
abbrev wsJ100 : List Cond := u_ws RJ10 TJ10 0
theorem nmJ10 : ∀ a, a < 0 → ∀ b, b < 0 → a ≠ b → (TJ10 a).2.1 ≠ (TJ10 b).2.1 := by decide +kernel
theorem tyJ10_ok : ∀ k, k < 0 → parseFieldDescriptor (TJ10 k).2.2.1 = some (tyJ10 k) := by decide +kernel
def RJ7 : String := "java/util/Arrays"
def TJ7 : u_T := fun k => match k with
  | _ => ("", "", "", false)
def tyJ7 : Nat → FieldType := fun k => match k with
  | _ => .int
abbrev wsJ70 : List Cond := u_ws RJ7 TJ7 0
theorem nmJ7 : ∀ a, a < 0 → ∀ b, b < 0 → a ≠ b → (TJ7 a).2.1 ≠ (TJ7 b).2.1 := by decide +kernel
theorem tyJ7_ok : ∀ k, k < 0 → parseFieldDescriptor (TJ7 k).2.2.1 = some (tyJ7 k) := by decide +kernel
abbrev cJ7_copyOf_9075b : ByteArray := prog_20_method_121_code
def yJ7_copyOf_9075b : MethodName := ⟨RJ7, "copyOf", "([BI)[B"⟩
abbrev cJ7_checkLength_df160 : ByteArray := prog_20_method_131_code
def yJ7_checkLength_df160 : MethodName := ⟨RJ7, "checkLength", "(II)V"⟩
abbrev cJ7_copyOfRange_39247 : ByteArray := prog_20_method_132_code
def yJ7_copyOfRange_39247 : MethodName := ⟨RJ7, "copyOfRange", "([BII)[B"⟩
abbrev cJ7_copyOfRangeByte_39247 : ByteArray := prog_20_method_133_code
def yJ7_copyOfRangeByte_39247 : MethodName := ⟨RJ7, "copyOfRangeByte", "([BII)[B"⟩
def RJ8 : String := "jdk/internal/util/ArraysSupport"
def TJ8 : u_T := fun k => match k with
  | _ => ("", "", "", false)
def tyJ8 : Nat → FieldType := fun k => match k with
  | _ => .int
abbrev wsJ80 : List Cond := u_ws RJ8 TJ8 0
theorem nmJ8 : ∀ a, a < 0 → ∀ b, b < 0 → a ≠ b → (TJ8 a).2.1 ≠ (TJ8 b).2.1 := by decide +kernel
theorem tyJ8_ok : ∀ k, k < 0 → parseFieldDescriptor (TJ8 k).2.2.1 = some (tyJ8 k) := by decide +kernel
abbrev cJ8_newLength_cabcc : ByteArray := prog_21_method_27_code
def yJ8_newLength_cabcc : MethodName := ⟨RJ8, "newLength", "(III)I"⟩
abbrev cJ8_hugeLength_7cf53 : ByteArray := prog_21_method_28_code
def yJ8_hugeLength_7cf53 : MethodName := ⟨RJ8, "hugeLength", "(II)I"⟩
def RJ3 : String := "jdk/internal/util/Preconditions"
def TJ3 : u_T := fun k => match k with
  | _ => ("", "", "", false)
def tyJ3 : Nat → FieldType := fun k => match k with
  | _ => .int
abbrev wsJ30 : List Cond := u_ws RJ3 TJ3 0
theorem nmJ3 : ∀ a, a < 0 → ∀ b, b < 0 → a ≠ b → (TJ3 a).2.1 ≠ (TJ3 b).2.1 := by decide +kernel
theorem tyJ3_ok : ∀ k, k < 0 → parseFieldDescriptor (TJ3 k).2.2.1 = some (tyJ3 k) := by decide +kernel
abbrev cJ3_checkIndex_8e157 : ByteArray := prog_22_method_11_code
def yJ3_checkIndex_8e157 : MethodName := ⟨RJ3, "checkIndex", "(IILjava/util/function/BiFunction;)I"⟩
abbrev cJ3_checkFromToIndex_8c36e : ByteArray := prog_22_method_12_code
def yJ3_checkFromToIndex_8c36e : MethodName := ⟨RJ3, "checkFromToIndex", "(IIILjava/util/function/BiFunction;)I"⟩
abbrev cJ3_checkFromIndexSize_8c36e : ByteArray := prog_22_method_13_code
def yJ3_checkFromIndexSize_8c36e : MethodName := ⟨RJ3, "checkFromIndexSize", "(IIILjava/util/function/BiFunction;)I"⟩
def RL : String := "MissRegistryLaw"
abbrev cL_below : ByteArray := method_2_code
def yL_below : MethodName := ⟨RL, "below", "(II)I"⟩
abbrev cL_cell : ByteArray := method_3_code
def yL_cell : MethodName := ⟨RL, "cell", "([II)I"⟩
abbrev cL_act : ByteArray := method_4_code
def yL_act : MethodName := ⟨RL, "act", "(LMissRegistry;LMissRegistryLaw$Sim;I)Z"⟩
abbrev cL_build : ByteArray := method_5_code
def yL_build : MethodName := ⟨RL, "build", "(LMissRegistry;[I)LMissRegistryLaw$Sim;"⟩
abbrev cL_law : ByteArray := code
def yL_law : MethodName := ⟨RL, "law", "([I)Z"⟩
abbrev vwCl : List vw_C := [(RX0, TX0, 16), (RX1, TX1, 6), (RJ0, TJ0, 4), (RJ4, TJ4, 4)]
end
section
/-! decode rows: the class -/
theorem dX0_init_0 : decode cX0_init 0 = .ok (.aload_n 0, 1) := by decide +kernel
theorem dX0_init_1 : decode cX0_init 1 = .ok (.invokespecial 1, 3) := by decide +kernel
theorem dX0_init_4 : decode cX0_init 4 = .ok (.aload_n 0, 1) := by decide +kernel
theorem dX0_init_5 : decode cX0_init 5 = .ok (.bipush 10, 2) := by decide +kernel
theorem dX0_init_7 : decode cX0_init 7 = .ok (.newarray .boolean, 2) := by decide +kernel
theorem dX0_init_9 : decode cX0_init 9 = .ok (.putfield 9, 3) := by decide +kernel
theorem dX0_init_12 : decode cX0_init 12 = .ok (.aload_n 0, 1) := by decide +kernel
theorem dX0_init_13 : decode cX0_init 13 = .ok (.bipush 10, 2) := by decide +kernel
theorem dX0_init_15 : decode cX0_init 15 = .ok (.newarray .int, 2) := by decide +kernel
theorem dX0_init_17 : decode cX0_init 17 = .ok (.putfield 13, 3) := by decide +kernel
theorem dX0_init_20 : decode cX0_init 20 = .ok (.aload_n 0, 1) := by decide +kernel
theorem dX0_init_21 : decode cX0_init 21 = .ok (.bipush 10, 2) := by decide +kernel
theorem dX0_init_23 : decode cX0_init 23 = .ok (.newarray .int, 2) := by decide +kernel
theorem dX0_init_25 : decode cX0_init 25 = .ok (.putfield 17, 3) := by decide +kernel
theorem dX0_init_28 : decode cX0_init 28 = .ok (.aload_n 0, 1) := by decide +kernel
theorem dX0_init_29 : decode cX0_init 29 = .ok (.bipush 10, 2) := by decide +kernel
theorem dX0_init_31 : decode cX0_init 31 = .ok (.newarray .int, 2) := by decide +kernel
theorem dX0_init_33 : decode cX0_init 33 = .ok (.putfield 20, 3) := by decide +kernel
theorem dX0_init_36 : decode cX0_init 36 = .ok (.aload_n 0, 1) := by decide +kernel
theorem dX0_init_37 : decode cX0_init 37 = .ok (.bipush 10, 2) := by decide +kernel
theorem dX0_init_39 : decode cX0_init 39 = .ok (.newarray .int, 2) := by decide +kernel
theorem dX0_init_41 : decode cX0_init 41 = .ok (.putfield 23, 3) := by decide +kernel
theorem dX0_init_44 : decode cX0_init 44 = .ok (.aload_n 0, 1) := by decide +kernel
theorem dX0_init_45 : decode cX0_init 45 = .ok (.bipush 6, 2) := by decide +kernel
theorem dX0_init_47 : decode cX0_init 47 = .ok (.newarray .int, 2) := by decide +kernel
theorem dX0_init_49 : decode cX0_init 49 = .ok (.putfield 26, 3) := by decide +kernel
theorem dX0_init_52 : decode cX0_init 52 = .ok (.aload_n 0, 1) := by decide +kernel
theorem dX0_init_53 : decode cX0_init 53 = .ok (.bipush 6, 2) := by decide +kernel
theorem dX0_init_55 : decode cX0_init 55 = .ok (.newarray .boolean, 2) := by decide +kernel
theorem dX0_init_57 : decode cX0_init 57 = .ok (.putfield 29, 3) := by decide +kernel
theorem dX0_init_60 : decode cX0_init 60 = .ok (.aload_n 0, 1) := by decide +kernel
theorem dX0_init_61 : decode cX0_init 61 = .ok (.bipush 6, 2) := by decide +kernel
theorem dX0_init_63 : decode cX0_init 63 = .ok (.newarray .int, 2) := by decide +kernel
theorem dX0_init_65 : decode cX0_init 65 = .ok (.putfield 32, 3) := by decide +kernel
theorem dX0_init_68 : decode cX0_init 68 = .ok (.aload_n 0, 1) := by decide +kernel
theorem dX0_init_69 : decode cX0_init 69 = .ok (.bipush 60, 2) := by decide +kernel
theorem dX0_init_71 : decode cX0_init 71 = .ok (.newarray .int, 2) := by decide +kernel
theorem dX0_init_73 : decode cX0_init 73 = .ok (.putfield 35, 3) := by decide +kernel
theorem dX0_init_76 : decode cX0_init 76 = .ok (.aload_n 0, 1) := by decide +kernel
theorem dX0_init_77 : decode cX0_init 77 = .ok (.bipush 60, 2) := by decide +kernel
theorem dX0_init_79 : decode cX0_init 79 = .ok (.newarray .int, 2) := by decide +kernel
theorem dX0_init_81 : decode cX0_init 81 = .ok (.putfield 38, 3) := by decide +kernel
theorem dX0_init_84 : decode cX0_init 84 = .ok (.return_, 1) := by decide +kernel
theorem dX0_addPerson_0 : decode cX0_addPerson 0 = .ok (.iload_n 1, 1) := by decide +kernel
theorem dX0_addPerson_1 : decode cX0_addPerson 1 = .ok (.ifCond .lt 9, 3) := by decide +kernel
theorem dX0_addPerson_4 : decode cX0_addPerson 4 = .ok (.iload_n 1, 1) := by decide +kernel
theorem dX0_addPerson_5 : decode cX0_addPerson 5 = .ok (.bipush 99, 2) := by decide +kernel
theorem dX0_addPerson_7 : decode cX0_addPerson 7 = .ok (.if_icmp .le 13, 3) := by decide +kernel
theorem dX0_addPerson_10 : decode cX0_addPerson 10 = .ok (.new 41, 3) := by decide +kernel
theorem dX0_addPerson_13 : decode cX0_addPerson 13 = .ok (.dup, 1) := by decide +kernel
theorem dX0_addPerson_14 : decode cX0_addPerson 14 = .ok (.ldc 43, 2) := by decide +kernel
theorem dX0_addPerson_16 : decode cX0_addPerson 16 = .ok (.invokespecial 45, 3) := by decide +kernel
theorem dX0_addPerson_19 : decode cX0_addPerson 19 = .ok (.athrow, 1) := by decide +kernel
theorem dX0_addPerson_20 : decode cX0_addPerson 20 = .ok (.aload_n 0, 1) := by decide +kernel
theorem dX0_addPerson_21 : decode cX0_addPerson 21 = .ok (.getfield 48, 3) := by decide +kernel
theorem dX0_addPerson_24 : decode cX0_addPerson 24 = .ok (.bipush 10, 2) := by decide +kernel
theorem dX0_addPerson_26 : decode cX0_addPerson 26 = .ok (.if_icmp .lt 13, 3) := by decide +kernel
theorem dX0_addPerson_29 : decode cX0_addPerson 29 = .ok (.new 52, 3) := by decide +kernel
theorem dX0_addPerson_32 : decode cX0_addPerson 32 = .ok (.dup, 1) := by decide +kernel
theorem dX0_addPerson_33 : decode cX0_addPerson 33 = .ok (.ldc 54, 2) := by decide +kernel
theorem dX0_addPerson_35 : decode cX0_addPerson 35 = .ok (.invokespecial 56, 3) := by decide +kernel
theorem dX0_addPerson_38 : decode cX0_addPerson 38 = .ok (.athrow, 1) := by decide +kernel
theorem dX0_addPerson_39 : decode cX0_addPerson 39 = .ok (.aload_n 0, 1) := by decide +kernel
theorem dX0_addPerson_40 : decode cX0_addPerson 40 = .ok (.getfield 48, 3) := by decide +kernel
theorem dX0_addPerson_43 : decode cX0_addPerson 43 = .ok (.istore_n 2, 1) := by decide +kernel
theorem dX0_addPerson_44 : decode cX0_addPerson 44 = .ok (.aload_n 0, 1) := by decide +kernel
theorem dX0_addPerson_45 : decode cX0_addPerson 45 = .ok (.getfield 9, 3) := by decide +kernel
theorem dX0_addPerson_48 : decode cX0_addPerson 48 = .ok (.iload_n 2, 1) := by decide +kernel
theorem dX0_addPerson_49 : decode cX0_addPerson 49 = .ok (.iconst 1, 1) := by decide +kernel
theorem dX0_addPerson_50 : decode cX0_addPerson 50 = .ok (.bastore, 1) := by decide +kernel
theorem dX0_addPerson_51 : decode cX0_addPerson 51 = .ok (.aload_n 0, 1) := by decide +kernel
theorem dX0_addPerson_52 : decode cX0_addPerson 52 = .ok (.getfield 13, 3) := by decide +kernel
theorem dX0_addPerson_55 : decode cX0_addPerson 55 = .ok (.iload_n 2, 1) := by decide +kernel
theorem dX0_addPerson_56 : decode cX0_addPerson 56 = .ok (.iload_n 1, 1) := by decide +kernel
theorem dX0_addPerson_57 : decode cX0_addPerson 57 = .ok (.iastore, 1) := by decide +kernel
theorem dX0_addPerson_58 : decode cX0_addPerson 58 = .ok (.aload_n 0, 1) := by decide +kernel
theorem dX0_addPerson_59 : decode cX0_addPerson 59 = .ok (.getfield 17, 3) := by decide +kernel
theorem dX0_addPerson_62 : decode cX0_addPerson 62 = .ok (.iload_n 2, 1) := by decide +kernel
theorem dX0_addPerson_63 : decode cX0_addPerson 63 = .ok (.bipush 100, 2) := by decide +kernel
theorem dX0_addPerson_65 : decode cX0_addPerson 65 = .ok (.iastore, 1) := by decide +kernel
theorem dX0_addPerson_66 : decode cX0_addPerson 66 = .ok (.aload_n 0, 1) := by decide +kernel
theorem dX0_addPerson_67 : decode cX0_addPerson 67 = .ok (.getfield 20, 3) := by decide +kernel
theorem dX0_addPerson_70 : decode cX0_addPerson 70 = .ok (.iload_n 2, 1) := by decide +kernel
theorem dX0_addPerson_71 : decode cX0_addPerson 71 = .ok (.iconst 0, 1) := by decide +kernel
theorem dX0_addPerson_72 : decode cX0_addPerson 72 = .ok (.iastore, 1) := by decide +kernel
theorem dX0_addPerson_73 : decode cX0_addPerson 73 = .ok (.aload_n 0, 1) := by decide +kernel
theorem dX0_addPerson_74 : decode cX0_addPerson 74 = .ok (.getfield 23, 3) := by decide +kernel
theorem dX0_addPerson_77 : decode cX0_addPerson 77 = .ok (.iload_n 2, 1) := by decide +kernel
theorem dX0_addPerson_78 : decode cX0_addPerson 78 = .ok (.iconst (-1), 1) := by decide +kernel
theorem dX0_addPerson_79 : decode cX0_addPerson 79 = .ok (.iastore, 1) := by decide +kernel
theorem dX0_addPerson_80 : decode cX0_addPerson 80 = .ok (.aload_n 0, 1) := by decide +kernel
theorem dX0_addPerson_81 : decode cX0_addPerson 81 = .ok (.dup, 1) := by decide +kernel
theorem dX0_addPerson_82 : decode cX0_addPerson 82 = .ok (.getfield 48, 3) := by decide +kernel
theorem dX0_addPerson_85 : decode cX0_addPerson 85 = .ok (.iconst 1, 1) := by decide +kernel
theorem dX0_addPerson_86 : decode cX0_addPerson 86 = .ok (.iadd, 1) := by decide +kernel
theorem dX0_addPerson_87 : decode cX0_addPerson 87 = .ok (.putfield 48, 3) := by decide +kernel
theorem dX0_addPerson_90 : decode cX0_addPerson 90 = .ok (.iload_n 2, 1) := by decide +kernel
theorem dX0_addPerson_91 : decode cX0_addPerson 91 = .ok (.ireturn, 1) := by decide +kernel
theorem dX0_addWitness_0 : decode cX0_addWitness 0 = .ok (.iload_n 1, 1) := by decide +kernel
theorem dX0_addWitness_1 : decode cX0_addWitness 1 = .ok (.ifCond .lt 9, 3) := by decide +kernel
theorem dX0_addWitness_4 : decode cX0_addWitness 4 = .ok (.iload_n 1, 1) := by decide +kernel
theorem dX0_addWitness_5 : decode cX0_addWitness 5 = .ok (.bipush 9, 2) := by decide +kernel
theorem dX0_addWitness_7 : decode cX0_addWitness 7 = .ok (.if_icmp .le 13, 3) := by decide +kernel
theorem dX0_addWitness_10 : decode cX0_addWitness 10 = .ok (.new 41, 3) := by decide +kernel
theorem dX0_addWitness_13 : decode cX0_addWitness 13 = .ok (.dup, 1) := by decide +kernel
theorem dX0_addWitness_14 : decode cX0_addWitness 14 = .ok (.ldc 57, 2) := by decide +kernel
theorem dX0_addWitness_16 : decode cX0_addWitness 16 = .ok (.invokespecial 45, 3) := by decide +kernel
theorem dX0_addWitness_19 : decode cX0_addWitness 19 = .ok (.athrow, 1) := by decide +kernel
theorem dX0_addWitness_20 : decode cX0_addWitness 20 = .ok (.aload_n 0, 1) := by decide +kernel
theorem dX0_addWitness_21 : decode cX0_addWitness 21 = .ok (.getfield 59, 3) := by decide +kernel
theorem dX0_addWitness_24 : decode cX0_addWitness 24 = .ok (.bipush 6, 2) := by decide +kernel
theorem dX0_addWitness_26 : decode cX0_addWitness 26 = .ok (.if_icmp .lt 13, 3) := by decide +kernel
theorem dX0_addWitness_29 : decode cX0_addWitness 29 = .ok (.new 52, 3) := by decide +kernel
theorem dX0_addWitness_32 : decode cX0_addWitness 32 = .ok (.dup, 1) := by decide +kernel
theorem dX0_addWitness_33 : decode cX0_addWitness 33 = .ok (.ldc 62, 2) := by decide +kernel
theorem dX0_addWitness_35 : decode cX0_addWitness 35 = .ok (.invokespecial 56, 3) := by decide +kernel
theorem dX0_addWitness_38 : decode cX0_addWitness 38 = .ok (.athrow, 1) := by decide +kernel
theorem dX0_addWitness_39 : decode cX0_addWitness 39 = .ok (.aload_n 0, 1) := by decide +kernel
theorem dX0_addWitness_40 : decode cX0_addWitness 40 = .ok (.getfield 59, 3) := by decide +kernel
theorem dX0_addWitness_43 : decode cX0_addWitness 43 = .ok (.istore_n 2, 1) := by decide +kernel
theorem dX0_addWitness_44 : decode cX0_addWitness 44 = .ok (.aload_n 0, 1) := by decide +kernel
theorem dX0_addWitness_45 : decode cX0_addWitness 45 = .ok (.getfield 26, 3) := by decide +kernel
theorem dX0_addWitness_48 : decode cX0_addWitness 48 = .ok (.iload_n 2, 1) := by decide +kernel
theorem dX0_addWitness_49 : decode cX0_addWitness 49 = .ok (.iload_n 1, 1) := by decide +kernel
theorem dX0_addWitness_50 : decode cX0_addWitness 50 = .ok (.iastore, 1) := by decide +kernel
theorem dX0_addWitness_51 : decode cX0_addWitness 51 = .ok (.aload_n 0, 1) := by decide +kernel
theorem dX0_addWitness_52 : decode cX0_addWitness 52 = .ok (.getfield 29, 3) := by decide +kernel
theorem dX0_addWitness_55 : decode cX0_addWitness 55 = .ok (.iload_n 2, 1) := by decide +kernel
theorem dX0_addWitness_56 : decode cX0_addWitness 56 = .ok (.iconst 1, 1) := by decide +kernel
theorem dX0_addWitness_57 : decode cX0_addWitness 57 = .ok (.bastore, 1) := by decide +kernel
theorem dX0_addWitness_58 : decode cX0_addWitness 58 = .ok (.aload_n 0, 1) := by decide +kernel
theorem dX0_addWitness_59 : decode cX0_addWitness 59 = .ok (.dup, 1) := by decide +kernel
theorem dX0_addWitness_60 : decode cX0_addWitness 60 = .ok (.getfield 59, 3) := by decide +kernel
theorem dX0_addWitness_63 : decode cX0_addWitness 63 = .ok (.iconst 1, 1) := by decide +kernel
theorem dX0_addWitness_64 : decode cX0_addWitness 64 = .ok (.iadd, 1) := by decide +kernel
theorem dX0_addWitness_65 : decode cX0_addWitness 65 = .ok (.putfield 59, 3) := by decide +kernel
theorem dX0_addWitness_68 : decode cX0_addWitness 68 = .ok (.iload_n 2, 1) := by decide +kernel
theorem dX0_addWitness_69 : decode cX0_addWitness 69 = .ok (.ireturn, 1) := by decide +kernel
theorem dX0_setHeir_0 : decode cX0_setHeir 0 = .ok (.aload_n 0, 1) := by decide +kernel
theorem dX0_setHeir_1 : decode cX0_setHeir 1 = .ok (.iload_n 1, 1) := by decide +kernel
theorem dX0_setHeir_2 : decode cX0_setHeir 2 = .ok (.invokevirtual 64, 3) := by decide +kernel
theorem dX0_setHeir_5 : decode cX0_setHeir 5 = .ok (.iload_n 2, 1) := by decide +kernel
theorem dX0_setHeir_6 : decode cX0_setHeir 6 = .ok (.iconst (-1), 1) := by decide +kernel
theorem dX0_setHeir_7 : decode cX0_setHeir 7 = .ok (.if_icmp .eq 8, 3) := by decide +kernel
theorem dX0_setHeir_10 : decode cX0_setHeir 10 = .ok (.aload_n 0, 1) := by decide +kernel
theorem dX0_setHeir_11 : decode cX0_setHeir 11 = .ok (.iload_n 2, 1) := by decide +kernel
theorem dX0_setHeir_12 : decode cX0_setHeir 12 = .ok (.invokevirtual 64, 3) := by decide +kernel
theorem dX0_setHeir_15 : decode cX0_setHeir 15 = .ok (.iload_n 1, 1) := by decide +kernel
theorem dX0_setHeir_16 : decode cX0_setHeir 16 = .ok (.iload_n 2, 1) := by decide +kernel
theorem dX0_setHeir_17 : decode cX0_setHeir 17 = .ok (.if_icmp .ne 13, 3) := by decide +kernel
theorem dX0_setHeir_20 : decode cX0_setHeir 20 = .ok (.new 41, 3) := by decide +kernel
theorem dX0_setHeir_23 : decode cX0_setHeir 23 = .ok (.dup, 1) := by decide +kernel
theorem dX0_setHeir_24 : decode cX0_setHeir 24 = .ok (.ldc 68, 2) := by decide +kernel
theorem dX0_setHeir_26 : decode cX0_setHeir 26 = .ok (.invokespecial 45, 3) := by decide +kernel
theorem dX0_setHeir_29 : decode cX0_setHeir 29 = .ok (.athrow, 1) := by decide +kernel
theorem dX0_setHeir_30 : decode cX0_setHeir 30 = .ok (.aload_n 0, 1) := by decide +kernel
theorem dX0_setHeir_31 : decode cX0_setHeir 31 = .ok (.iload_n 1, 1) := by decide +kernel
theorem dX0_setHeir_32 : decode cX0_setHeir 32 = .ok (.invokevirtual 70, 3) := by decide +kernel
theorem dX0_setHeir_35 : decode cX0_setHeir 35 = .ok (.aload_n 0, 1) := by decide +kernel
theorem dX0_setHeir_36 : decode cX0_setHeir 36 = .ok (.getfield 23, 3) := by decide +kernel
theorem dX0_setHeir_39 : decode cX0_setHeir 39 = .ok (.iload_n 1, 1) := by decide +kernel
theorem dX0_setHeir_40 : decode cX0_setHeir 40 = .ok (.iaload, 1) := by decide +kernel
theorem dX0_setHeir_41 : decode cX0_setHeir 41 = .ok (.istore_n 3, 1) := by decide +kernel
theorem dX0_setHeir_42 : decode cX0_setHeir 42 = .ok (.aload_n 0, 1) := by decide +kernel
theorem dX0_setHeir_43 : decode cX0_setHeir 43 = .ok (.getfield 23, 3) := by decide +kernel
theorem dX0_setHeir_46 : decode cX0_setHeir 46 = .ok (.iload_n 1, 1) := by decide +kernel
theorem dX0_setHeir_47 : decode cX0_setHeir 47 = .ok (.iload_n 2, 1) := by decide +kernel
theorem dX0_setHeir_48 : decode cX0_setHeir 48 = .ok (.iastore, 1) := by decide +kernel
theorem dX0_setHeir_49 : decode cX0_setHeir 49 = .ok (.iload_n 3, 1) := by decide +kernel
theorem dX0_setHeir_50 : decode cX0_setHeir 50 = .ok (.ireturn, 1) := by decide +kernel
theorem dX0_buyFate_0 : decode cX0_buyFate 0 = .ok (.aload_n 0, 1) := by decide +kernel
theorem dX0_buyFate_1 : decode cX0_buyFate 1 = .ok (.iload_n 1, 1) := by decide +kernel
theorem dX0_buyFate_2 : decode cX0_buyFate 2 = .ok (.invokevirtual 64, 3) := by decide +kernel
theorem dX0_buyFate_5 : decode cX0_buyFate 5 = .ok (.aload_n 0, 1) := by decide +kernel
theorem dX0_buyFate_6 : decode cX0_buyFate 6 = .ok (.iload_n 1, 1) := by decide +kernel
theorem dX0_buyFate_7 : decode cX0_buyFate 7 = .ok (.invokevirtual 70, 3) := by decide +kernel
theorem dX0_buyFate_10 : decode cX0_buyFate 10 = .ok (.aload_n 0, 1) := by decide +kernel
theorem dX0_buyFate_11 : decode cX0_buyFate 11 = .ok (.getfield 20, 3) := by decide +kernel
theorem dX0_buyFate_14 : decode cX0_buyFate 14 = .ok (.iload_n 1, 1) := by decide +kernel
theorem dX0_buyFate_15 : decode cX0_buyFate 15 = .ok (.iaload, 1) := by decide +kernel
theorem dX0_buyFate_16 : decode cX0_buyFate 16 = .ok (.bipush 9, 2) := by decide +kernel
theorem dX0_buyFate_18 : decode cX0_buyFate 18 = .ok (.if_icmp .lt 13, 3) := by decide +kernel
theorem dX0_buyFate_21 : decode cX0_buyFate 21 = .ok (.new 52, 3) := by decide +kernel
theorem dX0_buyFate_24 : decode cX0_buyFate 24 = .ok (.dup, 1) := by decide +kernel
theorem dX0_buyFate_25 : decode cX0_buyFate 25 = .ok (.ldc 73, 2) := by decide +kernel
theorem dX0_buyFate_27 : decode cX0_buyFate 27 = .ok (.invokespecial 56, 3) := by decide +kernel
theorem dX0_buyFate_30 : decode cX0_buyFate 30 = .ok (.athrow, 1) := by decide +kernel
theorem dX0_buyFate_31 : decode cX0_buyFate 31 = .ok (.aload_n 0, 1) := by decide +kernel
theorem dX0_buyFate_32 : decode cX0_buyFate 32 = .ok (.iload_n 1, 1) := by decide +kernel
theorem dX0_buyFate_33 : decode cX0_buyFate 33 = .ok (.invokevirtual 75, 3) := by decide +kernel
theorem dX0_buyFate_36 : decode cX0_buyFate 36 = .ok (.istore_n 2, 1) := by decide +kernel
theorem dX0_buyFate_37 : decode cX0_buyFate 37 = .ok (.aload_n 0, 1) := by decide +kernel
theorem dX0_buyFate_38 : decode cX0_buyFate 38 = .ok (.getfield 17, 3) := by decide +kernel
theorem dX0_buyFate_41 : decode cX0_buyFate 41 = .ok (.iload_n 1, 1) := by decide +kernel
theorem dX0_buyFate_42 : decode cX0_buyFate 42 = .ok (.iaload, 1) := by decide +kernel
theorem dX0_buyFate_43 : decode cX0_buyFate 43 = .ok (.iload_n 2, 1) := by decide +kernel
theorem dX0_buyFate_44 : decode cX0_buyFate 44 = .ok (.if_icmp .ge 13, 3) := by decide +kernel
theorem dX0_buyFate_47 : decode cX0_buyFate 47 = .ok (.new 52, 3) := by decide +kernel
theorem dX0_buyFate_50 : decode cX0_buyFate 50 = .ok (.dup, 1) := by decide +kernel
theorem dX0_buyFate_51 : decode cX0_buyFate 51 = .ok (.ldc 79, 2) := by decide +kernel
theorem dX0_buyFate_53 : decode cX0_buyFate 53 = .ok (.invokespecial 56, 3) := by decide +kernel
theorem dX0_buyFate_56 : decode cX0_buyFate 56 = .ok (.athrow, 1) := by decide +kernel
theorem dX0_buyFate_57 : decode cX0_buyFate 57 = .ok (.aload_n 0, 1) := by decide +kernel
theorem dX0_buyFate_58 : decode cX0_buyFate 58 = .ok (.getfield 17, 3) := by decide +kernel
theorem dX0_buyFate_61 : decode cX0_buyFate 61 = .ok (.iload_n 1, 1) := by decide +kernel
theorem dX0_buyFate_62 : decode cX0_buyFate 62 = .ok (.dup2, 1) := by decide +kernel
theorem dX0_buyFate_63 : decode cX0_buyFate 63 = .ok (.iaload, 1) := by decide +kernel
theorem dX0_buyFate_64 : decode cX0_buyFate 64 = .ok (.iload_n 2, 1) := by decide +kernel
theorem dX0_buyFate_65 : decode cX0_buyFate 65 = .ok (.isub, 1) := by decide +kernel
theorem dX0_buyFate_66 : decode cX0_buyFate 66 = .ok (.iastore, 1) := by decide +kernel
theorem dX0_buyFate_67 : decode cX0_buyFate 67 = .ok (.aload_n 0, 1) := by decide +kernel
theorem dX0_buyFate_68 : decode cX0_buyFate 68 = .ok (.dup, 1) := by decide +kernel
theorem dX0_buyFate_69 : decode cX0_buyFate 69 = .ok (.getfield 81, 3) := by decide +kernel
theorem dX0_buyFate_72 : decode cX0_buyFate 72 = .ok (.iload_n 2, 1) := by decide +kernel
theorem dX0_buyFate_73 : decode cX0_buyFate 73 = .ok (.iadd, 1) := by decide +kernel
theorem dX0_buyFate_74 : decode cX0_buyFate 74 = .ok (.putfield 81, 3) := by decide +kernel
theorem dX0_buyFate_77 : decode cX0_buyFate 77 = .ok (.aload_n 0, 1) := by decide +kernel
theorem dX0_buyFate_78 : decode cX0_buyFate 78 = .ok (.getfield 20, 3) := by decide +kernel
theorem dX0_buyFate_81 : decode cX0_buyFate 81 = .ok (.iload_n 1, 1) := by decide +kernel
theorem dX0_buyFate_82 : decode cX0_buyFate 82 = .ok (.dup2, 1) := by decide +kernel
theorem dX0_buyFate_83 : decode cX0_buyFate 83 = .ok (.iaload, 1) := by decide +kernel
theorem dX0_buyFate_84 : decode cX0_buyFate 84 = .ok (.iconst 1, 1) := by decide +kernel
theorem dX0_buyFate_85 : decode cX0_buyFate 85 = .ok (.iadd, 1) := by decide +kernel
theorem dX0_buyFate_86 : decode cX0_buyFate 86 = .ok (.iastore, 1) := by decide +kernel
theorem dX0_buyFate_87 : decode cX0_buyFate 87 = .ok (.iload_n 2, 1) := by decide +kernel
theorem dX0_buyFate_88 : decode cX0_buyFate 88 = .ok (.ireturn, 1) := by decide +kernel
theorem dX0_turnDuty_0 : decode cX0_turnDuty 0 = .ok (.aload_n 0, 1) := by decide +kernel
theorem dX0_turnDuty_1 : decode cX0_turnDuty 1 = .ok (.iload_n 1, 1) := by decide +kernel
theorem dX0_turnDuty_2 : decode cX0_turnDuty 2 = .ok (.invokevirtual 84, 3) := by decide +kernel
theorem dX0_turnDuty_5 : decode cX0_turnDuty 5 = .ok (.aload_n 0, 1) := by decide +kernel
theorem dX0_turnDuty_6 : decode cX0_turnDuty 6 = .ok (.getfield 29, 3) := by decide +kernel
theorem dX0_turnDuty_9 : decode cX0_turnDuty 9 = .ok (.iload_n 1, 1) := by decide +kernel
theorem dX0_turnDuty_10 : decode cX0_turnDuty 10 = .ok (.aload_n 0, 1) := by decide +kernel
theorem dX0_turnDuty_11 : decode cX0_turnDuty 11 = .ok (.getfield 29, 3) := by decide +kernel
theorem dX0_turnDuty_14 : decode cX0_turnDuty 14 = .ok (.iload_n 1, 1) := by decide +kernel
theorem dX0_turnDuty_15 : decode cX0_turnDuty 15 = .ok (.baload, 1) := by decide +kernel
theorem dX0_turnDuty_16 : decode cX0_turnDuty 16 = .ok (.ifCond .ne 7, 3) := by decide +kernel
theorem dX0_turnDuty_19 : decode cX0_turnDuty 19 = .ok (.iconst 1, 1) := by decide +kernel
theorem dX0_turnDuty_20 : decode cX0_turnDuty 20 = .ok (.goto 4, 3) := by decide +kernel
theorem dX0_turnDuty_23 : decode cX0_turnDuty 23 = .ok (.iconst 0, 1) := by decide +kernel
theorem dX0_turnDuty_24 : decode cX0_turnDuty 24 = .ok (.bastore, 1) := by decide +kernel
theorem dX0_turnDuty_25 : decode cX0_turnDuty 25 = .ok (.aload_n 0, 1) := by decide +kernel
theorem dX0_turnDuty_26 : decode cX0_turnDuty 26 = .ok (.getfield 29, 3) := by decide +kernel
theorem dX0_turnDuty_29 : decode cX0_turnDuty 29 = .ok (.iload_n 1, 1) := by decide +kernel
theorem dX0_turnDuty_30 : decode cX0_turnDuty 30 = .ok (.baload, 1) := by decide +kernel
theorem dX0_turnDuty_31 : decode cX0_turnDuty 31 = .ok (.ireturn, 1) := by decide +kernel
theorem dX0_miss_0 : decode cX0_miss 0 = .ok (.aload_n 0, 1) := by decide +kernel
theorem dX0_miss_1 : decode cX0_miss 1 = .ok (.iload_n 1, 1) := by decide +kernel
theorem dX0_miss_2 : decode cX0_miss 2 = .ok (.invokevirtual 64, 3) := by decide +kernel
theorem dX0_miss_5 : decode cX0_miss 5 = .ok (.aload_n 0, 1) := by decide +kernel
theorem dX0_miss_6 : decode cX0_miss 6 = .ok (.iload_n 2, 1) := by decide +kernel
theorem dX0_miss_7 : decode cX0_miss 7 = .ok (.invokevirtual 87, 3) := by decide +kernel
theorem dX0_miss_10 : decode cX0_miss 10 = .ok (.aload_n 0, 1) := by decide +kernel
theorem dX0_miss_11 : decode cX0_miss 11 = .ok (.iload_n 1, 1) := by decide +kernel
theorem dX0_miss_12 : decode cX0_miss 12 = .ok (.invokevirtual 70, 3) := by decide +kernel
theorem dX0_miss_15 : decode cX0_miss 15 = .ok (.aload_n 0, 1) := by decide +kernel
theorem dX0_miss_16 : decode cX0_miss 16 = .ok (.getfield 90, 3) := by decide +kernel
theorem dX0_miss_19 : decode cX0_miss 19 = .ok (.bipush 60, 2) := by decide +kernel
theorem dX0_miss_21 : decode cX0_miss 21 = .ok (.if_icmp .lt 13, 3) := by decide +kernel
theorem dX0_miss_24 : decode cX0_miss 24 = .ok (.new 52, 3) := by decide +kernel
theorem dX0_miss_27 : decode cX0_miss 27 = .ok (.dup, 1) := by decide +kernel
theorem dX0_miss_28 : decode cX0_miss 28 = .ok (.ldc 93, 2) := by decide +kernel
theorem dX0_miss_30 : decode cX0_miss 30 = .ok (.invokespecial 56, 3) := by decide +kernel
theorem dX0_miss_33 : decode cX0_miss 33 = .ok (.athrow, 1) := by decide +kernel
theorem dX0_miss_34 : decode cX0_miss 34 = .ok (.aload_n 0, 1) := by decide +kernel
theorem dX0_miss_35 : decode cX0_miss 35 = .ok (.iload_n 2, 1) := by decide +kernel
theorem dX0_miss_36 : decode cX0_miss 36 = .ok (.invokevirtual 95, 3) := by decide +kernel
theorem dX0_miss_39 : decode cX0_miss 39 = .ok (.istore_n 3, 1) := by decide +kernel
theorem dX0_miss_40 : decode cX0_miss 40 = .ok (.aload_n 0, 1) := by decide +kernel
theorem dX0_miss_41 : decode cX0_miss 41 = .ok (.iload_n 1, 1) := by decide +kernel
theorem dX0_miss_42 : decode cX0_miss 42 = .ok (.iload_n 3, 1) := by decide +kernel
theorem dX0_miss_43 : decode cX0_miss 43 = .ok (.invokevirtual 98, 3) := by decide +kernel
theorem dX0_miss_46 : decode cX0_miss 46 = .ok (.aload_n 0, 1) := by decide +kernel
theorem dX0_miss_47 : decode cX0_miss 47 = .ok (.getfield 13, 3) := by decide +kernel
theorem dX0_miss_50 : decode cX0_miss 50 = .ok (.iload_n 1, 1) := by decide +kernel
theorem dX0_miss_51 : decode cX0_miss 51 = .ok (.iconst 0, 1) := by decide +kernel
theorem dX0_miss_52 : decode cX0_miss 52 = .ok (.aload_n 0, 1) := by decide +kernel
theorem dX0_miss_53 : decode cX0_miss 53 = .ok (.getfield 13, 3) := by decide +kernel
theorem dX0_miss_56 : decode cX0_miss 56 = .ok (.iload_n 1, 1) := by decide +kernel
theorem dX0_miss_57 : decode cX0_miss 57 = .ok (.iaload, 1) := by decide +kernel
theorem dX0_miss_58 : decode cX0_miss 58 = .ok (.bipush 60, 2) := by decide +kernel
theorem dX0_miss_60 : decode cX0_miss 60 = .ok (.iload_n 2, 1) := by decide +kernel
theorem dX0_miss_61 : decode cX0_miss 61 = .ok (.isub, 1) := by decide +kernel
theorem dX0_miss_62 : decode cX0_miss 62 = .ok (.bipush 10, 2) := by decide +kernel
theorem dX0_miss_64 : decode cX0_miss 64 = .ok (.idiv, 1) := by decide +kernel
theorem dX0_miss_65 : decode cX0_miss 65 = .ok (.isub, 1) := by decide +kernel
theorem dX0_miss_66 : decode cX0_miss 66 = .ok (.invokestatic 102, 3) := by decide +kernel
theorem dX0_miss_69 : decode cX0_miss 69 = .ok (.iastore, 1) := by decide +kernel
theorem dX0_miss_70 : decode cX0_miss 70 = .ok (.aload_n 0, 1) := by decide +kernel
theorem dX0_miss_71 : decode cX0_miss 71 = .ok (.iload_n 2, 1) := by decide +kernel
theorem dX0_miss_72 : decode cX0_miss 72 = .ok (.invokestatic 108, 3) := by decide +kernel
theorem dX0_miss_75 : decode cX0_miss 75 = .ok (.invokevirtual 111, 3) := by decide +kernel
theorem dX0_miss_78 : decode cX0_miss 78 = .ok (.aload_n 0, 1) := by decide +kernel
theorem dX0_miss_79 : decode cX0_miss 79 = .ok (.getfield 35, 3) := by decide +kernel
theorem dX0_miss_82 : decode cX0_miss 82 = .ok (.aload_n 0, 1) := by decide +kernel
theorem dX0_miss_83 : decode cX0_miss 83 = .ok (.getfield 90, 3) := by decide +kernel
theorem dX0_miss_86 : decode cX0_miss 86 = .ok (.iload_n 1, 1) := by decide +kernel
theorem dX0_miss_87 : decode cX0_miss 87 = .ok (.iastore, 1) := by decide +kernel
theorem dX0_miss_88 : decode cX0_miss 88 = .ok (.aload_n 0, 1) := by decide +kernel
theorem dX0_miss_89 : decode cX0_miss 89 = .ok (.getfield 38, 3) := by decide +kernel
theorem dX0_miss_92 : decode cX0_miss 92 = .ok (.aload_n 0, 1) := by decide +kernel
theorem dX0_miss_93 : decode cX0_miss 93 = .ok (.getfield 90, 3) := by decide +kernel
theorem dX0_miss_96 : decode cX0_miss 96 = .ok (.iload_n 3, 1) := by decide +kernel
theorem dX0_miss_97 : decode cX0_miss 97 = .ok (.iastore, 1) := by decide +kernel
theorem dX0_miss_98 : decode cX0_miss 98 = .ok (.aload_n 0, 1) := by decide +kernel
theorem dX0_miss_99 : decode cX0_miss 99 = .ok (.dup, 1) := by decide +kernel
theorem dX0_miss_100 : decode cX0_miss 100 = .ok (.getfield 90, 3) := by decide +kernel
theorem dX0_miss_103 : decode cX0_miss 103 = .ok (.iconst 1, 1) := by decide +kernel
theorem dX0_miss_104 : decode cX0_miss 104 = .ok (.iadd, 1) := by decide +kernel
theorem dX0_miss_105 : decode cX0_miss 105 = .ok (.putfield 90, 3) := by decide +kernel
theorem dX0_miss_108 : decode cX0_miss 108 = .ok (.iload_n 3, 1) := by decide +kernel
theorem dX0_miss_109 : decode cX0_miss 109 = .ok (.ireturn, 1) := by decide +kernel
theorem dX0_hit_0 : decode cX0_hit 0 = .ok (.aload_n 0, 1) := by decide +kernel
theorem dX0_hit_1 : decode cX0_hit 1 = .ok (.iload_n 1, 1) := by decide +kernel
theorem dX0_hit_2 : decode cX0_hit 2 = .ok (.invokevirtual 64, 3) := by decide +kernel
theorem dX0_hit_5 : decode cX0_hit 5 = .ok (.aload_n 0, 1) := by decide +kernel
theorem dX0_hit_6 : decode cX0_hit 6 = .ok (.iload_n 1, 1) := by decide +kernel
theorem dX0_hit_7 : decode cX0_hit 7 = .ok (.invokevirtual 70, 3) := by decide +kernel
theorem dX0_hit_10 : decode cX0_hit 10 = .ok (.aload_n 0, 1) := by decide +kernel
theorem dX0_hit_11 : decode cX0_hit 11 = .ok (.getfield 9, 3) := by decide +kernel
theorem dX0_hit_14 : decode cX0_hit 14 = .ok (.iload_n 1, 1) := by decide +kernel
theorem dX0_hit_15 : decode cX0_hit 15 = .ok (.iconst 0, 1) := by decide +kernel
theorem dX0_hit_16 : decode cX0_hit 16 = .ok (.bastore, 1) := by decide +kernel
theorem dX0_hit_17 : decode cX0_hit 17 = .ok (.aload_n 0, 1) := by decide +kernel
theorem dX0_hit_18 : decode cX0_hit 18 = .ok (.iload_n 1, 1) := by decide +kernel
theorem dX0_hit_19 : decode cX0_hit 19 = .ok (.invokevirtual 114, 3) := by decide +kernel
theorem dX0_hit_22 : decode cX0_hit 22 = .ok (.istore_n 2, 1) := by decide +kernel
theorem dX0_hit_23 : decode cX0_hit 23 = .ok (.aload_n 0, 1) := by decide +kernel
theorem dX0_hit_24 : decode cX0_hit 24 = .ok (.iload_n 2, 1) := by decide +kernel
theorem dX0_hit_25 : decode cX0_hit 25 = .ok (.invokevirtual 117, 3) := by decide +kernel
theorem dX0_hit_28 : decode cX0_hit 28 = .ok (.ifCond .eq 47, 3) := by decide +kernel
theorem dX0_hit_31 : decode cX0_hit 31 = .ok (.aload_n 0, 1) := by decide +kernel
theorem dX0_hit_32 : decode cX0_hit 32 = .ok (.getfield 13, 3) := by decide +kernel
theorem dX0_hit_35 : decode cX0_hit 35 = .ok (.iload_n 2, 1) := by decide +kernel
theorem dX0_hit_36 : decode cX0_hit 36 = .ok (.bipush 99, 2) := by decide +kernel
theorem dX0_hit_38 : decode cX0_hit 38 = .ok (.aload_n 0, 1) := by decide +kernel
theorem dX0_hit_39 : decode cX0_hit 39 = .ok (.getfield 13, 3) := by decide +kernel
theorem dX0_hit_42 : decode cX0_hit 42 = .ok (.iload_n 2, 1) := by decide +kernel
theorem dX0_hit_43 : decode cX0_hit 43 = .ok (.iaload, 1) := by decide +kernel
theorem dX0_hit_44 : decode cX0_hit 44 = .ok (.aload_n 0, 1) := by decide +kernel
theorem dX0_hit_45 : decode cX0_hit 45 = .ok (.getfield 13, 3) := by decide +kernel
theorem dX0_hit_48 : decode cX0_hit 48 = .ok (.iload_n 1, 1) := by decide +kernel
theorem dX0_hit_49 : decode cX0_hit 49 = .ok (.iaload, 1) := by decide +kernel
theorem dX0_hit_50 : decode cX0_hit 50 = .ok (.iconst 2, 1) := by decide +kernel
theorem dX0_hit_51 : decode cX0_hit 51 = .ok (.idiv, 1) := by decide +kernel
theorem dX0_hit_52 : decode cX0_hit 52 = .ok (.iadd, 1) := by decide +kernel
theorem dX0_hit_53 : decode cX0_hit 53 = .ok (.invokestatic 121, 3) := by decide +kernel
theorem dX0_hit_56 : decode cX0_hit 56 = .ok (.iastore, 1) := by decide +kernel
theorem dX0_hit_57 : decode cX0_hit 57 = .ok (.aload_n 0, 1) := by decide +kernel
theorem dX0_hit_58 : decode cX0_hit 58 = .ok (.getfield 17, 3) := by decide +kernel
theorem dX0_hit_61 : decode cX0_hit 61 = .ok (.iload_n 2, 1) := by decide +kernel
theorem dX0_hit_62 : decode cX0_hit 62 = .ok (.dup2, 1) := by decide +kernel
theorem dX0_hit_63 : decode cX0_hit 63 = .ok (.iaload, 1) := by decide +kernel
theorem dX0_hit_64 : decode cX0_hit 64 = .ok (.aload_n 0, 1) := by decide +kernel
theorem dX0_hit_65 : decode cX0_hit 65 = .ok (.getfield 17, 3) := by decide +kernel
theorem dX0_hit_68 : decode cX0_hit 68 = .ok (.iload_n 1, 1) := by decide +kernel
theorem dX0_hit_69 : decode cX0_hit 69 = .ok (.iaload, 1) := by decide +kernel
theorem dX0_hit_70 : decode cX0_hit 70 = .ok (.iadd, 1) := by decide +kernel
theorem dX0_hit_71 : decode cX0_hit 71 = .ok (.iastore, 1) := by decide +kernel
theorem dX0_hit_72 : decode cX0_hit 72 = .ok (.goto 18, 3) := by decide +kernel
theorem dX0_hit_75 : decode cX0_hit 75 = .ok (.aload_n 0, 1) := by decide +kernel
theorem dX0_hit_76 : decode cX0_hit 76 = .ok (.dup, 1) := by decide +kernel
theorem dX0_hit_77 : decode cX0_hit 77 = .ok (.getfield 81, 3) := by decide +kernel
theorem dX0_hit_80 : decode cX0_hit 80 = .ok (.aload_n 0, 1) := by decide +kernel
theorem dX0_hit_81 : decode cX0_hit 81 = .ok (.getfield 17, 3) := by decide +kernel
theorem dX0_hit_84 : decode cX0_hit 84 = .ok (.iload_n 1, 1) := by decide +kernel
theorem dX0_hit_85 : decode cX0_hit 85 = .ok (.iaload, 1) := by decide +kernel
theorem dX0_hit_86 : decode cX0_hit 86 = .ok (.iadd, 1) := by decide +kernel
theorem dX0_hit_87 : decode cX0_hit 87 = .ok (.putfield 81, 3) := by decide +kernel
theorem dX0_hit_90 : decode cX0_hit 90 = .ok (.aload_n 0, 1) := by decide +kernel
theorem dX0_hit_91 : decode cX0_hit 91 = .ok (.getfield 17, 3) := by decide +kernel
theorem dX0_hit_94 : decode cX0_hit 94 = .ok (.iload_n 1, 1) := by decide +kernel
theorem dX0_hit_95 : decode cX0_hit 95 = .ok (.iconst 0, 1) := by decide +kernel
theorem dX0_hit_96 : decode cX0_hit 96 = .ok (.iastore, 1) := by decide +kernel
theorem dX0_hit_97 : decode cX0_hit 97 = .ok (.aload_n 0, 1) := by decide +kernel
theorem dX0_hit_98 : decode cX0_hit 98 = .ok (.getfield 20, 3) := by decide +kernel
theorem dX0_hit_101 : decode cX0_hit 101 = .ok (.iload_n 1, 1) := by decide +kernel
theorem dX0_hit_102 : decode cX0_hit 102 = .ok (.iconst 0, 1) := by decide +kernel
theorem dX0_hit_103 : decode cX0_hit 103 = .ok (.iastore, 1) := by decide +kernel
theorem dX0_hit_104 : decode cX0_hit 104 = .ok (.iload_n 2, 1) := by decide +kernel
theorem dX0_hit_105 : decode cX0_hit 105 = .ok (.ireturn, 1) := by decide +kernel
theorem dX0_pass_0 : decode cX0_pass 0 = .ok (.iload_n 1, 1) := by decide +kernel
theorem dX0_pass_1 : decode cX0_pass 1 = .ok (.iconst 1, 1) := by decide +kernel
theorem dX0_pass_2 : decode cX0_pass 2 = .ok (.if_icmp .lt 9, 3) := by decide +kernel
theorem dX0_pass_5 : decode cX0_pass 5 = .ok (.iload_n 1, 1) := by decide +kernel
theorem dX0_pass_6 : decode cX0_pass 6 = .ok (.bipush 30, 2) := by decide +kernel
theorem dX0_pass_8 : decode cX0_pass 8 = .ok (.if_icmp .le 13, 3) := by decide +kernel
theorem dX0_pass_11 : decode cX0_pass 11 = .ok (.new 41, 3) := by decide +kernel
theorem dX0_pass_14 : decode cX0_pass 14 = .ok (.dup, 1) := by decide +kernel
theorem dX0_pass_15 : decode cX0_pass 15 = .ok (.ldc 124, 2) := by decide +kernel
theorem dX0_pass_17 : decode cX0_pass 17 = .ok (.invokespecial 45, 3) := by decide +kernel
theorem dX0_pass_20 : decode cX0_pass 20 = .ok (.athrow, 1) := by decide +kernel
theorem dX0_pass_21 : decode cX0_pass 21 = .ok (.iconst 0, 1) := by decide +kernel
theorem dX0_pass_22 : decode cX0_pass 22 = .ok (.istore_n 2, 1) := by decide +kernel
theorem dX0_pass_23 : decode cX0_pass 23 = .ok (.iload_n 2, 1) := by decide +kernel
theorem dX0_pass_24 : decode cX0_pass 24 = .ok (.iload_n 1, 1) := by decide +kernel
theorem dX0_pass_25 : decode cX0_pass 25 = .ok (.if_icmp .ge 13, 3) := by decide +kernel
theorem dX0_pass_28 : decode cX0_pass 28 = .ok (.aload_n 0, 1) := by decide +kernel
theorem dX0_pass_29 : decode cX0_pass 29 = .ok (.invokevirtual 126, 3) := by decide +kernel
theorem dX0_pass_32 : decode cX0_pass 32 = .ok (.iinc 2 1, 3) := by decide +kernel
theorem dX0_pass_35 : decode cX0_pass 35 = .ok (.goto (-12), 3) := by decide +kernel
theorem dX0_pass_38 : decode cX0_pass 38 = .ok (.aload_n 0, 1) := by decide +kernel
theorem dX0_pass_39 : decode cX0_pass 39 = .ok (.invokevirtual 129, 3) := by decide +kernel
theorem dX0_pass_42 : decode cX0_pass 42 = .ok (.ireturn, 1) := by decide +kernel
theorem dX0_night_0 : decode cX0_night 0 = .ok (.aload_n 0, 1) := by decide +kernel
theorem dX0_night_1 : decode cX0_night 1 = .ok (.getfield 133, 3) := by decide +kernel
theorem dX0_night_4 : decode cX0_night 4 = .ok (.ireturn, 1) := by decide +kernel
theorem dX0_persons_0 : decode cX0_persons 0 = .ok (.aload_n 0, 1) := by decide +kernel
theorem dX0_persons_1 : decode cX0_persons 1 = .ok (.getfield 48, 3) := by decide +kernel
theorem dX0_persons_4 : decode cX0_persons 4 = .ok (.ireturn, 1) := by decide +kernel
theorem dX0_alive_0 : decode cX0_alive 0 = .ok (.iconst 0, 1) := by decide +kernel
theorem dX0_alive_1 : decode cX0_alive 1 = .ok (.istore_n 1, 1) := by decide +kernel
theorem dX0_alive_2 : decode cX0_alive 2 = .ok (.iconst 0, 1) := by decide +kernel
theorem dX0_alive_3 : decode cX0_alive 3 = .ok (.istore_n 2, 1) := by decide +kernel
theorem dX0_alive_4 : decode cX0_alive 4 = .ok (.iload_n 2, 1) := by decide +kernel
theorem dX0_alive_5 : decode cX0_alive 5 = .ok (.aload_n 0, 1) := by decide +kernel
theorem dX0_alive_6 : decode cX0_alive 6 = .ok (.getfield 48, 3) := by decide +kernel
theorem dX0_alive_9 : decode cX0_alive 9 = .ok (.if_icmp .ge 21, 3) := by decide +kernel
theorem dX0_alive_12 : decode cX0_alive 12 = .ok (.aload_n 0, 1) := by decide +kernel
theorem dX0_alive_13 : decode cX0_alive 13 = .ok (.getfield 9, 3) := by decide +kernel
theorem dX0_alive_16 : decode cX0_alive 16 = .ok (.iload_n 2, 1) := by decide +kernel
theorem dX0_alive_17 : decode cX0_alive 17 = .ok (.baload, 1) := by decide +kernel
theorem dX0_alive_18 : decode cX0_alive 18 = .ok (.ifCond .eq 6, 3) := by decide +kernel
theorem dX0_alive_21 : decode cX0_alive 21 = .ok (.iinc 1 1, 3) := by decide +kernel
theorem dX0_alive_24 : decode cX0_alive 24 = .ok (.iinc 2 1, 3) := by decide +kernel
theorem dX0_alive_27 : decode cX0_alive 27 = .ok (.goto (-23), 3) := by decide +kernel
theorem dX0_alive_30 : decode cX0_alive 30 = .ok (.iload_n 1, 1) := by decide +kernel
theorem dX0_alive_31 : decode cX0_alive 31 = .ok (.ireturn, 1) := by decide +kernel
theorem dX0_witnesses_0 : decode cX0_witnesses 0 = .ok (.aload_n 0, 1) := by decide +kernel
theorem dX0_witnesses_1 : decode cX0_witnesses 1 = .ok (.getfield 59, 3) := by decide +kernel
theorem dX0_witnesses_4 : decode cX0_witnesses 4 = .ok (.ireturn, 1) := by decide +kernel
theorem dX0_shaken_0 : decode cX0_shaken 0 = .ok (.iconst 0, 1) := by decide +kernel
theorem dX0_shaken_1 : decode cX0_shaken 1 = .ok (.istore_n 1, 1) := by decide +kernel
theorem dX0_shaken_2 : decode cX0_shaken 2 = .ok (.iconst 0, 1) := by decide +kernel
theorem dX0_shaken_3 : decode cX0_shaken 3 = .ok (.istore_n 2, 1) := by decide +kernel
theorem dX0_shaken_4 : decode cX0_shaken 4 = .ok (.iload_n 2, 1) := by decide +kernel
theorem dX0_shaken_5 : decode cX0_shaken 5 = .ok (.aload_n 0, 1) := by decide +kernel
theorem dX0_shaken_6 : decode cX0_shaken 6 = .ok (.getfield 59, 3) := by decide +kernel
theorem dX0_shaken_9 : decode cX0_shaken 9 = .ok (.if_icmp .ge 20, 3) := by decide +kernel
theorem dX0_shaken_12 : decode cX0_shaken 12 = .ok (.aload_n 0, 1) := by decide +kernel
theorem dX0_shaken_13 : decode cX0_shaken 13 = .ok (.iload_n 2, 1) := by decide +kernel
theorem dX0_shaken_14 : decode cX0_shaken 14 = .ok (.invokevirtual 136, 3) := by decide +kernel
theorem dX0_shaken_17 : decode cX0_shaken 17 = .ok (.ifCond .eq 6, 3) := by decide +kernel
theorem dX0_shaken_20 : decode cX0_shaken 20 = .ok (.iinc 1 1, 3) := by decide +kernel
theorem dX0_shaken_23 : decode cX0_shaken 23 = .ok (.iinc 2 1, 3) := by decide +kernel
theorem dX0_shaken_26 : decode cX0_shaken 26 = .ok (.goto (-22), 3) := by decide +kernel
theorem dX0_shaken_29 : decode cX0_shaken 29 = .ok (.iload_n 1, 1) := by decide +kernel
theorem dX0_shaken_30 : decode cX0_shaken 30 = .ok (.ireturn, 1) := by decide +kernel
theorem dX0_fund_0 : decode cX0_fund 0 = .ok (.aload_n 0, 1) := by decide +kernel
theorem dX0_fund_1 : decode cX0_fund 1 = .ok (.getfield 81, 3) := by decide +kernel
theorem dX0_fund_4 : decode cX0_fund 4 = .ok (.ireturn, 1) := by decide +kernel
theorem dX0_refunded_0 : decode cX0_refunded 0 = .ok (.aload_n 0, 1) := by decide +kernel
theorem dX0_refunded_1 : decode cX0_refunded 1 = .ok (.getfield 139, 3) := by decide +kernel
theorem dX0_refunded_4 : decode cX0_refunded 4 = .ok (.ireturn, 1) := by decide +kernel
theorem dX0_misses_0 : decode cX0_misses 0 = .ok (.aload_n 0, 1) := by decide +kernel
theorem dX0_misses_1 : decode cX0_misses 1 = .ok (.getfield 90, 3) := by decide +kernel
theorem dX0_misses_4 : decode cX0_misses 4 = .ok (.ireturn, 1) := by decide +kernel
theorem dX0_certified_0 : decode cX0_certified 0 = .ok (.iconst 0, 1) := by decide +kernel
theorem dX0_certified_1 : decode cX0_certified 1 = .ok (.istore_n 1, 1) := by decide +kernel
theorem dX0_certified_2 : decode cX0_certified 2 = .ok (.iconst 0, 1) := by decide +kernel
theorem dX0_certified_3 : decode cX0_certified 3 = .ok (.istore_n 2, 1) := by decide +kernel
theorem dX0_certified_4 : decode cX0_certified 4 = .ok (.iload_n 2, 1) := by decide +kernel
theorem dX0_certified_5 : decode cX0_certified 5 = .ok (.aload_n 0, 1) := by decide +kernel
theorem dX0_certified_6 : decode cX0_certified 6 = .ok (.getfield 90, 3) := by decide +kernel
theorem dX0_certified_9 : decode cX0_certified 9 = .ok (.if_icmp .ge 21, 3) := by decide +kernel
theorem dX0_certified_12 : decode cX0_certified 12 = .ok (.aload_n 0, 1) := by decide +kernel
theorem dX0_certified_13 : decode cX0_certified 13 = .ok (.getfield 38, 3) := by decide +kernel
theorem dX0_certified_16 : decode cX0_certified 16 = .ok (.iload_n 2, 1) := by decide +kernel
theorem dX0_certified_17 : decode cX0_certified 17 = .ok (.iaload, 1) := by decide +kernel
theorem dX0_certified_18 : decode cX0_certified 18 = .ok (.ifCond .le 6, 3) := by decide +kernel
theorem dX0_certified_21 : decode cX0_certified 21 = .ok (.iinc 1 1, 3) := by decide +kernel
theorem dX0_certified_24 : decode cX0_certified 24 = .ok (.iinc 2 1, 3) := by decide +kernel
theorem dX0_certified_27 : decode cX0_certified 27 = .ok (.goto (-23), 3) := by decide +kernel
theorem dX0_certified_30 : decode cX0_certified 30 = .ok (.iload_n 1, 1) := by decide +kernel
theorem dX0_certified_31 : decode cX0_certified 31 = .ok (.ireturn, 1) := by decide +kernel
theorem dX0_isAlive_0 : decode cX0_isAlive 0 = .ok (.aload_n 0, 1) := by decide +kernel
theorem dX0_isAlive_1 : decode cX0_isAlive 1 = .ok (.iload_n 1, 1) := by decide +kernel
theorem dX0_isAlive_2 : decode cX0_isAlive 2 = .ok (.invokevirtual 64, 3) := by decide +kernel
theorem dX0_isAlive_5 : decode cX0_isAlive 5 = .ok (.aload_n 0, 1) := by decide +kernel
theorem dX0_isAlive_6 : decode cX0_isAlive 6 = .ok (.getfield 9, 3) := by decide +kernel
theorem dX0_isAlive_9 : decode cX0_isAlive 9 = .ok (.iload_n 1, 1) := by decide +kernel
theorem dX0_isAlive_10 : decode cX0_isAlive 10 = .ok (.baload, 1) := by decide +kernel
theorem dX0_isAlive_11 : decode cX0_isAlive 11 = .ok (.ireturn, 1) := by decide +kernel
theorem dX0_luckOf_0 : decode cX0_luckOf 0 = .ok (.aload_n 0, 1) := by decide +kernel
theorem dX0_luckOf_1 : decode cX0_luckOf 1 = .ok (.iload_n 1, 1) := by decide +kernel
theorem dX0_luckOf_2 : decode cX0_luckOf 2 = .ok (.invokevirtual 64, 3) := by decide +kernel
theorem dX0_luckOf_5 : decode cX0_luckOf 5 = .ok (.aload_n 0, 1) := by decide +kernel
theorem dX0_luckOf_6 : decode cX0_luckOf 6 = .ok (.getfield 13, 3) := by decide +kernel
theorem dX0_luckOf_9 : decode cX0_luckOf 9 = .ok (.iload_n 1, 1) := by decide +kernel
theorem dX0_luckOf_10 : decode cX0_luckOf 10 = .ok (.iaload, 1) := by decide +kernel
theorem dX0_luckOf_11 : decode cX0_luckOf 11 = .ok (.ireturn, 1) := by decide +kernel
theorem dX0_purseOf_0 : decode cX0_purseOf 0 = .ok (.aload_n 0, 1) := by decide +kernel
theorem dX0_purseOf_1 : decode cX0_purseOf 1 = .ok (.iload_n 1, 1) := by decide +kernel
theorem dX0_purseOf_2 : decode cX0_purseOf 2 = .ok (.invokevirtual 64, 3) := by decide +kernel
theorem dX0_purseOf_5 : decode cX0_purseOf 5 = .ok (.aload_n 0, 1) := by decide +kernel
theorem dX0_purseOf_6 : decode cX0_purseOf 6 = .ok (.getfield 17, 3) := by decide +kernel
theorem dX0_purseOf_9 : decode cX0_purseOf 9 = .ok (.iload_n 1, 1) := by decide +kernel
theorem dX0_purseOf_10 : decode cX0_purseOf 10 = .ok (.iaload, 1) := by decide +kernel
theorem dX0_purseOf_11 : decode cX0_purseOf 11 = .ok (.ireturn, 1) := by decide +kernel
theorem dX0_fatesOf_0 : decode cX0_fatesOf 0 = .ok (.aload_n 0, 1) := by decide +kernel
theorem dX0_fatesOf_1 : decode cX0_fatesOf 1 = .ok (.iload_n 1, 1) := by decide +kernel
theorem dX0_fatesOf_2 : decode cX0_fatesOf 2 = .ok (.invokevirtual 64, 3) := by decide +kernel
theorem dX0_fatesOf_5 : decode cX0_fatesOf 5 = .ok (.aload_n 0, 1) := by decide +kernel
theorem dX0_fatesOf_6 : decode cX0_fatesOf 6 = .ok (.getfield 20, 3) := by decide +kernel
theorem dX0_fatesOf_9 : decode cX0_fatesOf 9 = .ok (.iload_n 1, 1) := by decide +kernel
theorem dX0_fatesOf_10 : decode cX0_fatesOf 10 = .ok (.iaload, 1) := by decide +kernel
theorem dX0_fatesOf_11 : decode cX0_fatesOf 11 = .ok (.ireturn, 1) := by decide +kernel
theorem dX0_heirOf_0 : decode cX0_heirOf 0 = .ok (.aload_n 0, 1) := by decide +kernel
theorem dX0_heirOf_1 : decode cX0_heirOf 1 = .ok (.iload_n 1, 1) := by decide +kernel
theorem dX0_heirOf_2 : decode cX0_heirOf 2 = .ok (.invokevirtual 64, 3) := by decide +kernel
theorem dX0_heirOf_5 : decode cX0_heirOf 5 = .ok (.aload_n 0, 1) := by decide +kernel
theorem dX0_heirOf_6 : decode cX0_heirOf 6 = .ok (.getfield 23, 3) := by decide +kernel
theorem dX0_heirOf_9 : decode cX0_heirOf 9 = .ok (.iload_n 1, 1) := by decide +kernel
theorem dX0_heirOf_10 : decode cX0_heirOf 10 = .ok (.iaload, 1) := by decide +kernel
theorem dX0_heirOf_11 : decode cX0_heirOf 11 = .ok (.ireturn, 1) := by decide +kernel
theorem dX0_lastHeirOf_0 : decode cX0_lastHeirOf 0 = .ok (.aload_n 0, 1) := by decide +kernel
theorem dX0_lastHeirOf_1 : decode cX0_lastHeirOf 1 = .ok (.iload_n 1, 1) := by decide +kernel
theorem dX0_lastHeirOf_2 : decode cX0_lastHeirOf 2 = .ok (.invokevirtual 64, 3) := by decide +kernel
theorem dX0_lastHeirOf_5 : decode cX0_lastHeirOf 5 = .ok (.aload_n 0, 1) := by decide +kernel
theorem dX0_lastHeirOf_6 : decode cX0_lastHeirOf 6 = .ok (.iload_n 1, 1) := by decide +kernel
theorem dX0_lastHeirOf_7 : decode cX0_lastHeirOf 7 = .ok (.invokevirtual 114, 3) := by decide +kernel
theorem dX0_lastHeirOf_10 : decode cX0_lastHeirOf 10 = .ok (.ireturn, 1) := by decide +kernel
theorem dX0_priceFor_0 : decode cX0_priceFor 0 = .ok (.aload_n 0, 1) := by decide +kernel
theorem dX0_priceFor_1 : decode cX0_priceFor 1 = .ok (.iload_n 1, 1) := by decide +kernel
theorem dX0_priceFor_2 : decode cX0_priceFor 2 = .ok (.invokevirtual 64, 3) := by decide +kernel
theorem dX0_priceFor_5 : decode cX0_priceFor 5 = .ok (.aload_n 0, 1) := by decide +kernel
theorem dX0_priceFor_6 : decode cX0_priceFor 6 = .ok (.iload_n 1, 1) := by decide +kernel
theorem dX0_priceFor_7 : decode cX0_priceFor 7 = .ok (.invokevirtual 75, 3) := by decide +kernel
theorem dX0_priceFor_10 : decode cX0_priceFor 10 = .ok (.ireturn, 1) := by decide +kernel
theorem dX0_missesOf_0 : decode cX0_missesOf 0 = .ok (.aload_n 0, 1) := by decide +kernel
theorem dX0_missesOf_1 : decode cX0_missesOf 1 = .ok (.iload_n 1, 1) := by decide +kernel
theorem dX0_missesOf_2 : decode cX0_missesOf 2 = .ok (.invokevirtual 64, 3) := by decide +kernel
theorem dX0_missesOf_5 : decode cX0_missesOf 5 = .ok (.iconst 0, 1) := by decide +kernel
theorem dX0_missesOf_6 : decode cX0_missesOf 6 = .ok (.istore_n 2, 1) := by decide +kernel
theorem dX0_missesOf_7 : decode cX0_missesOf 7 = .ok (.iconst 0, 1) := by decide +kernel
theorem dX0_missesOf_8 : decode cX0_missesOf 8 = .ok (.istore_n 3, 1) := by decide +kernel
theorem dX0_missesOf_9 : decode cX0_missesOf 9 = .ok (.iload_n 3, 1) := by decide +kernel
theorem dX0_missesOf_10 : decode cX0_missesOf 10 = .ok (.aload_n 0, 1) := by decide +kernel
theorem dX0_missesOf_11 : decode cX0_missesOf 11 = .ok (.getfield 90, 3) := by decide +kernel
theorem dX0_missesOf_14 : decode cX0_missesOf 14 = .ok (.if_icmp .ge 22, 3) := by decide +kernel
theorem dX0_missesOf_17 : decode cX0_missesOf 17 = .ok (.aload_n 0, 1) := by decide +kernel
theorem dX0_missesOf_18 : decode cX0_missesOf 18 = .ok (.getfield 35, 3) := by decide +kernel
theorem dX0_missesOf_21 : decode cX0_missesOf 21 = .ok (.iload_n 3, 1) := by decide +kernel
theorem dX0_missesOf_22 : decode cX0_missesOf 22 = .ok (.iaload, 1) := by decide +kernel
theorem dX0_missesOf_23 : decode cX0_missesOf 23 = .ok (.iload_n 1, 1) := by decide +kernel
theorem dX0_missesOf_24 : decode cX0_missesOf 24 = .ok (.if_icmp .ne 6, 3) := by decide +kernel
theorem dX0_missesOf_27 : decode cX0_missesOf 27 = .ok (.iinc 2 1, 3) := by decide +kernel
theorem dX0_missesOf_30 : decode cX0_missesOf 30 = .ok (.iinc 3 1, 3) := by decide +kernel
theorem dX0_missesOf_33 : decode cX0_missesOf 33 = .ok (.goto (-24), 3) := by decide +kernel
theorem dX0_missesOf_36 : decode cX0_missesOf 36 = .ok (.iload_n 2, 1) := by decide +kernel
theorem dX0_missesOf_37 : decode cX0_missesOf 37 = .ok (.ireturn, 1) := by decide +kernel
theorem dX0_closestOf_0 : decode cX0_closestOf 0 = .ok (.aload_n 0, 1) := by decide +kernel
theorem dX0_closestOf_1 : decode cX0_closestOf 1 = .ok (.iload_n 1, 1) := by decide +kernel
theorem dX0_closestOf_2 : decode cX0_closestOf 2 = .ok (.invokevirtual 64, 3) := by decide +kernel
theorem dX0_closestOf_5 : decode cX0_closestOf 5 = .ok (.iconst 0, 1) := by decide +kernel
theorem dX0_closestOf_6 : decode cX0_closestOf 6 = .ok (.istore_n 2, 1) := by decide +kernel
theorem dX0_closestOf_7 : decode cX0_closestOf 7 = .ok (.iconst 0, 1) := by decide +kernel
theorem dX0_closestOf_8 : decode cX0_closestOf 8 = .ok (.istore_n 3, 1) := by decide +kernel
theorem dX0_closestOf_9 : decode cX0_closestOf 9 = .ok (.iload_n 3, 1) := by decide +kernel
theorem dX0_closestOf_10 : decode cX0_closestOf 10 = .ok (.aload_n 0, 1) := by decide +kernel
theorem dX0_closestOf_11 : decode cX0_closestOf 11 = .ok (.getfield 90, 3) := by decide +kernel
theorem dX0_closestOf_14 : decode cX0_closestOf 14 = .ok (.if_icmp .ge 45, 3) := by decide +kernel
theorem dX0_closestOf_17 : decode cX0_closestOf 17 = .ok (.aload_n 0, 1) := by decide +kernel
theorem dX0_closestOf_18 : decode cX0_closestOf 18 = .ok (.getfield 38, 3) := by decide +kernel
theorem dX0_closestOf_21 : decode cX0_closestOf 21 = .ok (.iload_n 3, 1) := by decide +kernel
theorem dX0_closestOf_22 : decode cX0_closestOf 22 = .ok (.iaload, 1) := by decide +kernel
theorem dX0_closestOf_23 : decode cX0_closestOf 23 = .ok (.istore 4, 2) := by decide +kernel
theorem dX0_closestOf_25 : decode cX0_closestOf 25 = .ok (.aload_n 0, 1) := by decide +kernel
theorem dX0_closestOf_26 : decode cX0_closestOf 26 = .ok (.getfield 35, 3) := by decide +kernel
theorem dX0_closestOf_29 : decode cX0_closestOf 29 = .ok (.iload_n 3, 1) := by decide +kernel
theorem dX0_closestOf_30 : decode cX0_closestOf 30 = .ok (.iaload, 1) := by decide +kernel
theorem dX0_closestOf_31 : decode cX0_closestOf 31 = .ok (.iload_n 1, 1) := by decide +kernel
theorem dX0_closestOf_32 : decode cX0_closestOf 32 = .ok (.if_icmp .ne 21, 3) := by decide +kernel
theorem dX0_closestOf_35 : decode cX0_closestOf 35 = .ok (.iload 4, 2) := by decide +kernel
theorem dX0_closestOf_37 : decode cX0_closestOf 37 = .ok (.ifCond .le 16, 3) := by decide +kernel
theorem dX0_closestOf_40 : decode cX0_closestOf 40 = .ok (.iload_n 2, 1) := by decide +kernel
theorem dX0_closestOf_41 : decode cX0_closestOf 41 = .ok (.ifCond .eq 9, 3) := by decide +kernel
theorem dX0_closestOf_44 : decode cX0_closestOf 44 = .ok (.iload 4, 2) := by decide +kernel
theorem dX0_closestOf_46 : decode cX0_closestOf 46 = .ok (.iload_n 2, 1) := by decide +kernel
theorem dX0_closestOf_47 : decode cX0_closestOf 47 = .ok (.if_icmp .ge 6, 3) := by decide +kernel
theorem dX0_closestOf_50 : decode cX0_closestOf 50 = .ok (.iload 4, 2) := by decide +kernel
theorem dX0_closestOf_52 : decode cX0_closestOf 52 = .ok (.istore_n 2, 1) := by decide +kernel
theorem dX0_closestOf_53 : decode cX0_closestOf 53 = .ok (.iinc 3 1, 3) := by decide +kernel
theorem dX0_closestOf_56 : decode cX0_closestOf 56 = .ok (.goto (-47), 3) := by decide +kernel
theorem dX0_closestOf_59 : decode cX0_closestOf 59 = .ok (.iload_n 2, 1) := by decide +kernel
theorem dX0_closestOf_60 : decode cX0_closestOf 60 = .ok (.ireturn, 1) := by decide +kernel
theorem dX0_nerveOf_0 : decode cX0_nerveOf 0 = .ok (.aload_n 0, 1) := by decide +kernel
theorem dX0_nerveOf_1 : decode cX0_nerveOf 1 = .ok (.iload_n 1, 1) := by decide +kernel
theorem dX0_nerveOf_2 : decode cX0_nerveOf 2 = .ok (.invokevirtual 84, 3) := by decide +kernel
theorem dX0_nerveOf_5 : decode cX0_nerveOf 5 = .ok (.aload_n 0, 1) := by decide +kernel
theorem dX0_nerveOf_6 : decode cX0_nerveOf 6 = .ok (.getfield 26, 3) := by decide +kernel
theorem dX0_nerveOf_9 : decode cX0_nerveOf 9 = .ok (.iload_n 1, 1) := by decide +kernel
theorem dX0_nerveOf_10 : decode cX0_nerveOf 10 = .ok (.iaload, 1) := by decide +kernel
theorem dX0_nerveOf_11 : decode cX0_nerveOf 11 = .ok (.ireturn, 1) := by decide +kernel
theorem dX0_isOnDuty_0 : decode cX0_isOnDuty 0 = .ok (.aload_n 0, 1) := by decide +kernel
theorem dX0_isOnDuty_1 : decode cX0_isOnDuty 1 = .ok (.iload_n 1, 1) := by decide +kernel
theorem dX0_isOnDuty_2 : decode cX0_isOnDuty 2 = .ok (.invokevirtual 84, 3) := by decide +kernel
theorem dX0_isOnDuty_5 : decode cX0_isOnDuty 5 = .ok (.aload_n 0, 1) := by decide +kernel
theorem dX0_isOnDuty_6 : decode cX0_isOnDuty 6 = .ok (.getfield 29, 3) := by decide +kernel
theorem dX0_isOnDuty_9 : decode cX0_isOnDuty 9 = .ok (.iload_n 1, 1) := by decide +kernel
theorem dX0_isOnDuty_10 : decode cX0_isOnDuty 10 = .ok (.baload, 1) := by decide +kernel
theorem dX0_isOnDuty_11 : decode cX0_isOnDuty 11 = .ok (.ireturn, 1) := by decide +kernel
theorem dX0_wouldTell_0 : decode cX0_wouldTell 0 = .ok (.aload_n 0, 1) := by decide +kernel
theorem dX0_wouldTell_1 : decode cX0_wouldTell 1 = .ok (.iload_n 1, 1) := by decide +kernel
theorem dX0_wouldTell_2 : decode cX0_wouldTell 2 = .ok (.invokevirtual 84, 3) := by decide +kernel
theorem dX0_wouldTell_5 : decode cX0_wouldTell 5 = .ok (.aload_n 0, 1) := by decide +kernel
theorem dX0_wouldTell_6 : decode cX0_wouldTell 6 = .ok (.iload_n 2, 1) := by decide +kernel
theorem dX0_wouldTell_7 : decode cX0_wouldTell 7 = .ok (.invokevirtual 87, 3) := by decide +kernel
theorem dX0_wouldTell_10 : decode cX0_wouldTell 10 = .ok (.aload_n 0, 1) := by decide +kernel
theorem dX0_wouldTell_11 : decode cX0_wouldTell 11 = .ok (.iload_n 1, 1) := by decide +kernel
theorem dX0_wouldTell_12 : decode cX0_wouldTell 12 = .ok (.iload_n 2, 1) := by decide +kernel
theorem dX0_wouldTell_13 : decode cX0_wouldTell 13 = .ok (.invokevirtual 142, 3) := by decide +kernel
theorem dX0_wouldTell_16 : decode cX0_wouldTell 16 = .ok (.ireturn, 1) := by decide +kernel
theorem dX0_personOf_0 : decode cX0_personOf 0 = .ok (.aload_n 0, 1) := by decide +kernel
theorem dX0_personOf_1 : decode cX0_personOf 1 = .ok (.iload_n 1, 1) := by decide +kernel
theorem dX0_personOf_2 : decode cX0_personOf 2 = .ok (.invokevirtual 145, 3) := by decide +kernel
theorem dX0_personOf_5 : decode cX0_personOf 5 = .ok (.aload_n 0, 1) := by decide +kernel
theorem dX0_personOf_6 : decode cX0_personOf 6 = .ok (.getfield 35, 3) := by decide +kernel
theorem dX0_personOf_9 : decode cX0_personOf 9 = .ok (.iload_n 1, 1) := by decide +kernel
theorem dX0_personOf_10 : decode cX0_personOf 10 = .ok (.iaload, 1) := by decide +kernel
theorem dX0_personOf_11 : decode cX0_personOf 11 = .ok (.ireturn, 1) := by decide +kernel
theorem dX0_inchesOf_0 : decode cX0_inchesOf 0 = .ok (.aload_n 0, 1) := by decide +kernel
theorem dX0_inchesOf_1 : decode cX0_inchesOf 1 = .ok (.iload_n 1, 1) := by decide +kernel
theorem dX0_inchesOf_2 : decode cX0_inchesOf 2 = .ok (.invokevirtual 145, 3) := by decide +kernel
theorem dX0_inchesOf_5 : decode cX0_inchesOf 5 = .ok (.aload_n 0, 1) := by decide +kernel
theorem dX0_inchesOf_6 : decode cX0_inchesOf 6 = .ok (.getfield 38, 3) := by decide +kernel
theorem dX0_inchesOf_9 : decode cX0_inchesOf 9 = .ok (.iload_n 1, 1) := by decide +kernel
theorem dX0_inchesOf_10 : decode cX0_inchesOf 10 = .ok (.iaload, 1) := by decide +kernel
theorem dX0_inchesOf_11 : decode cX0_inchesOf 11 = .ok (.ireturn, 1) := by decide +kernel
theorem dX0_sealOf_0 : decode cX0_sealOf 0 = .ok (.aload_n 0, 1) := by decide +kernel
theorem dX0_sealOf_1 : decode cX0_sealOf 1 = .ok (.iload_n 1, 1) := by decide +kernel
theorem dX0_sealOf_2 : decode cX0_sealOf 2 = .ok (.invokevirtual 145, 3) := by decide +kernel
theorem dX0_sealOf_5 : decode cX0_sealOf 5 = .ok (.aload_n 0, 1) := by decide +kernel
theorem dX0_sealOf_6 : decode cX0_sealOf 6 = .ok (.getfield 35, 3) := by decide +kernel
theorem dX0_sealOf_9 : decode cX0_sealOf 9 = .ok (.iload_n 1, 1) := by decide +kernel
theorem dX0_sealOf_10 : decode cX0_sealOf 10 = .ok (.iaload, 1) := by decide +kernel
theorem dX0_sealOf_11 : decode cX0_sealOf 11 = .ok (.aload_n 0, 1) := by decide +kernel
theorem dX0_sealOf_12 : decode cX0_sealOf 12 = .ok (.getfield 38, 3) := by decide +kernel
theorem dX0_sealOf_15 : decode cX0_sealOf 15 = .ok (.iload_n 1, 1) := by decide +kernel
theorem dX0_sealOf_16 : decode cX0_sealOf 16 = .ok (.iaload, 1) := by decide +kernel
theorem dX0_sealOf_17 : decode cX0_sealOf 17 = .ok (.invokestatic 148, 3) := by decide +kernel
theorem dX0_sealOf_20 : decode cX0_sealOf 20 = .ok (.ireturn, 1) := by decide +kernel
theorem dX0_wouldCertify_0 : decode cX0_wouldCertify 0 = .ok (.aload_n 0, 1) := by decide +kernel
theorem dX0_wouldCertify_1 : decode cX0_wouldCertify 1 = .ok (.iload_n 1, 1) := by decide +kernel
theorem dX0_wouldCertify_2 : decode cX0_wouldCertify 2 = .ok (.invokevirtual 87, 3) := by decide +kernel
theorem dX0_wouldCertify_5 : decode cX0_wouldCertify 5 = .ok (.aload_n 0, 1) := by decide +kernel
theorem dX0_wouldCertify_6 : decode cX0_wouldCertify 6 = .ok (.iload_n 1, 1) := by decide +kernel
theorem dX0_wouldCertify_7 : decode cX0_wouldCertify 7 = .ok (.invokevirtual 95, 3) := by decide +kernel
theorem dX0_wouldCertify_10 : decode cX0_wouldCertify 10 = .ok (.ireturn, 1) := by decide +kernel
theorem dX0_missesUntilShaken_0 : decode cX0_missesUntilShaken 0 = .ok (.aload_n 0, 1) := by decide +kernel
theorem dX0_missesUntilShaken_1 : decode cX0_missesUntilShaken 1 = .ok (.iload_n 1, 1) := by decide +kernel
theorem dX0_missesUntilShaken_2 : decode cX0_missesUntilShaken 2 = .ok (.invokevirtual 87, 3) := by decide +kernel
theorem dX0_missesUntilShaken_5 : decode cX0_missesUntilShaken 5 = .ok (.aload_n 0, 1) := by decide +kernel
theorem dX0_missesUntilShaken_6 : decode cX0_missesUntilShaken 6 = .ok (.invokevirtual 154, 3) := by decide +kernel
theorem dX0_missesUntilShaken_9 : decode cX0_missesUntilShaken 9 = .ok (.istore_n 2, 1) := by decide +kernel
theorem dX0_missesUntilShaken_10 : decode cX0_missesUntilShaken 10 = .ok (.aload_n 0, 1) := by decide +kernel
theorem dX0_missesUntilShaken_11 : decode cX0_missesUntilShaken 11 = .ok (.iload_n 2, 1) := by decide +kernel
theorem dX0_missesUntilShaken_12 : decode cX0_missesUntilShaken 12 = .ok (.invokevirtual 157, 3) := by decide +kernel
theorem dX0_missesUntilShaken_15 : decode cX0_missesUntilShaken 15 = .ok (.ifCond .ne 5, 3) := by decide +kernel
theorem dX0_missesUntilShaken_18 : decode cX0_missesUntilShaken 18 = .ok (.iconst 0, 1) := by decide +kernel
theorem dX0_missesUntilShaken_19 : decode cX0_missesUntilShaken 19 = .ok (.ireturn, 1) := by decide +kernel
theorem dX0_missesUntilShaken_20 : decode cX0_missesUntilShaken 20 = .ok (.iload_n 1, 1) := by decide +kernel
theorem dX0_missesUntilShaken_21 : decode cX0_missesUntilShaken 21 = .ok (.invokestatic 108, 3) := by decide +kernel
theorem dX0_missesUntilShaken_24 : decode cX0_missesUntilShaken 24 = .ok (.istore_n 3, 1) := by decide +kernel
theorem dX0_missesUntilShaken_25 : decode cX0_missesUntilShaken 25 = .ok (.iconst 0, 1) := by decide +kernel
theorem dX0_missesUntilShaken_26 : decode cX0_missesUntilShaken 26 = .ok (.istore 4, 2) := by decide +kernel
theorem dX0_missesUntilShaken_28 : decode cX0_missesUntilShaken 28 = .ok (.iload 4, 2) := by decide +kernel
theorem dX0_missesUntilShaken_30 : decode cX0_missesUntilShaken 30 = .ok (.bipush 9, 2) := by decide +kernel
theorem dX0_missesUntilShaken_32 : decode cX0_missesUntilShaken 32 = .ok (.if_icmp .ge 24, 3) := by decide +kernel
theorem dX0_missesUntilShaken_35 : decode cX0_missesUntilShaken 35 = .ok (.aload_n 0, 1) := by decide +kernel
theorem dX0_missesUntilShaken_36 : decode cX0_missesUntilShaken 36 = .ok (.getfield 26, 3) := by decide +kernel
theorem dX0_missesUntilShaken_39 : decode cX0_missesUntilShaken 39 = .ok (.iload_n 2, 1) := by decide +kernel
theorem dX0_missesUntilShaken_40 : decode cX0_missesUntilShaken 40 = .ok (.iaload, 1) := by decide +kernel
theorem dX0_missesUntilShaken_41 : decode cX0_missesUntilShaken 41 = .ok (.iload 4, 2) := by decide +kernel
theorem dX0_missesUntilShaken_43 : decode cX0_missesUntilShaken 43 = .ok (.iload_n 3, 1) := by decide +kernel
theorem dX0_missesUntilShaken_44 : decode cX0_missesUntilShaken 44 = .ok (.imul, 1) := by decide +kernel
theorem dX0_missesUntilShaken_45 : decode cX0_missesUntilShaken 45 = .ok (.isub, 1) := by decide +kernel
theorem dX0_missesUntilShaken_46 : decode cX0_missesUntilShaken 46 = .ok (.iconst 2, 1) := by decide +kernel
theorem dX0_missesUntilShaken_47 : decode cX0_missesUntilShaken 47 = .ok (.if_icmp .le 9, 3) := by decide +kernel
theorem dX0_missesUntilShaken_50 : decode cX0_missesUntilShaken 50 = .ok (.iinc 4 1, 3) := by decide +kernel
theorem dX0_missesUntilShaken_53 : decode cX0_missesUntilShaken 53 = .ok (.goto (-25), 3) := by decide +kernel
theorem dX0_missesUntilShaken_56 : decode cX0_missesUntilShaken 56 = .ok (.iload 4, 2) := by decide +kernel
theorem dX0_missesUntilShaken_58 : decode cX0_missesUntilShaken 58 = .ok (.ireturn, 1) := by decide +kernel
theorem dX0_nightsUntilCalm_0 : decode cX0_nightsUntilCalm 0 = .ok (.iconst 0, 1) := by decide +kernel
theorem dX0_nightsUntilCalm_1 : decode cX0_nightsUntilCalm 1 = .ok (.istore_n 1, 1) := by decide +kernel
theorem dX0_nightsUntilCalm_2 : decode cX0_nightsUntilCalm 2 = .ok (.iconst 0, 1) := by decide +kernel
theorem dX0_nightsUntilCalm_3 : decode cX0_nightsUntilCalm 3 = .ok (.istore_n 2, 1) := by decide +kernel
theorem dX0_nightsUntilCalm_4 : decode cX0_nightsUntilCalm 4 = .ok (.iload_n 2, 1) := by decide +kernel
theorem dX0_nightsUntilCalm_5 : decode cX0_nightsUntilCalm 5 = .ok (.aload_n 0, 1) := by decide +kernel
theorem dX0_nightsUntilCalm_6 : decode cX0_nightsUntilCalm 6 = .ok (.getfield 59, 3) := by decide +kernel
theorem dX0_nightsUntilCalm_9 : decode cX0_nightsUntilCalm 9 = .ok (.if_icmp .ge 19, 3) := by decide +kernel
theorem dX0_nightsUntilCalm_12 : decode cX0_nightsUntilCalm 12 = .ok (.iload_n 1, 1) := by decide +kernel
theorem dX0_nightsUntilCalm_13 : decode cX0_nightsUntilCalm 13 = .ok (.aload_n 0, 1) := by decide +kernel
theorem dX0_nightsUntilCalm_14 : decode cX0_nightsUntilCalm 14 = .ok (.iload_n 2, 1) := by decide +kernel
theorem dX0_nightsUntilCalm_15 : decode cX0_nightsUntilCalm 15 = .ok (.invokevirtual 160, 3) := by decide +kernel
theorem dX0_nightsUntilCalm_18 : decode cX0_nightsUntilCalm 18 = .ok (.invokestatic 102, 3) := by decide +kernel
theorem dX0_nightsUntilCalm_21 : decode cX0_nightsUntilCalm 21 = .ok (.istore_n 1, 1) := by decide +kernel
theorem dX0_nightsUntilCalm_22 : decode cX0_nightsUntilCalm 22 = .ok (.iinc 2 1, 3) := by decide +kernel
theorem dX0_nightsUntilCalm_25 : decode cX0_nightsUntilCalm 25 = .ok (.goto (-21), 3) := by decide +kernel
theorem dX0_nightsUntilCalm_28 : decode cX0_nightsUntilCalm 28 = .ok (.iload_n 1, 1) := by decide +kernel
theorem dX0_nightsUntilCalm_29 : decode cX0_nightsUntilCalm 29 = .ok (.ireturn, 1) := by decide +kernel
theorem dX0_steadiest_0 : decode cX0_steadiest 0 = .ok (.iconst (-1), 1) := by decide +kernel
theorem dX0_steadiest_1 : decode cX0_steadiest 1 = .ok (.istore_n 1, 1) := by decide +kernel
theorem dX0_steadiest_2 : decode cX0_steadiest 2 = .ok (.iconst (-1), 1) := by decide +kernel
theorem dX0_steadiest_3 : decode cX0_steadiest 3 = .ok (.istore_n 2, 1) := by decide +kernel
theorem dX0_steadiest_4 : decode cX0_steadiest 4 = .ok (.iconst 0, 1) := by decide +kernel
theorem dX0_steadiest_5 : decode cX0_steadiest 5 = .ok (.istore_n 3, 1) := by decide +kernel
theorem dX0_steadiest_6 : decode cX0_steadiest 6 = .ok (.iload_n 3, 1) := by decide +kernel
theorem dX0_steadiest_7 : decode cX0_steadiest 7 = .ok (.aload_n 0, 1) := by decide +kernel
theorem dX0_steadiest_8 : decode cX0_steadiest 8 = .ok (.getfield 59, 3) := by decide +kernel
theorem dX0_steadiest_11 : decode cX0_steadiest 11 = .ok (.if_icmp .ge 37, 3) := by decide +kernel
theorem dX0_steadiest_14 : decode cX0_steadiest 14 = .ok (.aload_n 0, 1) := by decide +kernel
theorem dX0_steadiest_15 : decode cX0_steadiest 15 = .ok (.getfield 29, 3) := by decide +kernel
theorem dX0_steadiest_18 : decode cX0_steadiest 18 = .ok (.iload_n 3, 1) := by decide +kernel
theorem dX0_steadiest_19 : decode cX0_steadiest 19 = .ok (.baload, 1) := by decide +kernel
theorem dX0_steadiest_20 : decode cX0_steadiest 20 = .ok (.ifCond .eq 22, 3) := by decide +kernel
theorem dX0_steadiest_23 : decode cX0_steadiest 23 = .ok (.aload_n 0, 1) := by decide +kernel
theorem dX0_steadiest_24 : decode cX0_steadiest 24 = .ok (.getfield 26, 3) := by decide +kernel
theorem dX0_steadiest_27 : decode cX0_steadiest 27 = .ok (.iload_n 3, 1) := by decide +kernel
theorem dX0_steadiest_28 : decode cX0_steadiest 28 = .ok (.iaload, 1) := by decide +kernel
theorem dX0_steadiest_29 : decode cX0_steadiest 29 = .ok (.iload_n 2, 1) := by decide +kernel
theorem dX0_steadiest_30 : decode cX0_steadiest 30 = .ok (.if_icmp .le 12, 3) := by decide +kernel
theorem dX0_steadiest_33 : decode cX0_steadiest 33 = .ok (.iload_n 3, 1) := by decide +kernel
theorem dX0_steadiest_34 : decode cX0_steadiest 34 = .ok (.istore_n 1, 1) := by decide +kernel
theorem dX0_steadiest_35 : decode cX0_steadiest 35 = .ok (.aload_n 0, 1) := by decide +kernel
theorem dX0_steadiest_36 : decode cX0_steadiest 36 = .ok (.getfield 26, 3) := by decide +kernel
theorem dX0_steadiest_39 : decode cX0_steadiest 39 = .ok (.iload_n 3, 1) := by decide +kernel
theorem dX0_steadiest_40 : decode cX0_steadiest 40 = .ok (.iaload, 1) := by decide +kernel
theorem dX0_steadiest_41 : decode cX0_steadiest 41 = .ok (.istore_n 2, 1) := by decide +kernel
theorem dX0_steadiest_42 : decode cX0_steadiest 42 = .ok (.iinc 3 1, 3) := by decide +kernel
theorem dX0_steadiest_45 : decode cX0_steadiest 45 = .ok (.goto (-39), 3) := by decide +kernel
theorem dX0_steadiest_48 : decode cX0_steadiest 48 = .ok (.iload_n 1, 1) := by decide +kernel
theorem dX0_steadiest_49 : decode cX0_steadiest 49 = .ok (.ireturn, 1) := by decide +kernel
theorem dX0_luckiest_0 : decode cX0_luckiest 0 = .ok (.iconst (-1), 1) := by decide +kernel
theorem dX0_luckiest_1 : decode cX0_luckiest 1 = .ok (.istore_n 1, 1) := by decide +kernel
theorem dX0_luckiest_2 : decode cX0_luckiest 2 = .ok (.iconst (-1), 1) := by decide +kernel
theorem dX0_luckiest_3 : decode cX0_luckiest 3 = .ok (.istore_n 2, 1) := by decide +kernel
theorem dX0_luckiest_4 : decode cX0_luckiest 4 = .ok (.iconst 0, 1) := by decide +kernel
theorem dX0_luckiest_5 : decode cX0_luckiest 5 = .ok (.istore_n 3, 1) := by decide +kernel
theorem dX0_luckiest_6 : decode cX0_luckiest 6 = .ok (.iload_n 3, 1) := by decide +kernel
theorem dX0_luckiest_7 : decode cX0_luckiest 7 = .ok (.aload_n 0, 1) := by decide +kernel
theorem dX0_luckiest_8 : decode cX0_luckiest 8 = .ok (.getfield 48, 3) := by decide +kernel
theorem dX0_luckiest_11 : decode cX0_luckiest 11 = .ok (.if_icmp .ge 37, 3) := by decide +kernel
theorem dX0_luckiest_14 : decode cX0_luckiest 14 = .ok (.aload_n 0, 1) := by decide +kernel
theorem dX0_luckiest_15 : decode cX0_luckiest 15 = .ok (.getfield 9, 3) := by decide +kernel
theorem dX0_luckiest_18 : decode cX0_luckiest 18 = .ok (.iload_n 3, 1) := by decide +kernel
theorem dX0_luckiest_19 : decode cX0_luckiest 19 = .ok (.baload, 1) := by decide +kernel
theorem dX0_luckiest_20 : decode cX0_luckiest 20 = .ok (.ifCond .eq 22, 3) := by decide +kernel
theorem dX0_luckiest_23 : decode cX0_luckiest 23 = .ok (.aload_n 0, 1) := by decide +kernel
theorem dX0_luckiest_24 : decode cX0_luckiest 24 = .ok (.getfield 13, 3) := by decide +kernel
theorem dX0_luckiest_27 : decode cX0_luckiest 27 = .ok (.iload_n 3, 1) := by decide +kernel
theorem dX0_luckiest_28 : decode cX0_luckiest 28 = .ok (.iaload, 1) := by decide +kernel
theorem dX0_luckiest_29 : decode cX0_luckiest 29 = .ok (.iload_n 2, 1) := by decide +kernel
theorem dX0_luckiest_30 : decode cX0_luckiest 30 = .ok (.if_icmp .le 12, 3) := by decide +kernel
theorem dX0_luckiest_33 : decode cX0_luckiest 33 = .ok (.iload_n 3, 1) := by decide +kernel
theorem dX0_luckiest_34 : decode cX0_luckiest 34 = .ok (.istore_n 1, 1) := by decide +kernel
theorem dX0_luckiest_35 : decode cX0_luckiest 35 = .ok (.aload_n 0, 1) := by decide +kernel
theorem dX0_luckiest_36 : decode cX0_luckiest 36 = .ok (.getfield 13, 3) := by decide +kernel
theorem dX0_luckiest_39 : decode cX0_luckiest 39 = .ok (.iload_n 3, 1) := by decide +kernel
theorem dX0_luckiest_40 : decode cX0_luckiest 40 = .ok (.iaload, 1) := by decide +kernel
theorem dX0_luckiest_41 : decode cX0_luckiest 41 = .ok (.istore_n 2, 1) := by decide +kernel
theorem dX0_luckiest_42 : decode cX0_luckiest 42 = .ok (.iinc 3 1, 3) := by decide +kernel
theorem dX0_luckiest_45 : decode cX0_luckiest 45 = .ok (.goto (-39), 3) := by decide +kernel
theorem dX0_luckiest_48 : decode cX0_luckiest 48 = .ok (.iload_n 1, 1) := by decide +kernel
theorem dX0_luckiest_49 : decode cX0_luckiest 49 = .ok (.ireturn, 1) := by decide +kernel
theorem dX0_meanLuck_0 : decode cX0_meanLuck 0 = .ok (.iconst 0, 1) := by decide +kernel
theorem dX0_meanLuck_1 : decode cX0_meanLuck 1 = .ok (.istore_n 1, 1) := by decide +kernel
theorem dX0_meanLuck_2 : decode cX0_meanLuck 2 = .ok (.iconst 0, 1) := by decide +kernel
theorem dX0_meanLuck_3 : decode cX0_meanLuck 3 = .ok (.istore_n 2, 1) := by decide +kernel
theorem dX0_meanLuck_4 : decode cX0_meanLuck 4 = .ok (.iconst 0, 1) := by decide +kernel
theorem dX0_meanLuck_5 : decode cX0_meanLuck 5 = .ok (.istore_n 3, 1) := by decide +kernel
theorem dX0_meanLuck_6 : decode cX0_meanLuck 6 = .ok (.iload_n 3, 1) := by decide +kernel
theorem dX0_meanLuck_7 : decode cX0_meanLuck 7 = .ok (.aload_n 0, 1) := by decide +kernel
theorem dX0_meanLuck_8 : decode cX0_meanLuck 8 = .ok (.getfield 48, 3) := by decide +kernel
theorem dX0_meanLuck_11 : decode cX0_meanLuck 11 = .ok (.if_icmp .ge 30, 3) := by decide +kernel
theorem dX0_meanLuck_14 : decode cX0_meanLuck 14 = .ok (.aload_n 0, 1) := by decide +kernel
theorem dX0_meanLuck_15 : decode cX0_meanLuck 15 = .ok (.getfield 9, 3) := by decide +kernel
theorem dX0_meanLuck_18 : decode cX0_meanLuck 18 = .ok (.iload_n 3, 1) := by decide +kernel
theorem dX0_meanLuck_19 : decode cX0_meanLuck 19 = .ok (.baload, 1) := by decide +kernel
theorem dX0_meanLuck_20 : decode cX0_meanLuck 20 = .ok (.ifCond .eq 15, 3) := by decide +kernel
theorem dX0_meanLuck_23 : decode cX0_meanLuck 23 = .ok (.iinc 1 1, 3) := by decide +kernel
theorem dX0_meanLuck_26 : decode cX0_meanLuck 26 = .ok (.iload_n 2, 1) := by decide +kernel
theorem dX0_meanLuck_27 : decode cX0_meanLuck 27 = .ok (.aload_n 0, 1) := by decide +kernel
theorem dX0_meanLuck_28 : decode cX0_meanLuck 28 = .ok (.getfield 13, 3) := by decide +kernel
theorem dX0_meanLuck_31 : decode cX0_meanLuck 31 = .ok (.iload_n 3, 1) := by decide +kernel
theorem dX0_meanLuck_32 : decode cX0_meanLuck 32 = .ok (.iaload, 1) := by decide +kernel
theorem dX0_meanLuck_33 : decode cX0_meanLuck 33 = .ok (.iadd, 1) := by decide +kernel
theorem dX0_meanLuck_34 : decode cX0_meanLuck 34 = .ok (.istore_n 2, 1) := by decide +kernel
theorem dX0_meanLuck_35 : decode cX0_meanLuck 35 = .ok (.iinc 3 1, 3) := by decide +kernel
theorem dX0_meanLuck_38 : decode cX0_meanLuck 38 = .ok (.goto (-32), 3) := by decide +kernel
theorem dX0_meanLuck_41 : decode cX0_meanLuck 41 = .ok (.iload_n 1, 1) := by decide +kernel
theorem dX0_meanLuck_42 : decode cX0_meanLuck 42 = .ok (.ifCond .ne 5, 3) := by decide +kernel
theorem dX0_meanLuck_45 : decode cX0_meanLuck 45 = .ok (.dconst 0, 1) := by decide +kernel
theorem dX0_meanLuck_46 : decode cX0_meanLuck 46 = .ok (.dreturn, 1) := by decide +kernel
theorem dX0_meanLuck_47 : decode cX0_meanLuck 47 = .ok (.iload_n 2, 1) := by decide +kernel
theorem dX0_meanLuck_48 : decode cX0_meanLuck 48 = .ok (.i2d, 1) := by decide +kernel
theorem dX0_meanLuck_49 : decode cX0_meanLuck 49 = .ok (.iload_n 1, 1) := by decide +kernel
theorem dX0_meanLuck_50 : decode cX0_meanLuck 50 = .ok (.i2d, 1) := by decide +kernel
theorem dX0_meanLuck_51 : decode cX0_meanLuck 51 = .ok (.ddiv, 1) := by decide +kernel
theorem dX0_meanLuck_52 : decode cX0_meanLuck 52 = .ok (.dreturn, 1) := by decide +kernel
theorem dX0_isPerson_0 : decode cX0_isPerson 0 = .ok (.iload_n 1, 1) := by decide +kernel
theorem dX0_isPerson_1 : decode cX0_isPerson 1 = .ok (.ifCond .lt 15, 3) := by decide +kernel
theorem dX0_isPerson_4 : decode cX0_isPerson 4 = .ok (.iload_n 1, 1) := by decide +kernel
theorem dX0_isPerson_5 : decode cX0_isPerson 5 = .ok (.aload_n 0, 1) := by decide +kernel
theorem dX0_isPerson_6 : decode cX0_isPerson 6 = .ok (.getfield 48, 3) := by decide +kernel
theorem dX0_isPerson_9 : decode cX0_isPerson 9 = .ok (.if_icmp .ge 7, 3) := by decide +kernel
theorem dX0_isPerson_12 : decode cX0_isPerson 12 = .ok (.iconst 1, 1) := by decide +kernel
theorem dX0_isPerson_13 : decode cX0_isPerson 13 = .ok (.goto 4, 3) := by decide +kernel
theorem dX0_isPerson_16 : decode cX0_isPerson 16 = .ok (.iconst 0, 1) := by decide +kernel
theorem dX0_isPerson_17 : decode cX0_isPerson 17 = .ok (.ireturn, 1) := by decide +kernel
theorem dX0_isWitness_0 : decode cX0_isWitness 0 = .ok (.iload_n 1, 1) := by decide +kernel
theorem dX0_isWitness_1 : decode cX0_isWitness 1 = .ok (.ifCond .lt 15, 3) := by decide +kernel
theorem dX0_isWitness_4 : decode cX0_isWitness 4 = .ok (.iload_n 1, 1) := by decide +kernel
theorem dX0_isWitness_5 : decode cX0_isWitness 5 = .ok (.aload_n 0, 1) := by decide +kernel
theorem dX0_isWitness_6 : decode cX0_isWitness 6 = .ok (.getfield 59, 3) := by decide +kernel
theorem dX0_isWitness_9 : decode cX0_isWitness 9 = .ok (.if_icmp .ge 7, 3) := by decide +kernel
theorem dX0_isWitness_12 : decode cX0_isWitness 12 = .ok (.iconst 1, 1) := by decide +kernel
theorem dX0_isWitness_13 : decode cX0_isWitness 13 = .ok (.goto 4, 3) := by decide +kernel
theorem dX0_isWitness_16 : decode cX0_isWitness 16 = .ok (.iconst 0, 1) := by decide +kernel
theorem dX0_isWitness_17 : decode cX0_isWitness 17 = .ok (.ireturn, 1) := by decide +kernel
theorem dX0_isShaken_0 : decode cX0_isShaken 0 = .ok (.aload_n 0, 1) := by decide +kernel
theorem dX0_isShaken_1 : decode cX0_isShaken 1 = .ok (.getfield 26, 3) := by decide +kernel
theorem dX0_isShaken_4 : decode cX0_isShaken 4 = .ok (.iload_n 1, 1) := by decide +kernel
theorem dX0_isShaken_5 : decode cX0_isShaken 5 = .ok (.iaload, 1) := by decide +kernel
theorem dX0_isShaken_6 : decode cX0_isShaken 6 = .ok (.iconst 2, 1) := by decide +kernel
theorem dX0_isShaken_7 : decode cX0_isShaken 7 = .ok (.if_icmp .gt 7, 3) := by decide +kernel
theorem dX0_isShaken_10 : decode cX0_isShaken 10 = .ok (.iconst 1, 1) := by decide +kernel
theorem dX0_isShaken_11 : decode cX0_isShaken 11 = .ok (.goto 4, 3) := by decide +kernel
theorem dX0_isShaken_14 : decode cX0_isShaken 14 = .ok (.iconst 0, 1) := by decide +kernel
theorem dX0_isShaken_15 : decode cX0_isShaken 15 = .ok (.ireturn, 1) := by decide +kernel
theorem dX0_requirePerson_0 : decode cX0_requirePerson 0 = .ok (.aload_n 0, 1) := by decide +kernel
theorem dX0_requirePerson_1 : decode cX0_requirePerson 1 = .ok (.iload_n 1, 1) := by decide +kernel
theorem dX0_requirePerson_2 : decode cX0_requirePerson 2 = .ok (.invokevirtual 117, 3) := by decide +kernel
theorem dX0_requirePerson_5 : decode cX0_requirePerson 5 = .ok (.ifCond .ne 13, 3) := by decide +kernel
theorem dX0_requirePerson_8 : decode cX0_requirePerson 8 = .ok (.new 184, 3) := by decide +kernel
theorem dX0_requirePerson_11 : decode cX0_requirePerson 11 = .ok (.dup, 1) := by decide +kernel
theorem dX0_requirePerson_12 : decode cX0_requirePerson 12 = .ok (.ldc 186, 2) := by decide +kernel
theorem dX0_requirePerson_14 : decode cX0_requirePerson 14 = .ok (.invokespecial 188, 3) := by decide +kernel
theorem dX0_requirePerson_17 : decode cX0_requirePerson 17 = .ok (.athrow, 1) := by decide +kernel
theorem dX0_requirePerson_18 : decode cX0_requirePerson 18 = .ok (.return_, 1) := by decide +kernel
theorem dX0_requireAlive_0 : decode cX0_requireAlive 0 = .ok (.aload_n 0, 1) := by decide +kernel
theorem dX0_requireAlive_1 : decode cX0_requireAlive 1 = .ok (.getfield 9, 3) := by decide +kernel
theorem dX0_requireAlive_4 : decode cX0_requireAlive 4 = .ok (.iload_n 1, 1) := by decide +kernel
theorem dX0_requireAlive_5 : decode cX0_requireAlive 5 = .ok (.baload, 1) := by decide +kernel
theorem dX0_requireAlive_6 : decode cX0_requireAlive 6 = .ok (.ifCond .ne 13, 3) := by decide +kernel
theorem dX0_requireAlive_9 : decode cX0_requireAlive 9 = .ok (.new 52, 3) := by decide +kernel
theorem dX0_requireAlive_12 : decode cX0_requireAlive 12 = .ok (.dup, 1) := by decide +kernel
theorem dX0_requireAlive_13 : decode cX0_requireAlive 13 = .ok (.ldc 189, 2) := by decide +kernel
theorem dX0_requireAlive_15 : decode cX0_requireAlive 15 = .ok (.invokespecial 56, 3) := by decide +kernel
theorem dX0_requireAlive_18 : decode cX0_requireAlive 18 = .ok (.athrow, 1) := by decide +kernel
theorem dX0_requireAlive_19 : decode cX0_requireAlive 19 = .ok (.return_, 1) := by decide +kernel
theorem dX0_requireWitness_0 : decode cX0_requireWitness 0 = .ok (.aload_n 0, 1) := by decide +kernel
theorem dX0_requireWitness_1 : decode cX0_requireWitness 1 = .ok (.iload_n 1, 1) := by decide +kernel
theorem dX0_requireWitness_2 : decode cX0_requireWitness 2 = .ok (.invokevirtual 157, 3) := by decide +kernel
theorem dX0_requireWitness_5 : decode cX0_requireWitness 5 = .ok (.ifCond .ne 13, 3) := by decide +kernel
theorem dX0_requireWitness_8 : decode cX0_requireWitness 8 = .ok (.new 184, 3) := by decide +kernel
theorem dX0_requireWitness_11 : decode cX0_requireWitness 11 = .ok (.dup, 1) := by decide +kernel
theorem dX0_requireWitness_12 : decode cX0_requireWitness 12 = .ok (.ldc 191, 2) := by decide +kernel
theorem dX0_requireWitness_14 : decode cX0_requireWitness 14 = .ok (.invokespecial 188, 3) := by decide +kernel
theorem dX0_requireWitness_17 : decode cX0_requireWitness 17 = .ok (.athrow, 1) := by decide +kernel
theorem dX0_requireWitness_18 : decode cX0_requireWitness 18 = .ok (.return_, 1) := by decide +kernel
theorem dX0_requireMiss_0 : decode cX0_requireMiss 0 = .ok (.iload_n 1, 1) := by decide +kernel
theorem dX0_requireMiss_1 : decode cX0_requireMiss 1 = .ok (.ifCond .lt 11, 3) := by decide +kernel
theorem dX0_requireMiss_4 : decode cX0_requireMiss 4 = .ok (.iload_n 1, 1) := by decide +kernel
theorem dX0_requireMiss_5 : decode cX0_requireMiss 5 = .ok (.aload_n 0, 1) := by decide +kernel
theorem dX0_requireMiss_6 : decode cX0_requireMiss 6 = .ok (.getfield 90, 3) := by decide +kernel
theorem dX0_requireMiss_9 : decode cX0_requireMiss 9 = .ok (.if_icmp .lt 13, 3) := by decide +kernel
theorem dX0_requireMiss_12 : decode cX0_requireMiss 12 = .ok (.new 184, 3) := by decide +kernel
theorem dX0_requireMiss_15 : decode cX0_requireMiss 15 = .ok (.dup, 1) := by decide +kernel
theorem dX0_requireMiss_16 : decode cX0_requireMiss 16 = .ok (.ldc 193, 2) := by decide +kernel
theorem dX0_requireMiss_18 : decode cX0_requireMiss 18 = .ok (.invokespecial 188, 3) := by decide +kernel
theorem dX0_requireMiss_21 : decode cX0_requireMiss 21 = .ok (.athrow, 1) := by decide +kernel
theorem dX0_requireMiss_22 : decode cX0_requireMiss 22 = .ok (.return_, 1) := by decide +kernel
theorem dX0_requireInches_0 : decode cX0_requireInches 0 = .ok (.iload_n 1, 1) := by decide +kernel
theorem dX0_requireInches_1 : decode cX0_requireInches 1 = .ok (.iconst 1, 1) := by decide +kernel
theorem dX0_requireInches_2 : decode cX0_requireInches 2 = .ok (.if_icmp .lt 9, 3) := by decide +kernel
theorem dX0_requireInches_5 : decode cX0_requireInches 5 = .ok (.iload_n 1, 1) := by decide +kernel
theorem dX0_requireInches_6 : decode cX0_requireInches 6 = .ok (.bipush 60, 2) := by decide +kernel
theorem dX0_requireInches_8 : decode cX0_requireInches 8 = .ok (.if_icmp .le 13, 3) := by decide +kernel
theorem dX0_requireInches_11 : decode cX0_requireInches 11 = .ok (.new 41, 3) := by decide +kernel
theorem dX0_requireInches_14 : decode cX0_requireInches 14 = .ok (.dup, 1) := by decide +kernel
theorem dX0_requireInches_15 : decode cX0_requireInches 15 = .ok (.ldc 195, 2) := by decide +kernel
theorem dX0_requireInches_17 : decode cX0_requireInches 17 = .ok (.invokespecial 45, 3) := by decide +kernel
theorem dX0_requireInches_20 : decode cX0_requireInches 20 = .ok (.athrow, 1) := by decide +kernel
theorem dX0_requireInches_21 : decode cX0_requireInches 21 = .ok (.return_, 1) := by decide +kernel
theorem dX0_fatePrice_0 : decode cX0_fatePrice 0 = .ok (.iconst 5, 1) := by decide +kernel
theorem dX0_fatePrice_1 : decode cX0_fatePrice 1 = .ok (.bipush 99, 2) := by decide +kernel
theorem dX0_fatePrice_3 : decode cX0_fatePrice 3 = .ok (.aload_n 0, 1) := by decide +kernel
theorem dX0_fatePrice_4 : decode cX0_fatePrice 4 = .ok (.getfield 13, 3) := by decide +kernel
theorem dX0_fatePrice_7 : decode cX0_fatePrice 7 = .ok (.iload_n 1, 1) := by decide +kernel
theorem dX0_fatePrice_8 : decode cX0_fatePrice 8 = .ok (.iaload, 1) := by decide +kernel
theorem dX0_fatePrice_9 : decode cX0_fatePrice 9 = .ok (.isub, 1) := by decide +kernel
theorem dX0_fatePrice_10 : decode cX0_fatePrice 10 = .ok (.bipush 10, 2) := by decide +kernel
theorem dX0_fatePrice_12 : decode cX0_fatePrice 12 = .ok (.idiv, 1) := by decide +kernel
theorem dX0_fatePrice_13 : decode cX0_fatePrice 13 = .ok (.iadd, 1) := by decide +kernel
theorem dX0_fatePrice_14 : decode cX0_fatePrice 14 = .ok (.ireturn, 1) := by decide +kernel
theorem dX0_findLastHeir_0 : decode cX0_findLastHeir 0 = .ok (.aload_n 0, 1) := by decide +kernel
theorem dX0_findLastHeir_1 : decode cX0_findLastHeir 1 = .ok (.getfield 23, 3) := by decide +kernel
theorem dX0_findLastHeir_4 : decode cX0_findLastHeir 4 = .ok (.iload_n 1, 1) := by decide +kernel
theorem dX0_findLastHeir_5 : decode cX0_findLastHeir 5 = .ok (.iaload, 1) := by decide +kernel
theorem dX0_findLastHeir_6 : decode cX0_findLastHeir 6 = .ok (.istore_n 2, 1) := by decide +kernel
theorem dX0_findLastHeir_7 : decode cX0_findLastHeir 7 = .ok (.iconst 0, 1) := by decide +kernel
theorem dX0_findLastHeir_8 : decode cX0_findLastHeir 8 = .ok (.istore_n 3, 1) := by decide +kernel
theorem dX0_findLastHeir_9 : decode cX0_findLastHeir 9 = .ok (.iload_n 3, 1) := by decide +kernel
theorem dX0_findLastHeir_10 : decode cX0_findLastHeir 10 = .ok (.aload_n 0, 1) := by decide +kernel
theorem dX0_findLastHeir_11 : decode cX0_findLastHeir 11 = .ok (.getfield 48, 3) := by decide +kernel
theorem dX0_findLastHeir_14 : decode cX0_findLastHeir 14 = .ok (.if_icmp .ge 42, 3) := by decide +kernel
theorem dX0_findLastHeir_17 : decode cX0_findLastHeir 17 = .ok (.aload_n 0, 1) := by decide +kernel
theorem dX0_findLastHeir_18 : decode cX0_findLastHeir 18 = .ok (.iload_n 2, 1) := by decide +kernel
theorem dX0_findLastHeir_19 : decode cX0_findLastHeir 19 = .ok (.invokevirtual 117, 3) := by decide +kernel
theorem dX0_findLastHeir_22 : decode cX0_findLastHeir 22 = .ok (.ifCond .eq 8, 3) := by decide +kernel
theorem dX0_findLastHeir_25 : decode cX0_findLastHeir 25 = .ok (.iload_n 2, 1) := by decide +kernel
theorem dX0_findLastHeir_26 : decode cX0_findLastHeir 26 = .ok (.iload_n 1, 1) := by decide +kernel
theorem dX0_findLastHeir_27 : decode cX0_findLastHeir 27 = .ok (.if_icmp .ne 5, 3) := by decide +kernel
theorem dX0_findLastHeir_30 : decode cX0_findLastHeir 30 = .ok (.iconst (-1), 1) := by decide +kernel
theorem dX0_findLastHeir_31 : decode cX0_findLastHeir 31 = .ok (.ireturn, 1) := by decide +kernel
theorem dX0_findLastHeir_32 : decode cX0_findLastHeir 32 = .ok (.aload_n 0, 1) := by decide +kernel
theorem dX0_findLastHeir_33 : decode cX0_findLastHeir 33 = .ok (.getfield 9, 3) := by decide +kernel
theorem dX0_findLastHeir_36 : decode cX0_findLastHeir 36 = .ok (.iload_n 2, 1) := by decide +kernel
theorem dX0_findLastHeir_37 : decode cX0_findLastHeir 37 = .ok (.baload, 1) := by decide +kernel
theorem dX0_findLastHeir_38 : decode cX0_findLastHeir 38 = .ok (.ifCond .eq 5, 3) := by decide +kernel
theorem dX0_findLastHeir_41 : decode cX0_findLastHeir 41 = .ok (.iload_n 2, 1) := by decide +kernel
theorem dX0_findLastHeir_42 : decode cX0_findLastHeir 42 = .ok (.ireturn, 1) := by decide +kernel
theorem dX0_findLastHeir_43 : decode cX0_findLastHeir 43 = .ok (.aload_n 0, 1) := by decide +kernel
theorem dX0_findLastHeir_44 : decode cX0_findLastHeir 44 = .ok (.getfield 23, 3) := by decide +kernel
theorem dX0_findLastHeir_47 : decode cX0_findLastHeir 47 = .ok (.iload_n 2, 1) := by decide +kernel
theorem dX0_findLastHeir_48 : decode cX0_findLastHeir 48 = .ok (.iaload, 1) := by decide +kernel
theorem dX0_findLastHeir_49 : decode cX0_findLastHeir 49 = .ok (.istore_n 2, 1) := by decide +kernel
theorem dX0_findLastHeir_50 : decode cX0_findLastHeir 50 = .ok (.iinc 3 1, 3) := by decide +kernel
theorem dX0_findLastHeir_53 : decode cX0_findLastHeir 53 = .ok (.goto (-44), 3) := by decide +kernel
theorem dX0_findLastHeir_56 : decode cX0_findLastHeir 56 = .ok (.iconst (-1), 1) := by decide +kernel
theorem dX0_findLastHeir_57 : decode cX0_findLastHeir 57 = .ok (.ireturn, 1) := by decide +kernel
theorem dX0_tale_0 : decode cX0_tale 0 = .ok (.aload_n 0, 1) := by decide +kernel
theorem dX0_tale_1 : decode cX0_tale 1 = .ok (.iload_n 1, 1) := by decide +kernel
theorem dX0_tale_2 : decode cX0_tale 2 = .ok (.invokevirtual 136, 3) := by decide +kernel
theorem dX0_tale_5 : decode cX0_tale 5 = .ok (.ifCond .eq 5, 3) := by decide +kernel
theorem dX0_tale_8 : decode cX0_tale 8 = .ok (.iconst 0, 1) := by decide +kernel
theorem dX0_tale_9 : decode cX0_tale 9 = .ok (.ireturn, 1) := by decide +kernel
theorem dX0_tale_10 : decode cX0_tale 10 = .ok (.iconst 1, 1) := by decide +kernel
theorem dX0_tale_11 : decode cX0_tale 11 = .ok (.iload_n 2, 1) := by decide +kernel
theorem dX0_tale_12 : decode cX0_tale 12 = .ok (.bipush 9, 2) := by decide +kernel
theorem dX0_tale_14 : decode cX0_tale 14 = .ok (.aload_n 0, 1) := by decide +kernel
theorem dX0_tale_15 : decode cX0_tale 15 = .ok (.getfield 26, 3) := by decide +kernel
theorem dX0_tale_18 : decode cX0_tale 18 = .ok (.iload_n 1, 1) := by decide +kernel
theorem dX0_tale_19 : decode cX0_tale 19 = .ok (.iaload, 1) := by decide +kernel
theorem dX0_tale_20 : decode cX0_tale 20 = .ok (.isub, 1) := by decide +kernel
theorem dX0_tale_21 : decode cX0_tale 21 = .ok (.iconst 2, 1) := by decide +kernel
theorem dX0_tale_22 : decode cX0_tale 22 = .ok (.idiv, 1) := by decide +kernel
theorem dX0_tale_23 : decode cX0_tale 23 = .ok (.isub, 1) := by decide +kernel
theorem dX0_tale_24 : decode cX0_tale 24 = .ok (.invokestatic 102, 3) := by decide +kernel
theorem dX0_tale_27 : decode cX0_tale 27 = .ok (.ireturn, 1) := by decide +kernel
theorem dX0_middleTale_0 : decode cX0_middleTale 0 = .ok (.iconst 0, 1) := by decide +kernel
theorem dX0_middleTale_1 : decode cX0_middleTale 1 = .ok (.istore_n 2, 1) := by decide +kernel
theorem dX0_middleTale_2 : decode cX0_middleTale 2 = .ok (.iconst 0, 1) := by decide +kernel
theorem dX0_middleTale_3 : decode cX0_middleTale 3 = .ok (.istore_n 3, 1) := by decide +kernel
theorem dX0_middleTale_4 : decode cX0_middleTale 4 = .ok (.iload_n 3, 1) := by decide +kernel
theorem dX0_middleTale_5 : decode cX0_middleTale 5 = .ok (.aload_n 0, 1) := by decide +kernel
theorem dX0_middleTale_6 : decode cX0_middleTale 6 = .ok (.getfield 59, 3) := by decide +kernel
theorem dX0_middleTale_9 : decode cX0_middleTale 9 = .ok (.if_icmp .ge 40, 3) := by decide +kernel
theorem dX0_middleTale_12 : decode cX0_middleTale 12 = .ok (.aload_n 0, 1) := by decide +kernel
theorem dX0_middleTale_13 : decode cX0_middleTale 13 = .ok (.getfield 29, 3) := by decide +kernel
theorem dX0_middleTale_16 : decode cX0_middleTale 16 = .ok (.iload_n 3, 1) := by decide +kernel
theorem dX0_middleTale_17 : decode cX0_middleTale 17 = .ok (.baload, 1) := by decide +kernel
theorem dX0_middleTale_18 : decode cX0_middleTale 18 = .ok (.ifCond .eq 25, 3) := by decide +kernel
theorem dX0_middleTale_21 : decode cX0_middleTale 21 = .ok (.aload_n 0, 1) := by decide +kernel
theorem dX0_middleTale_22 : decode cX0_middleTale 22 = .ok (.iload_n 3, 1) := by decide +kernel
theorem dX0_middleTale_23 : decode cX0_middleTale 23 = .ok (.invokevirtual 136, 3) := by decide +kernel
theorem dX0_middleTale_26 : decode cX0_middleTale 26 = .ok (.ifCond .ne 17, 3) := by decide +kernel
theorem dX0_middleTale_29 : decode cX0_middleTale 29 = .ok (.aload_n 0, 1) := by decide +kernel
theorem dX0_middleTale_30 : decode cX0_middleTale 30 = .ok (.iload_n 2, 1) := by decide +kernel
theorem dX0_middleTale_31 : decode cX0_middleTale 31 = .ok (.aload_n 0, 1) := by decide +kernel
theorem dX0_middleTale_32 : decode cX0_middleTale 32 = .ok (.iload_n 3, 1) := by decide +kernel
theorem dX0_middleTale_33 : decode cX0_middleTale 33 = .ok (.iload_n 1, 1) := by decide +kernel
theorem dX0_middleTale_34 : decode cX0_middleTale 34 = .ok (.invokevirtual 142, 3) := by decide +kernel
theorem dX0_middleTale_37 : decode cX0_middleTale 37 = .ok (.invokevirtual 197, 3) := by decide +kernel
theorem dX0_middleTale_40 : decode cX0_middleTale 40 = .ok (.iinc 2 1, 3) := by decide +kernel
theorem dX0_middleTale_43 : decode cX0_middleTale 43 = .ok (.iinc 3 1, 3) := by decide +kernel
theorem dX0_middleTale_46 : decode cX0_middleTale 46 = .ok (.goto (-42), 3) := by decide +kernel
theorem dX0_middleTale_49 : decode cX0_middleTale 49 = .ok (.iload_n 2, 1) := by decide +kernel
theorem dX0_middleTale_50 : decode cX0_middleTale 50 = .ok (.ifCond .ne 5, 3) := by decide +kernel
theorem dX0_middleTale_53 : decode cX0_middleTale 53 = .ok (.iconst 0, 1) := by decide +kernel
theorem dX0_middleTale_54 : decode cX0_middleTale 54 = .ok (.ireturn, 1) := by decide +kernel
theorem dX0_middleTale_55 : decode cX0_middleTale 55 = .ok (.aload_n 0, 1) := by decide +kernel
theorem dX0_middleTale_56 : decode cX0_middleTale 56 = .ok (.getfield 32, 3) := by decide +kernel
theorem dX0_middleTale_59 : decode cX0_middleTale 59 = .ok (.iload_n 2, 1) := by decide +kernel
theorem dX0_middleTale_60 : decode cX0_middleTale 60 = .ok (.iconst 1, 1) := by decide +kernel
theorem dX0_middleTale_61 : decode cX0_middleTale 61 = .ok (.isub, 1) := by decide +kernel
theorem dX0_middleTale_62 : decode cX0_middleTale 62 = .ok (.iconst 2, 1) := by decide +kernel
theorem dX0_middleTale_63 : decode cX0_middleTale 63 = .ok (.idiv, 1) := by decide +kernel
theorem dX0_middleTale_64 : decode cX0_middleTale 64 = .ok (.iaload, 1) := by decide +kernel
theorem dX0_middleTale_65 : decode cX0_middleTale 65 = .ok (.ireturn, 1) := by decide +kernel
theorem dX0_insertTale_0 : decode cX0_insertTale 0 = .ok (.iload_n 1, 1) := by decide +kernel
theorem dX0_insertTale_1 : decode cX0_insertTale 1 = .ok (.istore_n 3, 1) := by decide +kernel
theorem dX0_insertTale_2 : decode cX0_insertTale 2 = .ok (.iload_n 3, 1) := by decide +kernel
theorem dX0_insertTale_3 : decode cX0_insertTale 3 = .ok (.ifCond .le 35, 3) := by decide +kernel
theorem dX0_insertTale_6 : decode cX0_insertTale 6 = .ok (.aload_n 0, 1) := by decide +kernel
theorem dX0_insertTale_7 : decode cX0_insertTale 7 = .ok (.getfield 32, 3) := by decide +kernel
theorem dX0_insertTale_10 : decode cX0_insertTale 10 = .ok (.iload_n 3, 1) := by decide +kernel
theorem dX0_insertTale_11 : decode cX0_insertTale 11 = .ok (.iconst 1, 1) := by decide +kernel
theorem dX0_insertTale_12 : decode cX0_insertTale 12 = .ok (.isub, 1) := by decide +kernel
theorem dX0_insertTale_13 : decode cX0_insertTale 13 = .ok (.iaload, 1) := by decide +kernel
theorem dX0_insertTale_14 : decode cX0_insertTale 14 = .ok (.iload_n 2, 1) := by decide +kernel
theorem dX0_insertTale_15 : decode cX0_insertTale 15 = .ok (.if_icmp .le 23, 3) := by decide +kernel
theorem dX0_insertTale_18 : decode cX0_insertTale 18 = .ok (.aload_n 0, 1) := by decide +kernel
theorem dX0_insertTale_19 : decode cX0_insertTale 19 = .ok (.getfield 32, 3) := by decide +kernel
theorem dX0_insertTale_22 : decode cX0_insertTale 22 = .ok (.iload_n 3, 1) := by decide +kernel
theorem dX0_insertTale_23 : decode cX0_insertTale 23 = .ok (.aload_n 0, 1) := by decide +kernel
theorem dX0_insertTale_24 : decode cX0_insertTale 24 = .ok (.getfield 32, 3) := by decide +kernel
theorem dX0_insertTale_27 : decode cX0_insertTale 27 = .ok (.iload_n 3, 1) := by decide +kernel
theorem dX0_insertTale_28 : decode cX0_insertTale 28 = .ok (.iconst 1, 1) := by decide +kernel
theorem dX0_insertTale_29 : decode cX0_insertTale 29 = .ok (.isub, 1) := by decide +kernel
theorem dX0_insertTale_30 : decode cX0_insertTale 30 = .ok (.iaload, 1) := by decide +kernel
theorem dX0_insertTale_31 : decode cX0_insertTale 31 = .ok (.iastore, 1) := by decide +kernel
theorem dX0_insertTale_32 : decode cX0_insertTale 32 = .ok (.iinc 3 (-1), 3) := by decide +kernel
theorem dX0_insertTale_35 : decode cX0_insertTale 35 = .ok (.goto (-33), 3) := by decide +kernel
theorem dX0_insertTale_38 : decode cX0_insertTale 38 = .ok (.aload_n 0, 1) := by decide +kernel
theorem dX0_insertTale_39 : decode cX0_insertTale 39 = .ok (.getfield 32, 3) := by decide +kernel
theorem dX0_insertTale_42 : decode cX0_insertTale 42 = .ok (.iload_n 3, 1) := by decide +kernel
theorem dX0_insertTale_43 : decode cX0_insertTale 43 = .ok (.iload_n 2, 1) := by decide +kernel
theorem dX0_insertTale_44 : decode cX0_insertTale 44 = .ok (.iastore, 1) := by decide +kernel
theorem dX0_insertTale_45 : decode cX0_insertTale 45 = .ok (.return_, 1) := by decide +kernel
theorem dX0_usesFate_0 : decode cX0_usesFate 0 = .ok (.aload_n 0, 1) := by decide +kernel
theorem dX0_usesFate_1 : decode cX0_usesFate 1 = .ok (.getfield 9, 3) := by decide +kernel
theorem dX0_usesFate_4 : decode cX0_usesFate 4 = .ok (.iload_n 1, 1) := by decide +kernel
theorem dX0_usesFate_5 : decode cX0_usesFate 5 = .ok (.baload, 1) := by decide +kernel
theorem dX0_usesFate_6 : decode cX0_usesFate 6 = .ok (.ifCond .eq 26, 3) := by decide +kernel
theorem dX0_usesFate_9 : decode cX0_usesFate 9 = .ok (.aload_n 0, 1) := by decide +kernel
theorem dX0_usesFate_10 : decode cX0_usesFate 10 = .ok (.getfield 20, 3) := by decide +kernel
theorem dX0_usesFate_13 : decode cX0_usesFate 13 = .ok (.iload_n 1, 1) := by decide +kernel
theorem dX0_usesFate_14 : decode cX0_usesFate 14 = .ok (.iaload, 1) := by decide +kernel
theorem dX0_usesFate_15 : decode cX0_usesFate 15 = .ok (.ifCond .le 17, 3) := by decide +kernel
theorem dX0_usesFate_18 : decode cX0_usesFate 18 = .ok (.iload_n 2, 1) := by decide +kernel
theorem dX0_usesFate_19 : decode cX0_usesFate 19 = .ok (.ifCond .le 13, 3) := by decide +kernel
theorem dX0_usesFate_22 : decode cX0_usesFate 22 = .ok (.iload_n 2, 1) := by decide +kernel
theorem dX0_usesFate_23 : decode cX0_usesFate 23 = .ok (.bipush 24, 2) := by decide +kernel
theorem dX0_usesFate_25 : decode cX0_usesFate 25 = .ok (.if_icmp .gt 7, 3) := by decide +kernel
theorem dX0_usesFate_28 : decode cX0_usesFate 28 = .ok (.iconst 1, 1) := by decide +kernel
theorem dX0_usesFate_29 : decode cX0_usesFate 29 = .ok (.goto 4, 3) := by decide +kernel
theorem dX0_usesFate_32 : decode cX0_usesFate 32 = .ok (.iconst 0, 1) := by decide +kernel
theorem dX0_usesFate_33 : decode cX0_usesFate 33 = .ok (.ireturn, 1) := by decide +kernel
theorem dX0_refundCoins_0 : decode cX0_refundCoins 0 = .ok (.aload_n 0, 1) := by decide +kernel
theorem dX0_refundCoins_1 : decode cX0_refundCoins 1 = .ok (.iload_n 1, 1) := by decide +kernel
theorem dX0_refundCoins_2 : decode cX0_refundCoins 2 = .ok (.iload_n 2, 1) := by decide +kernel
theorem dX0_refundCoins_3 : decode cX0_refundCoins 3 = .ok (.invokevirtual 200, 3) := by decide +kernel
theorem dX0_refundCoins_6 : decode cX0_refundCoins 6 = .ok (.ifCond .ne 5, 3) := by decide +kernel
theorem dX0_refundCoins_9 : decode cX0_refundCoins 9 = .ok (.iconst 0, 1) := by decide +kernel
theorem dX0_refundCoins_10 : decode cX0_refundCoins 10 = .ok (.ireturn, 1) := by decide +kernel
theorem dX0_refundCoins_11 : decode cX0_refundCoins 11 = .ok (.aload_n 0, 1) := by decide +kernel
theorem dX0_refundCoins_12 : decode cX0_refundCoins 12 = .ok (.getfield 81, 3) := by decide +kernel
theorem dX0_refundCoins_15 : decode cX0_refundCoins 15 = .ok (.aload_n 0, 1) := by decide +kernel
theorem dX0_refundCoins_16 : decode cX0_refundCoins 16 = .ok (.iload_n 1, 1) := by decide +kernel
theorem dX0_refundCoins_17 : decode cX0_refundCoins 17 = .ok (.invokevirtual 75, 3) := by decide +kernel
theorem dX0_refundCoins_20 : decode cX0_refundCoins 20 = .ok (.bipush 24, 2) := by decide +kernel
theorem dX0_refundCoins_22 : decode cX0_refundCoins 22 = .ok (.iadd, 1) := by decide +kernel
theorem dX0_refundCoins_23 : decode cX0_refundCoins 23 = .ok (.iload_n 2, 1) := by decide +kernel
theorem dX0_refundCoins_24 : decode cX0_refundCoins 24 = .ok (.isub, 1) := by decide +kernel
theorem dX0_refundCoins_25 : decode cX0_refundCoins 25 = .ok (.invokestatic 121, 3) := by decide +kernel
theorem dX0_refundCoins_28 : decode cX0_refundCoins 28 = .ok (.ireturn, 1) := by decide +kernel
theorem dX0_refundFate_0 : decode cX0_refundFate 0 = .ok (.aload_n 0, 1) := by decide +kernel
theorem dX0_refundFate_1 : decode cX0_refundFate 1 = .ok (.iload_n 1, 1) := by decide +kernel
theorem dX0_refundFate_2 : decode cX0_refundFate 2 = .ok (.iload_n 2, 1) := by decide +kernel
theorem dX0_refundFate_3 : decode cX0_refundFate 3 = .ok (.invokevirtual 200, 3) := by decide +kernel
theorem dX0_refundFate_6 : decode cX0_refundFate 6 = .ok (.ifCond .eq 50, 3) := by decide +kernel
theorem dX0_refundFate_9 : decode cX0_refundFate 9 = .ok (.aload_n 0, 1) := by decide +kernel
theorem dX0_refundFate_10 : decode cX0_refundFate 10 = .ok (.iload_n 1, 1) := by decide +kernel
theorem dX0_refundFate_11 : decode cX0_refundFate 11 = .ok (.iload_n 2, 1) := by decide +kernel
theorem dX0_refundFate_12 : decode cX0_refundFate 12 = .ok (.invokevirtual 151, 3) := by decide +kernel
theorem dX0_refundFate_15 : decode cX0_refundFate 15 = .ok (.istore_n 3, 1) := by decide +kernel
theorem dX0_refundFate_16 : decode cX0_refundFate 16 = .ok (.aload_n 0, 1) := by decide +kernel
theorem dX0_refundFate_17 : decode cX0_refundFate 17 = .ok (.getfield 20, 3) := by decide +kernel
theorem dX0_refundFate_20 : decode cX0_refundFate 20 = .ok (.iload_n 1, 1) := by decide +kernel
theorem dX0_refundFate_21 : decode cX0_refundFate 21 = .ok (.dup2, 1) := by decide +kernel
theorem dX0_refundFate_22 : decode cX0_refundFate 22 = .ok (.iaload, 1) := by decide +kernel
theorem dX0_refundFate_23 : decode cX0_refundFate 23 = .ok (.iconst 1, 1) := by decide +kernel
theorem dX0_refundFate_24 : decode cX0_refundFate 24 = .ok (.isub, 1) := by decide +kernel
theorem dX0_refundFate_25 : decode cX0_refundFate 25 = .ok (.iastore, 1) := by decide +kernel
theorem dX0_refundFate_26 : decode cX0_refundFate 26 = .ok (.aload_n 0, 1) := by decide +kernel
theorem dX0_refundFate_27 : decode cX0_refundFate 27 = .ok (.dup, 1) := by decide +kernel
theorem dX0_refundFate_28 : decode cX0_refundFate 28 = .ok (.getfield 81, 3) := by decide +kernel
theorem dX0_refundFate_31 : decode cX0_refundFate 31 = .ok (.iload_n 3, 1) := by decide +kernel
theorem dX0_refundFate_32 : decode cX0_refundFate 32 = .ok (.isub, 1) := by decide +kernel
theorem dX0_refundFate_33 : decode cX0_refundFate 33 = .ok (.putfield 81, 3) := by decide +kernel
theorem dX0_refundFate_36 : decode cX0_refundFate 36 = .ok (.aload_n 0, 1) := by decide +kernel
theorem dX0_refundFate_37 : decode cX0_refundFate 37 = .ok (.getfield 17, 3) := by decide +kernel
theorem dX0_refundFate_40 : decode cX0_refundFate 40 = .ok (.iload_n 1, 1) := by decide +kernel
theorem dX0_refundFate_41 : decode cX0_refundFate 41 = .ok (.dup2, 1) := by decide +kernel
theorem dX0_refundFate_42 : decode cX0_refundFate 42 = .ok (.iaload, 1) := by decide +kernel
theorem dX0_refundFate_43 : decode cX0_refundFate 43 = .ok (.iload_n 3, 1) := by decide +kernel
theorem dX0_refundFate_44 : decode cX0_refundFate 44 = .ok (.iadd, 1) := by decide +kernel
theorem dX0_refundFate_45 : decode cX0_refundFate 45 = .ok (.iastore, 1) := by decide +kernel
theorem dX0_refundFate_46 : decode cX0_refundFate 46 = .ok (.aload_n 0, 1) := by decide +kernel
theorem dX0_refundFate_47 : decode cX0_refundFate 47 = .ok (.dup, 1) := by decide +kernel
theorem dX0_refundFate_48 : decode cX0_refundFate 48 = .ok (.getfield 139, 3) := by decide +kernel
theorem dX0_refundFate_51 : decode cX0_refundFate 51 = .ok (.iload_n 3, 1) := by decide +kernel
theorem dX0_refundFate_52 : decode cX0_refundFate 52 = .ok (.iadd, 1) := by decide +kernel
theorem dX0_refundFate_53 : decode cX0_refundFate 53 = .ok (.putfield 139, 3) := by decide +kernel
theorem dX0_refundFate_56 : decode cX0_refundFate 56 = .ok (.return_, 1) := by decide +kernel
theorem dX0_nerveLoss_0 : decode cX0_nerveLoss 0 = .ok (.iload_n 0, 1) := by decide +kernel
theorem dX0_nerveLoss_1 : decode cX0_nerveLoss 1 = .ok (.iconst 5, 1) := by decide +kernel
theorem dX0_nerveLoss_2 : decode cX0_nerveLoss 2 = .ok (.if_icmp .gt 5, 3) := by decide +kernel
theorem dX0_nerveLoss_5 : decode cX0_nerveLoss 5 = .ok (.iconst 3, 1) := by decide +kernel
theorem dX0_nerveLoss_6 : decode cX0_nerveLoss 6 = .ok (.ireturn, 1) := by decide +kernel
theorem dX0_nerveLoss_7 : decode cX0_nerveLoss 7 = .ok (.iload_n 0, 1) := by decide +kernel
theorem dX0_nerveLoss_8 : decode cX0_nerveLoss 8 = .ok (.bipush 12, 2) := by decide +kernel
theorem dX0_nerveLoss_10 : decode cX0_nerveLoss 10 = .ok (.if_icmp .gt 7, 3) := by decide +kernel
theorem dX0_nerveLoss_13 : decode cX0_nerveLoss 13 = .ok (.iconst 2, 1) := by decide +kernel
theorem dX0_nerveLoss_14 : decode cX0_nerveLoss 14 = .ok (.goto 4, 3) := by decide +kernel
theorem dX0_nerveLoss_17 : decode cX0_nerveLoss 17 = .ok (.iconst 1, 1) := by decide +kernel
theorem dX0_nerveLoss_18 : decode cX0_nerveLoss 18 = .ok (.ireturn, 1) := by decide +kernel
theorem dX0_nerveGain_0 : decode cX0_nerveGain 0 = .ok (.iload_n 0, 1) := by decide +kernel
theorem dX0_nerveGain_1 : decode cX0_nerveGain 1 = .ok (.ifCond .eq 7, 3) := by decide +kernel
theorem dX0_nerveGain_4 : decode cX0_nerveGain 4 = .ok (.iconst 1, 1) := by decide +kernel
theorem dX0_nerveGain_5 : decode cX0_nerveGain 5 = .ok (.goto 4, 3) := by decide +kernel
theorem dX0_nerveGain_8 : decode cX0_nerveGain 8 = .ok (.iconst 2, 1) := by decide +kernel
theorem dX0_nerveGain_9 : decode cX0_nerveGain 9 = .ok (.ireturn, 1) := by decide +kernel
theorem dX0_frightenWitnesses_0 : decode cX0_frightenWitnesses 0 = .ok (.iconst 0, 1) := by decide +kernel
theorem dX0_frightenWitnesses_1 : decode cX0_frightenWitnesses 1 = .ok (.istore_n 2, 1) := by decide +kernel
theorem dX0_frightenWitnesses_2 : decode cX0_frightenWitnesses 2 = .ok (.iload_n 2, 1) := by decide +kernel
theorem dX0_frightenWitnesses_3 : decode cX0_frightenWitnesses 3 = .ok (.aload_n 0, 1) := by decide +kernel
theorem dX0_frightenWitnesses_4 : decode cX0_frightenWitnesses 4 = .ok (.getfield 59, 3) := by decide +kernel
theorem dX0_frightenWitnesses_7 : decode cX0_frightenWitnesses 7 = .ok (.if_icmp .ge 36, 3) := by decide +kernel
theorem dX0_frightenWitnesses_10 : decode cX0_frightenWitnesses 10 = .ok (.aload_n 0, 1) := by decide +kernel
theorem dX0_frightenWitnesses_11 : decode cX0_frightenWitnesses 11 = .ok (.getfield 29, 3) := by decide +kernel
theorem dX0_frightenWitnesses_14 : decode cX0_frightenWitnesses 14 = .ok (.iload_n 2, 1) := by decide +kernel
theorem dX0_frightenWitnesses_15 : decode cX0_frightenWitnesses 15 = .ok (.baload, 1) := by decide +kernel
theorem dX0_frightenWitnesses_16 : decode cX0_frightenWitnesses 16 = .ok (.ifCond .eq 21, 3) := by decide +kernel
theorem dX0_frightenWitnesses_19 : decode cX0_frightenWitnesses 19 = .ok (.aload_n 0, 1) := by decide +kernel
theorem dX0_frightenWitnesses_20 : decode cX0_frightenWitnesses 20 = .ok (.getfield 26, 3) := by decide +kernel
theorem dX0_frightenWitnesses_23 : decode cX0_frightenWitnesses 23 = .ok (.iload_n 2, 1) := by decide +kernel
theorem dX0_frightenWitnesses_24 : decode cX0_frightenWitnesses 24 = .ok (.iconst 0, 1) := by decide +kernel
theorem dX0_frightenWitnesses_25 : decode cX0_frightenWitnesses 25 = .ok (.aload_n 0, 1) := by decide +kernel
theorem dX0_frightenWitnesses_26 : decode cX0_frightenWitnesses 26 = .ok (.getfield 26, 3) := by decide +kernel
theorem dX0_frightenWitnesses_29 : decode cX0_frightenWitnesses 29 = .ok (.iload_n 2, 1) := by decide +kernel
theorem dX0_frightenWitnesses_30 : decode cX0_frightenWitnesses 30 = .ok (.iaload, 1) := by decide +kernel
theorem dX0_frightenWitnesses_31 : decode cX0_frightenWitnesses 31 = .ok (.iload_n 1, 1) := by decide +kernel
theorem dX0_frightenWitnesses_32 : decode cX0_frightenWitnesses 32 = .ok (.isub, 1) := by decide +kernel
theorem dX0_frightenWitnesses_33 : decode cX0_frightenWitnesses 33 = .ok (.invokestatic 102, 3) := by decide +kernel
theorem dX0_frightenWitnesses_36 : decode cX0_frightenWitnesses 36 = .ok (.iastore, 1) := by decide +kernel
theorem dX0_frightenWitnesses_37 : decode cX0_frightenWitnesses 37 = .ok (.iinc 2 1, 3) := by decide +kernel
theorem dX0_frightenWitnesses_40 : decode cX0_frightenWitnesses 40 = .ok (.goto (-38), 3) := by decide +kernel
theorem dX0_frightenWitnesses_43 : decode cX0_frightenWitnesses 43 = .ok (.return_, 1) := by decide +kernel
theorem dX0_passOneNight_0 : decode cX0_passOneNight 0 = .ok (.iconst 0, 1) := by decide +kernel
theorem dX0_passOneNight_1 : decode cX0_passOneNight 1 = .ok (.istore_n 1, 1) := by decide +kernel
theorem dX0_passOneNight_2 : decode cX0_passOneNight 2 = .ok (.iload_n 1, 1) := by decide +kernel
theorem dX0_passOneNight_3 : decode cX0_passOneNight 3 = .ok (.aload_n 0, 1) := by decide +kernel
theorem dX0_passOneNight_4 : decode cX0_passOneNight 4 = .ok (.getfield 59, 3) := by decide +kernel
theorem dX0_passOneNight_7 : decode cX0_passOneNight 7 = .ok (.if_icmp .ge 36, 3) := by decide +kernel
theorem dX0_passOneNight_10 : decode cX0_passOneNight 10 = .ok (.aload_n 0, 1) := by decide +kernel
theorem dX0_passOneNight_11 : decode cX0_passOneNight 11 = .ok (.getfield 26, 3) := by decide +kernel
theorem dX0_passOneNight_14 : decode cX0_passOneNight 14 = .ok (.iload_n 1, 1) := by decide +kernel
theorem dX0_passOneNight_15 : decode cX0_passOneNight 15 = .ok (.bipush 9, 2) := by decide +kernel
theorem dX0_passOneNight_17 : decode cX0_passOneNight 17 = .ok (.aload_n 0, 1) := by decide +kernel
theorem dX0_passOneNight_18 : decode cX0_passOneNight 18 = .ok (.getfield 26, 3) := by decide +kernel
theorem dX0_passOneNight_21 : decode cX0_passOneNight 21 = .ok (.iload_n 1, 1) := by decide +kernel
theorem dX0_passOneNight_22 : decode cX0_passOneNight 22 = .ok (.iaload, 1) := by decide +kernel
theorem dX0_passOneNight_23 : decode cX0_passOneNight 23 = .ok (.aload_n 0, 1) := by decide +kernel
theorem dX0_passOneNight_24 : decode cX0_passOneNight 24 = .ok (.getfield 29, 3) := by decide +kernel
theorem dX0_passOneNight_27 : decode cX0_passOneNight 27 = .ok (.iload_n 1, 1) := by decide +kernel
theorem dX0_passOneNight_28 : decode cX0_passOneNight 28 = .ok (.baload, 1) := by decide +kernel
theorem dX0_passOneNight_29 : decode cX0_passOneNight 29 = .ok (.invokestatic 204, 3) := by decide +kernel
theorem dX0_passOneNight_32 : decode cX0_passOneNight 32 = .ok (.iadd, 1) := by decide +kernel
theorem dX0_passOneNight_33 : decode cX0_passOneNight 33 = .ok (.invokestatic 121, 3) := by decide +kernel
theorem dX0_passOneNight_36 : decode cX0_passOneNight 36 = .ok (.iastore, 1) := by decide +kernel
theorem dX0_passOneNight_37 : decode cX0_passOneNight 37 = .ok (.iinc 1 1, 3) := by decide +kernel
theorem dX0_passOneNight_40 : decode cX0_passOneNight 40 = .ok (.goto (-38), 3) := by decide +kernel
theorem dX0_passOneNight_43 : decode cX0_passOneNight 43 = .ok (.iconst 0, 1) := by decide +kernel
theorem dX0_passOneNight_44 : decode cX0_passOneNight 44 = .ok (.istore_n 1, 1) := by decide +kernel
theorem dX0_passOneNight_45 : decode cX0_passOneNight 45 = .ok (.iload_n 1, 1) := by decide +kernel
theorem dX0_passOneNight_46 : decode cX0_passOneNight 46 = .ok (.aload_n 0, 1) := by decide +kernel
theorem dX0_passOneNight_47 : decode cX0_passOneNight 47 = .ok (.getfield 48, 3) := by decide +kernel
theorem dX0_passOneNight_50 : decode cX0_passOneNight 50 = .ok (.if_icmp .ge 37, 3) := by decide +kernel
theorem dX0_passOneNight_53 : decode cX0_passOneNight 53 = .ok (.aload_n 0, 1) := by decide +kernel
theorem dX0_passOneNight_54 : decode cX0_passOneNight 54 = .ok (.getfield 9, 3) := by decide +kernel
theorem dX0_passOneNight_57 : decode cX0_passOneNight 57 = .ok (.iload_n 1, 1) := by decide +kernel
theorem dX0_passOneNight_58 : decode cX0_passOneNight 58 = .ok (.baload, 1) := by decide +kernel
theorem dX0_passOneNight_59 : decode cX0_passOneNight 59 = .ok (.ifCond .eq 22, 3) := by decide +kernel
theorem dX0_passOneNight_62 : decode cX0_passOneNight 62 = .ok (.aload_n 0, 1) := by decide +kernel
theorem dX0_passOneNight_63 : decode cX0_passOneNight 63 = .ok (.getfield 13, 3) := by decide +kernel
theorem dX0_passOneNight_66 : decode cX0_passOneNight 66 = .ok (.iload_n 1, 1) := by decide +kernel
theorem dX0_passOneNight_67 : decode cX0_passOneNight 67 = .ok (.bipush 99, 2) := by decide +kernel
theorem dX0_passOneNight_69 : decode cX0_passOneNight 69 = .ok (.aload_n 0, 1) := by decide +kernel
theorem dX0_passOneNight_70 : decode cX0_passOneNight 70 = .ok (.getfield 13, 3) := by decide +kernel
theorem dX0_passOneNight_73 : decode cX0_passOneNight 73 = .ok (.iload_n 1, 1) := by decide +kernel
theorem dX0_passOneNight_74 : decode cX0_passOneNight 74 = .ok (.iaload, 1) := by decide +kernel
theorem dX0_passOneNight_75 : decode cX0_passOneNight 75 = .ok (.iconst 1, 1) := by decide +kernel
theorem dX0_passOneNight_76 : decode cX0_passOneNight 76 = .ok (.iadd, 1) := by decide +kernel
theorem dX0_passOneNight_77 : decode cX0_passOneNight 77 = .ok (.invokestatic 121, 3) := by decide +kernel
theorem dX0_passOneNight_80 : decode cX0_passOneNight 80 = .ok (.iastore, 1) := by decide +kernel
theorem dX0_passOneNight_81 : decode cX0_passOneNight 81 = .ok (.iinc 1 1, 3) := by decide +kernel
theorem dX0_passOneNight_84 : decode cX0_passOneNight 84 = .ok (.goto (-39), 3) := by decide +kernel
theorem dX0_passOneNight_87 : decode cX0_passOneNight 87 = .ok (.aload_n 0, 1) := by decide +kernel
theorem dX0_passOneNight_88 : decode cX0_passOneNight 88 = .ok (.dup, 1) := by decide +kernel
theorem dX0_passOneNight_89 : decode cX0_passOneNight 89 = .ok (.getfield 133, 3) := by decide +kernel
theorem dX0_passOneNight_92 : decode cX0_passOneNight 92 = .ok (.iconst 1, 1) := by decide +kernel
theorem dX0_passOneNight_93 : decode cX0_passOneNight 93 = .ok (.iadd, 1) := by decide +kernel
theorem dX0_passOneNight_94 : decode cX0_passOneNight 94 = .ok (.putfield 133, 3) := by decide +kernel
theorem dX0_passOneNight_97 : decode cX0_passOneNight 97 = .ok (.return_, 1) := by decide +kernel
theorem dX0_nightsToCalm_0 : decode cX0_nightsToCalm 0 = .ok (.aload_n 0, 1) := by decide +kernel
theorem dX0_nightsToCalm_1 : decode cX0_nightsToCalm 1 = .ok (.getfield 29, 3) := by decide +kernel
theorem dX0_nightsToCalm_4 : decode cX0_nightsToCalm 4 = .ok (.iload_n 1, 1) := by decide +kernel
theorem dX0_nightsToCalm_5 : decode cX0_nightsToCalm 5 = .ok (.baload, 1) := by decide +kernel
theorem dX0_nightsToCalm_6 : decode cX0_nightsToCalm 6 = .ok (.invokestatic 204, 3) := by decide +kernel
theorem dX0_nightsToCalm_9 : decode cX0_nightsToCalm 9 = .ok (.istore_n 2, 1) := by decide +kernel
theorem dX0_nightsToCalm_10 : decode cX0_nightsToCalm 10 = .ok (.iconst 0, 1) := by decide +kernel
theorem dX0_nightsToCalm_11 : decode cX0_nightsToCalm 11 = .ok (.istore_n 3, 1) := by decide +kernel
theorem dX0_nightsToCalm_12 : decode cX0_nightsToCalm 12 = .ok (.iload_n 3, 1) := by decide +kernel
theorem dX0_nightsToCalm_13 : decode cX0_nightsToCalm 13 = .ok (.bipush 9, 2) := by decide +kernel
theorem dX0_nightsToCalm_15 : decode cX0_nightsToCalm 15 = .ok (.if_icmp .ge 23, 3) := by decide +kernel
theorem dX0_nightsToCalm_18 : decode cX0_nightsToCalm 18 = .ok (.aload_n 0, 1) := by decide +kernel
theorem dX0_nightsToCalm_19 : decode cX0_nightsToCalm 19 = .ok (.getfield 26, 3) := by decide +kernel
theorem dX0_nightsToCalm_22 : decode cX0_nightsToCalm 22 = .ok (.iload_n 1, 1) := by decide +kernel
theorem dX0_nightsToCalm_23 : decode cX0_nightsToCalm 23 = .ok (.iaload, 1) := by decide +kernel
theorem dX0_nightsToCalm_24 : decode cX0_nightsToCalm 24 = .ok (.iload_n 3, 1) := by decide +kernel
theorem dX0_nightsToCalm_25 : decode cX0_nightsToCalm 25 = .ok (.iload_n 2, 1) := by decide +kernel
theorem dX0_nightsToCalm_26 : decode cX0_nightsToCalm 26 = .ok (.imul, 1) := by decide +kernel
theorem dX0_nightsToCalm_27 : decode cX0_nightsToCalm 27 = .ok (.iadd, 1) := by decide +kernel
theorem dX0_nightsToCalm_28 : decode cX0_nightsToCalm 28 = .ok (.iconst 2, 1) := by decide +kernel
theorem dX0_nightsToCalm_29 : decode cX0_nightsToCalm 29 = .ok (.if_icmp .gt 9, 3) := by decide +kernel
theorem dX0_nightsToCalm_32 : decode cX0_nightsToCalm 32 = .ok (.iinc 3 1, 3) := by decide +kernel
theorem dX0_nightsToCalm_35 : decode cX0_nightsToCalm 35 = .ok (.goto (-23), 3) := by decide +kernel
theorem dX0_nightsToCalm_38 : decode cX0_nightsToCalm 38 = .ok (.iload_n 3, 1) := by decide +kernel
theorem dX0_nightsToCalm_39 : decode cX0_nightsToCalm 39 = .ok (.ireturn, 1) := by decide +kernel
theorem dX0_certificateSeal_0 : decode cX0_certificateSeal 0 = .ok (.bipush 7, 2) := by decide +kernel
theorem dX0_certificateSeal_2 : decode cX0_certificateSeal 2 = .ok (.ldc 207, 2) := by decide +kernel
theorem dX0_certificateSeal_4 : decode cX0_certificateSeal 4 = .ok (.invokestatic 209, 3) := by decide +kernel
theorem dX0_certificateSeal_7 : decode cX0_certificateSeal 7 = .ok (.istore_n 2, 1) := by decide +kernel
theorem dX0_certificateSeal_8 : decode cX0_certificateSeal 8 = .ok (.iload_n 2, 1) := by decide +kernel
theorem dX0_certificateSeal_9 : decode cX0_certificateSeal 9 = .ok (.iload_n 0, 1) := by decide +kernel
theorem dX0_certificateSeal_10 : decode cX0_certificateSeal 10 = .ok (.invokestatic 213, 3) := by decide +kernel
theorem dX0_certificateSeal_13 : decode cX0_certificateSeal 13 = .ok (.istore_n 2, 1) := by decide +kernel
theorem dX0_certificateSeal_14 : decode cX0_certificateSeal 14 = .ok (.iload_n 2, 1) := by decide +kernel
theorem dX0_certificateSeal_15 : decode cX0_certificateSeal 15 = .ok (.ldc 216, 2) := by decide +kernel
theorem dX0_certificateSeal_17 : decode cX0_certificateSeal 17 = .ok (.invokestatic 209, 3) := by decide +kernel
theorem dX0_certificateSeal_20 : decode cX0_certificateSeal 20 = .ok (.istore_n 2, 1) := by decide +kernel
theorem dX0_certificateSeal_21 : decode cX0_certificateSeal 21 = .ok (.iload_n 1, 1) := by decide +kernel
theorem dX0_certificateSeal_22 : decode cX0_certificateSeal 22 = .ok (.ifCond .ne 10, 3) := by decide +kernel
theorem dX0_certificateSeal_25 : decode cX0_certificateSeal 25 = .ok (.iload_n 2, 1) := by decide +kernel
theorem dX0_certificateSeal_26 : decode cX0_certificateSeal 26 = .ok (.ldc 218, 2) := by decide +kernel
theorem dX0_certificateSeal_28 : decode cX0_certificateSeal 28 = .ok (.invokestatic 209, 3) := by decide +kernel
theorem dX0_certificateSeal_31 : decode cX0_certificateSeal 31 = .ok (.ireturn, 1) := by decide +kernel
theorem dX0_certificateSeal_32 : decode cX0_certificateSeal 32 = .ok (.iload_n 2, 1) := by decide +kernel
theorem dX0_certificateSeal_33 : decode cX0_certificateSeal 33 = .ok (.iload_n 1, 1) := by decide +kernel
theorem dX0_certificateSeal_34 : decode cX0_certificateSeal 34 = .ok (.invokestatic 213, 3) := by decide +kernel
theorem dX0_certificateSeal_37 : decode cX0_certificateSeal 37 = .ok (.istore_n 2, 1) := by decide +kernel
theorem dX0_certificateSeal_38 : decode cX0_certificateSeal 38 = .ok (.iload_n 2, 1) := by decide +kernel
theorem dX0_certificateSeal_39 : decode cX0_certificateSeal 39 = .ok (.ldc 220, 2) := by decide +kernel
theorem dX0_certificateSeal_41 : decode cX0_certificateSeal 41 = .ok (.invokestatic 209, 3) := by decide +kernel
theorem dX0_certificateSeal_44 : decode cX0_certificateSeal 44 = .ok (.ireturn, 1) := by decide +kernel
theorem dX0_sealText_0 : decode cX0_sealText 0 = .ok (.iconst 0, 1) := by decide +kernel
theorem dX0_sealText_1 : decode cX0_sealText 1 = .ok (.istore_n 2, 1) := by decide +kernel
theorem dX0_sealText_2 : decode cX0_sealText 2 = .ok (.iload_n 2, 1) := by decide +kernel
theorem dX0_sealText_3 : decode cX0_sealText 3 = .ok (.aload_n 1, 1) := by decide +kernel
theorem dX0_sealText_4 : decode cX0_sealText 4 = .ok (.invokevirtual 222, 3) := by decide +kernel
theorem dX0_sealText_7 : decode cX0_sealText 7 = .ok (.if_icmp .ge 20, 3) := by decide +kernel
theorem dX0_sealText_10 : decode cX0_sealText 10 = .ok (.iload_n 0, 1) := by decide +kernel
theorem dX0_sealText_11 : decode cX0_sealText 11 = .ok (.bipush 31, 2) := by decide +kernel
theorem dX0_sealText_13 : decode cX0_sealText 13 = .ok (.imul, 1) := by decide +kernel
theorem dX0_sealText_14 : decode cX0_sealText 14 = .ok (.aload_n 1, 1) := by decide +kernel
theorem dX0_sealText_15 : decode cX0_sealText 15 = .ok (.iload_n 2, 1) := by decide +kernel
theorem dX0_sealText_16 : decode cX0_sealText 16 = .ok (.invokevirtual 227, 3) := by decide +kernel
theorem dX0_sealText_19 : decode cX0_sealText 19 = .ok (.iadd, 1) := by decide +kernel
theorem dX0_sealText_20 : decode cX0_sealText 20 = .ok (.istore_n 0, 1) := by decide +kernel
theorem dX0_sealText_21 : decode cX0_sealText 21 = .ok (.iinc 2 1, 3) := by decide +kernel
theorem dX0_sealText_24 : decode cX0_sealText 24 = .ok (.goto (-22), 3) := by decide +kernel
theorem dX0_sealText_27 : decode cX0_sealText 27 = .ok (.iload_n 0, 1) := by decide +kernel
theorem dX0_sealText_28 : decode cX0_sealText 28 = .ok (.ireturn, 1) := by decide +kernel
theorem dX0_sealNumber_0 : decode cX0_sealNumber 0 = .ok (.iload_n 1, 1) := by decide +kernel
theorem dX0_sealNumber_1 : decode cX0_sealNumber 1 = .ok (.bipush 10, 2) := by decide +kernel
theorem dX0_sealNumber_3 : decode cX0_sealNumber 3 = .ok (.if_icmp .lt 16, 3) := by decide +kernel
theorem dX0_sealNumber_6 : decode cX0_sealNumber 6 = .ok (.iload_n 0, 1) := by decide +kernel
theorem dX0_sealNumber_7 : decode cX0_sealNumber 7 = .ok (.bipush 31, 2) := by decide +kernel
theorem dX0_sealNumber_9 : decode cX0_sealNumber 9 = .ok (.imul, 1) := by decide +kernel
theorem dX0_sealNumber_10 : decode cX0_sealNumber 10 = .ok (.bipush 48, 2) := by decide +kernel
theorem dX0_sealNumber_12 : decode cX0_sealNumber 12 = .ok (.iadd, 1) := by decide +kernel
theorem dX0_sealNumber_13 : decode cX0_sealNumber 13 = .ok (.iload_n 1, 1) := by decide +kernel
theorem dX0_sealNumber_14 : decode cX0_sealNumber 14 = .ok (.bipush 10, 2) := by decide +kernel
theorem dX0_sealNumber_16 : decode cX0_sealNumber 16 = .ok (.idiv, 1) := by decide +kernel
theorem dX0_sealNumber_17 : decode cX0_sealNumber 17 = .ok (.iadd, 1) := by decide +kernel
theorem dX0_sealNumber_18 : decode cX0_sealNumber 18 = .ok (.istore_n 0, 1) := by decide +kernel
theorem dX0_sealNumber_19 : decode cX0_sealNumber 19 = .ok (.iload_n 0, 1) := by decide +kernel
theorem dX0_sealNumber_20 : decode cX0_sealNumber 20 = .ok (.bipush 31, 2) := by decide +kernel
theorem dX0_sealNumber_22 : decode cX0_sealNumber 22 = .ok (.imul, 1) := by decide +kernel
theorem dX0_sealNumber_23 : decode cX0_sealNumber 23 = .ok (.bipush 48, 2) := by decide +kernel
theorem dX0_sealNumber_25 : decode cX0_sealNumber 25 = .ok (.iadd, 1) := by decide +kernel
theorem dX0_sealNumber_26 : decode cX0_sealNumber 26 = .ok (.iload_n 1, 1) := by decide +kernel
theorem dX0_sealNumber_27 : decode cX0_sealNumber 27 = .ok (.bipush 10, 2) := by decide +kernel
theorem dX0_sealNumber_29 : decode cX0_sealNumber 29 = .ok (.irem, 1) := by decide +kernel
theorem dX0_sealNumber_30 : decode cX0_sealNumber 30 = .ok (.iadd, 1) := by decide +kernel
theorem dX0_sealNumber_31 : decode cX0_sealNumber 31 = .ok (.ireturn, 1) := by decide +kernel
end
section
/-! decode rows: the check's own registry -/
theorem dX1_init_0 : decode cX1_init 0 = .ok (.aload_n 0, 1) := by decide +kernel
theorem dX1_init_1 : decode cX1_init 1 = .ok (.invokespecial 1, 3) := by decide +kernel
theorem dX1_init_4 : decode cX1_init 4 = .ok (.aload_n 0, 1) := by decide +kernel
theorem dX1_init_5 : decode cX1_init 5 = .ok (.iconst 0, 1) := by decide +kernel
theorem dX1_init_6 : decode cX1_init 6 = .ok (.anewarray 7, 3) := by decide +kernel
theorem dX1_init_9 : decode cX1_init 9 = .ok (.putfield 9, 3) := by decide +kernel
theorem dX1_init_12 : decode cX1_init 12 = .ok (.aload_n 0, 1) := by decide +kernel
theorem dX1_init_13 : decode cX1_init 13 = .ok (.iconst 0, 1) := by decide +kernel
theorem dX1_init_14 : decode cX1_init 14 = .ok (.anewarray 7, 3) := by decide +kernel
theorem dX1_init_17 : decode cX1_init 17 = .ok (.putfield 15, 3) := by decide +kernel
theorem dX1_init_20 : decode cX1_init 20 = .ok (.aload_n 0, 1) := by decide +kernel
theorem dX1_init_21 : decode cX1_init 21 = .ok (.iconst 0, 1) := by decide +kernel
theorem dX1_init_22 : decode cX1_init 22 = .ok (.anewarray 7, 3) := by decide +kernel
theorem dX1_init_25 : decode cX1_init 25 = .ok (.putfield 18, 3) := by decide +kernel
theorem dX1_init_28 : decode cX1_init 28 = .ok (.return_, 1) := by decide +kernel
theorem dX1_with_0 : decode cX1_with 0 = .ok (.aload_n 0, 1) := by decide +kernel
theorem dX1_with_1 : decode cX1_with 1 = .ok (.arraylength, 1) := by decide +kernel
theorem dX1_with_2 : decode cX1_with 2 = .ok (.iconst 1, 1) := by decide +kernel
theorem dX1_with_3 : decode cX1_with 3 = .ok (.iadd, 1) := by decide +kernel
theorem dX1_with_4 : decode cX1_with 4 = .ok (.anewarray 7, 3) := by decide +kernel
theorem dX1_with_7 : decode cX1_with 7 = .ok (.astore_n 2, 1) := by decide +kernel
theorem dX1_with_8 : decode cX1_with 8 = .ok (.iconst 0, 1) := by decide +kernel
theorem dX1_with_9 : decode cX1_with 9 = .ok (.istore_n 3, 1) := by decide +kernel
theorem dX1_with_10 : decode cX1_with 10 = .ok (.iload_n 3, 1) := by decide +kernel
theorem dX1_with_11 : decode cX1_with 11 = .ok (.aload_n 0, 1) := by decide +kernel
theorem dX1_with_12 : decode cX1_with 12 = .ok (.arraylength, 1) := by decide +kernel
theorem dX1_with_13 : decode cX1_with 13 = .ok (.if_icmp .ge 15, 3) := by decide +kernel
theorem dX1_with_16 : decode cX1_with 16 = .ok (.aload_n 2, 1) := by decide +kernel
theorem dX1_with_17 : decode cX1_with 17 = .ok (.iload_n 3, 1) := by decide +kernel
theorem dX1_with_18 : decode cX1_with 18 = .ok (.aload_n 0, 1) := by decide +kernel
theorem dX1_with_19 : decode cX1_with 19 = .ok (.iload_n 3, 1) := by decide +kernel
theorem dX1_with_20 : decode cX1_with 20 = .ok (.aaload, 1) := by decide +kernel
theorem dX1_with_21 : decode cX1_with 21 = .ok (.aastore, 1) := by decide +kernel
theorem dX1_with_22 : decode cX1_with 22 = .ok (.iinc 3 1, 3) := by decide +kernel
theorem dX1_with_25 : decode cX1_with 25 = .ok (.goto (-15), 3) := by decide +kernel
theorem dX1_with_28 : decode cX1_with 28 = .ok (.aload_n 2, 1) := by decide +kernel
theorem dX1_with_29 : decode cX1_with 29 = .ok (.aload_n 0, 1) := by decide +kernel
theorem dX1_with_30 : decode cX1_with 30 = .ok (.arraylength, 1) := by decide +kernel
theorem dX1_with_31 : decode cX1_with 31 = .ok (.aload_n 1, 1) := by decide +kernel
theorem dX1_with_32 : decode cX1_with 32 = .ok (.aastore, 1) := by decide +kernel
theorem dX1_with_33 : decode cX1_with 33 = .ok (.aload_n 2, 1) := by decide +kernel
theorem dX1_with_34 : decode cX1_with 34 = .ok (.areturn, 1) := by decide +kernel
theorem dX1_price_0 : decode cX1_price 0 = .ok (.iconst 5, 1) := by decide +kernel
theorem dX1_price_1 : decode cX1_price 1 = .ok (.bipush 99, 2) := by decide +kernel
theorem dX1_price_3 : decode cX1_price 3 = .ok (.aload_n 0, 1) := by decide +kernel
theorem dX1_price_4 : decode cX1_price 4 = .ok (.iconst 1, 1) := by decide +kernel
theorem dX1_price_5 : decode cX1_price 5 = .ok (.iaload, 1) := by decide +kernel
theorem dX1_price_6 : decode cX1_price 6 = .ok (.isub, 1) := by decide +kernel
theorem dX1_price_7 : decode cX1_price 7 = .ok (.bipush 10, 2) := by decide +kernel
theorem dX1_price_9 : decode cX1_price 9 = .ok (.idiv, 1) := by decide +kernel
theorem dX1_price_10 : decode cX1_price 10 = .ok (.iadd, 1) := by decide +kernel
theorem dX1_price_11 : decode cX1_price 11 = .ok (.ireturn, 1) := by decide +kernel
theorem dX1_lastHeir_0 : decode cX1_lastHeir 0 = .ok (.aload_n 0, 1) := by decide +kernel
theorem dX1_lastHeir_1 : decode cX1_lastHeir 1 = .ok (.getfield 9, 3) := by decide +kernel
theorem dX1_lastHeir_4 : decode cX1_lastHeir 4 = .ok (.arraylength, 1) := by decide +kernel
theorem dX1_lastHeir_5 : decode cX1_lastHeir 5 = .ok (.newarray .boolean, 2) := by decide +kernel
theorem dX1_lastHeir_7 : decode cX1_lastHeir 7 = .ok (.astore_n 2, 1) := by decide +kernel
theorem dX1_lastHeir_8 : decode cX1_lastHeir 8 = .ok (.iload_n 1, 1) := by decide +kernel
theorem dX1_lastHeir_9 : decode cX1_lastHeir 9 = .ok (.istore_n 3, 1) := by decide +kernel
theorem dX1_lastHeir_10 : decode cX1_lastHeir 10 = .ok (.aload_n 2, 1) := by decide +kernel
theorem dX1_lastHeir_11 : decode cX1_lastHeir 11 = .ok (.iload_n 3, 1) := by decide +kernel
theorem dX1_lastHeir_12 : decode cX1_lastHeir 12 = .ok (.baload, 1) := by decide +kernel
theorem dX1_lastHeir_13 : decode cX1_lastHeir 13 = .ok (.ifCond .ne 41, 3) := by decide +kernel
theorem dX1_lastHeir_16 : decode cX1_lastHeir 16 = .ok (.aload_n 2, 1) := by decide +kernel
theorem dX1_lastHeir_17 : decode cX1_lastHeir 17 = .ok (.iload_n 3, 1) := by decide +kernel
theorem dX1_lastHeir_18 : decode cX1_lastHeir 18 = .ok (.iconst 1, 1) := by decide +kernel
theorem dX1_lastHeir_19 : decode cX1_lastHeir 19 = .ok (.bastore, 1) := by decide +kernel
theorem dX1_lastHeir_20 : decode cX1_lastHeir 20 = .ok (.aload_n 0, 1) := by decide +kernel
theorem dX1_lastHeir_21 : decode cX1_lastHeir 21 = .ok (.getfield 9, 3) := by decide +kernel
theorem dX1_lastHeir_24 : decode cX1_lastHeir 24 = .ok (.iload_n 3, 1) := by decide +kernel
theorem dX1_lastHeir_25 : decode cX1_lastHeir 25 = .ok (.aaload, 1) := by decide +kernel
theorem dX1_lastHeir_26 : decode cX1_lastHeir 26 = .ok (.iconst 4, 1) := by decide +kernel
theorem dX1_lastHeir_27 : decode cX1_lastHeir 27 = .ok (.iaload, 1) := by decide +kernel
theorem dX1_lastHeir_28 : decode cX1_lastHeir 28 = .ok (.istore_n 3, 1) := by decide +kernel
theorem dX1_lastHeir_29 : decode cX1_lastHeir 29 = .ok (.iload_n 3, 1) := by decide +kernel
theorem dX1_lastHeir_30 : decode cX1_lastHeir 30 = .ok (.ifCond .lt 8, 3) := by decide +kernel
theorem dX1_lastHeir_33 : decode cX1_lastHeir 33 = .ok (.iload_n 3, 1) := by decide +kernel
theorem dX1_lastHeir_34 : decode cX1_lastHeir 34 = .ok (.iload_n 1, 1) := by decide +kernel
theorem dX1_lastHeir_35 : decode cX1_lastHeir 35 = .ok (.if_icmp .ne 5, 3) := by decide +kernel
theorem dX1_lastHeir_38 : decode cX1_lastHeir 38 = .ok (.iconst (-1), 1) := by decide +kernel
theorem dX1_lastHeir_39 : decode cX1_lastHeir 39 = .ok (.ireturn, 1) := by decide +kernel
theorem dX1_lastHeir_40 : decode cX1_lastHeir 40 = .ok (.aload_n 0, 1) := by decide +kernel
theorem dX1_lastHeir_41 : decode cX1_lastHeir 41 = .ok (.getfield 9, 3) := by decide +kernel
theorem dX1_lastHeir_44 : decode cX1_lastHeir 44 = .ok (.iload_n 3, 1) := by decide +kernel
theorem dX1_lastHeir_45 : decode cX1_lastHeir 45 = .ok (.aaload, 1) := by decide +kernel
theorem dX1_lastHeir_46 : decode cX1_lastHeir 46 = .ok (.iconst 0, 1) := by decide +kernel
theorem dX1_lastHeir_47 : decode cX1_lastHeir 47 = .ok (.iaload, 1) := by decide +kernel
theorem dX1_lastHeir_48 : decode cX1_lastHeir 48 = .ok (.iconst 1, 1) := by decide +kernel
theorem dX1_lastHeir_49 : decode cX1_lastHeir 49 = .ok (.if_icmp .ne (-39), 3) := by decide +kernel
theorem dX1_lastHeir_52 : decode cX1_lastHeir 52 = .ok (.iload_n 3, 1) := by decide +kernel
theorem dX1_lastHeir_53 : decode cX1_lastHeir 53 = .ok (.ireturn, 1) := by decide +kernel
theorem dX1_lastHeir_54 : decode cX1_lastHeir 54 = .ok (.iconst (-1), 1) := by decide +kernel
theorem dX1_lastHeir_55 : decode cX1_lastHeir 55 = .ok (.ireturn, 1) := by decide +kernel
theorem dX1_tells_0 : decode cX1_tells 0 = .ok (.aload_n 0, 1) := by decide +kernel
theorem dX1_tells_1 : decode cX1_tells 1 = .ok (.iconst 0, 1) := by decide +kernel
theorem dX1_tells_2 : decode cX1_tells 2 = .ok (.iaload, 1) := by decide +kernel
theorem dX1_tells_3 : decode cX1_tells 3 = .ok (.iconst 3, 1) := by decide +kernel
theorem dX1_tells_4 : decode cX1_tells 4 = .ok (.if_icmp .ge 5, 3) := by decide +kernel
theorem dX1_tells_7 : decode cX1_tells 7 = .ok (.iconst 0, 1) := by decide +kernel
theorem dX1_tells_8 : decode cX1_tells 8 = .ok (.ireturn, 1) := by decide +kernel
theorem dX1_tells_9 : decode cX1_tells 9 = .ok (.iload_n 1, 1) := by decide +kernel
theorem dX1_tells_10 : decode cX1_tells 10 = .ok (.bipush 9, 2) := by decide +kernel
theorem dX1_tells_12 : decode cX1_tells 12 = .ok (.aload_n 0, 1) := by decide +kernel
theorem dX1_tells_13 : decode cX1_tells 13 = .ok (.iconst 0, 1) := by decide +kernel
theorem dX1_tells_14 : decode cX1_tells 14 = .ok (.iaload, 1) := by decide +kernel
theorem dX1_tells_15 : decode cX1_tells 15 = .ok (.isub, 1) := by decide +kernel
theorem dX1_tells_16 : decode cX1_tells 16 = .ok (.iconst 2, 1) := by decide +kernel
theorem dX1_tells_17 : decode cX1_tells 17 = .ok (.idiv, 1) := by decide +kernel
theorem dX1_tells_18 : decode cX1_tells 18 = .ok (.isub, 1) := by decide +kernel
theorem dX1_tells_19 : decode cX1_tells 19 = .ok (.istore_n 2, 1) := by decide +kernel
theorem dX1_tells_20 : decode cX1_tells 20 = .ok (.iload_n 2, 1) := by decide +kernel
theorem dX1_tells_21 : decode cX1_tells 21 = .ok (.iconst 1, 1) := by decide +kernel
theorem dX1_tells_22 : decode cX1_tells 22 = .ok (.if_icmp .ge 7, 3) := by decide +kernel
theorem dX1_tells_25 : decode cX1_tells 25 = .ok (.iconst 1, 1) := by decide +kernel
theorem dX1_tells_26 : decode cX1_tells 26 = .ok (.goto 4, 3) := by decide +kernel
theorem dX1_tells_29 : decode cX1_tells 29 = .ok (.iload_n 2, 1) := by decide +kernel
theorem dX1_tells_30 : decode cX1_tells 30 = .ok (.ireturn, 1) := by decide +kernel
theorem dX1_certify_0 : decode cX1_certify 0 = .ok (.aload_n 0, 1) := by decide +kernel
theorem dX1_certify_1 : decode cX1_certify 1 = .ok (.getfield 15, 3) := by decide +kernel
theorem dX1_certify_4 : decode cX1_certify 4 = .ok (.arraylength, 1) := by decide +kernel
theorem dX1_certify_5 : decode cX1_certify 5 = .ok (.newarray .int, 2) := by decide +kernel
theorem dX1_certify_7 : decode cX1_certify 7 = .ok (.astore_n 2, 1) := by decide +kernel
theorem dX1_certify_8 : decode cX1_certify 8 = .ok (.iconst 0, 1) := by decide +kernel
theorem dX1_certify_9 : decode cX1_certify 9 = .ok (.istore_n 3, 1) := by decide +kernel
theorem dX1_certify_10 : decode cX1_certify 10 = .ok (.aload_n 0, 1) := by decide +kernel
theorem dX1_certify_11 : decode cX1_certify 11 = .ok (.getfield 15, 3) := by decide +kernel
theorem dX1_certify_14 : decode cX1_certify 14 = .ok (.astore 4, 2) := by decide +kernel
theorem dX1_certify_16 : decode cX1_certify 16 = .ok (.aload 4, 2) := by decide +kernel
theorem dX1_certify_18 : decode cX1_certify 18 = .ok (.arraylength, 1) := by decide +kernel
theorem dX1_certify_19 : decode cX1_certify 19 = .ok (.istore 5, 2) := by decide +kernel
theorem dX1_certify_21 : decode cX1_certify 21 = .ok (.iconst 0, 1) := by decide +kernel
theorem dX1_certify_22 : decode cX1_certify 22 = .ok (.istore 6, 2) := by decide +kernel
theorem dX1_certify_24 : decode cX1_certify 24 = .ok (.iload 6, 2) := by decide +kernel
theorem dX1_certify_26 : decode cX1_certify 26 = .ok (.iload 5, 2) := by decide +kernel
theorem dX1_certify_28 : decode cX1_certify 28 = .ok (.if_icmp .ge 83, 3) := by decide +kernel
theorem dX1_certify_31 : decode cX1_certify 31 = .ok (.aload 4, 2) := by decide +kernel
theorem dX1_certify_33 : decode cX1_certify 33 = .ok (.iload 6, 2) := by decide +kernel
theorem dX1_certify_35 : decode cX1_certify 35 = .ok (.aaload, 1) := by decide +kernel
theorem dX1_certify_36 : decode cX1_certify 36 = .ok (.astore 7, 2) := by decide +kernel
theorem dX1_certify_38 : decode cX1_certify 38 = .ok (.aload 7, 2) := by decide +kernel
theorem dX1_certify_40 : decode cX1_certify 40 = .ok (.iload_n 1, 1) := by decide +kernel
theorem dX1_certify_41 : decode cX1_certify 41 = .ok (.invokestatic 21, 3) := by decide +kernel
theorem dX1_certify_44 : decode cX1_certify 44 = .ok (.istore 8, 2) := by decide +kernel
theorem dX1_certify_46 : decode cX1_certify 46 = .ok (.aload 7, 2) := by decide +kernel
theorem dX1_certify_48 : decode cX1_certify 48 = .ok (.iconst 1, 1) := by decide +kernel
theorem dX1_certify_49 : decode cX1_certify 49 = .ok (.iaload, 1) := by decide +kernel
theorem dX1_certify_50 : decode cX1_certify 50 = .ok (.ifCond .eq 55, 3) := by decide +kernel
theorem dX1_certify_53 : decode cX1_certify 53 = .ok (.iload 8, 2) := by decide +kernel
theorem dX1_certify_55 : decode cX1_certify 55 = .ok (.ifCond .ne 6, 3) := by decide +kernel
theorem dX1_certify_58 : decode cX1_certify 58 = .ok (.goto 47, 3) := by decide +kernel
theorem dX1_certify_61 : decode cX1_certify 61 = .ok (.iload_n 3, 1) := by decide +kernel
theorem dX1_certify_62 : decode cX1_certify 62 = .ok (.istore 9, 2) := by decide +kernel
theorem dX1_certify_64 : decode cX1_certify 64 = .ok (.iload 9, 2) := by decide +kernel
theorem dX1_certify_66 : decode cX1_certify 66 = .ok (.ifCond .le 30, 3) := by decide +kernel
theorem dX1_certify_69 : decode cX1_certify 69 = .ok (.aload_n 2, 1) := by decide +kernel
theorem dX1_certify_70 : decode cX1_certify 70 = .ok (.iload 9, 2) := by decide +kernel
theorem dX1_certify_72 : decode cX1_certify 72 = .ok (.iconst 1, 1) := by decide +kernel
theorem dX1_certify_73 : decode cX1_certify 73 = .ok (.isub, 1) := by decide +kernel
theorem dX1_certify_74 : decode cX1_certify 74 = .ok (.iaload, 1) := by decide +kernel
theorem dX1_certify_75 : decode cX1_certify 75 = .ok (.iload 8, 2) := by decide +kernel
theorem dX1_certify_77 : decode cX1_certify 77 = .ok (.if_icmp .le 19, 3) := by decide +kernel
theorem dX1_certify_80 : decode cX1_certify 80 = .ok (.aload_n 2, 1) := by decide +kernel
theorem dX1_certify_81 : decode cX1_certify 81 = .ok (.iload 9, 2) := by decide +kernel
theorem dX1_certify_83 : decode cX1_certify 83 = .ok (.aload_n 2, 1) := by decide +kernel
theorem dX1_certify_84 : decode cX1_certify 84 = .ok (.iload 9, 2) := by decide +kernel
theorem dX1_certify_86 : decode cX1_certify 86 = .ok (.iconst 1, 1) := by decide +kernel
theorem dX1_certify_87 : decode cX1_certify 87 = .ok (.isub, 1) := by decide +kernel
theorem dX1_certify_88 : decode cX1_certify 88 = .ok (.iaload, 1) := by decide +kernel
theorem dX1_certify_89 : decode cX1_certify 89 = .ok (.iastore, 1) := by decide +kernel
theorem dX1_certify_90 : decode cX1_certify 90 = .ok (.iinc 9 (-1), 3) := by decide +kernel
theorem dX1_certify_93 : decode cX1_certify 93 = .ok (.goto (-29), 3) := by decide +kernel
theorem dX1_certify_96 : decode cX1_certify 96 = .ok (.aload_n 2, 1) := by decide +kernel
theorem dX1_certify_97 : decode cX1_certify 97 = .ok (.iload 9, 2) := by decide +kernel
theorem dX1_certify_99 : decode cX1_certify 99 = .ok (.iload 8, 2) := by decide +kernel
theorem dX1_certify_101 : decode cX1_certify 101 = .ok (.iastore, 1) := by decide +kernel
theorem dX1_certify_102 : decode cX1_certify 102 = .ok (.iinc 3 1, 3) := by decide +kernel
theorem dX1_certify_105 : decode cX1_certify 105 = .ok (.iinc 6 1, 3) := by decide +kernel
theorem dX1_certify_108 : decode cX1_certify 108 = .ok (.goto (-84), 3) := by decide +kernel
theorem dX1_certify_111 : decode cX1_certify 111 = .ok (.iload_n 3, 1) := by decide +kernel
theorem dX1_certify_112 : decode cX1_certify 112 = .ok (.ifCond .ne 7, 3) := by decide +kernel
theorem dX1_certify_115 : decode cX1_certify 115 = .ok (.iconst 0, 1) := by decide +kernel
theorem dX1_certify_116 : decode cX1_certify 116 = .ok (.goto 10, 3) := by decide +kernel
theorem dX1_certify_119 : decode cX1_certify 119 = .ok (.aload_n 2, 1) := by decide +kernel
theorem dX1_certify_120 : decode cX1_certify 120 = .ok (.iload_n 3, 1) := by decide +kernel
theorem dX1_certify_121 : decode cX1_certify 121 = .ok (.iconst 1, 1) := by decide +kernel
theorem dX1_certify_122 : decode cX1_certify 122 = .ok (.isub, 1) := by decide +kernel
theorem dX1_certify_123 : decode cX1_certify 123 = .ok (.iconst 2, 1) := by decide +kernel
theorem dX1_certify_124 : decode cX1_certify 124 = .ok (.idiv, 1) := by decide +kernel
theorem dX1_certify_125 : decode cX1_certify 125 = .ok (.iaload, 1) := by decide +kernel
theorem dX1_certify_126 : decode cX1_certify 126 = .ok (.ireturn, 1) := by decide +kernel
theorem dX1_refund_0 : decode cX1_refund 0 = .ok (.aload_n 1, 1) := by decide +kernel
theorem dX1_refund_1 : decode cX1_refund 1 = .ok (.iconst 0, 1) := by decide +kernel
theorem dX1_refund_2 : decode cX1_refund 2 = .ok (.iaload, 1) := by decide +kernel
theorem dX1_refund_3 : decode cX1_refund 3 = .ok (.ifCond .eq 19, 3) := by decide +kernel
theorem dX1_refund_6 : decode cX1_refund 6 = .ok (.aload_n 1, 1) := by decide +kernel
theorem dX1_refund_7 : decode cX1_refund 7 = .ok (.iconst 3, 1) := by decide +kernel
theorem dX1_refund_8 : decode cX1_refund 8 = .ok (.iaload, 1) := by decide +kernel
theorem dX1_refund_9 : decode cX1_refund 9 = .ok (.ifCond .eq 13, 3) := by decide +kernel
theorem dX1_refund_12 : decode cX1_refund 12 = .ok (.iload_n 2, 1) := by decide +kernel
theorem dX1_refund_13 : decode cX1_refund 13 = .ok (.ifCond .eq 9, 3) := by decide +kernel
theorem dX1_refund_16 : decode cX1_refund 16 = .ok (.iload_n 2, 1) := by decide +kernel
theorem dX1_refund_17 : decode cX1_refund 17 = .ok (.bipush 24, 2) := by decide +kernel
theorem dX1_refund_19 : decode cX1_refund 19 = .ok (.if_icmp .le 5, 3) := by decide +kernel
theorem dX1_refund_22 : decode cX1_refund 22 = .ok (.iconst 0, 1) := by decide +kernel
theorem dX1_refund_23 : decode cX1_refund 23 = .ok (.ireturn, 1) := by decide +kernel
theorem dX1_refund_24 : decode cX1_refund 24 = .ok (.aload_n 1, 1) := by decide +kernel
theorem dX1_refund_25 : decode cX1_refund 25 = .ok (.invokestatic 25, 3) := by decide +kernel
theorem dX1_refund_28 : decode cX1_refund 28 = .ok (.bipush 24, 2) := by decide +kernel
theorem dX1_refund_30 : decode cX1_refund 30 = .ok (.iadd, 1) := by decide +kernel
theorem dX1_refund_31 : decode cX1_refund 31 = .ok (.iload_n 2, 1) := by decide +kernel
theorem dX1_refund_32 : decode cX1_refund 32 = .ok (.isub, 1) := by decide +kernel
theorem dX1_refund_33 : decode cX1_refund 33 = .ok (.istore_n 3, 1) := by decide +kernel
theorem dX1_refund_34 : decode cX1_refund 34 = .ok (.iload_n 3, 1) := by decide +kernel
theorem dX1_refund_35 : decode cX1_refund 35 = .ok (.aload_n 0, 1) := by decide +kernel
theorem dX1_refund_36 : decode cX1_refund 36 = .ok (.getfield 29, 3) := by decide +kernel
theorem dX1_refund_39 : decode cX1_refund 39 = .ok (.if_icmp .le 10, 3) := by decide +kernel
theorem dX1_refund_42 : decode cX1_refund 42 = .ok (.aload_n 0, 1) := by decide +kernel
theorem dX1_refund_43 : decode cX1_refund 43 = .ok (.getfield 29, 3) := by decide +kernel
theorem dX1_refund_46 : decode cX1_refund 46 = .ok (.goto 4, 3) := by decide +kernel
theorem dX1_refund_49 : decode cX1_refund 49 = .ok (.iload_n 3, 1) := by decide +kernel
theorem dX1_refund_50 : decode cX1_refund 50 = .ok (.ireturn, 1) := by decide +kernel
theorem dX1_miss_0 : decode cX1_miss 0 = .ok (.aload_n 0, 1) := by decide +kernel
theorem dX1_miss_1 : decode cX1_miss 1 = .ok (.getfield 9, 3) := by decide +kernel
theorem dX1_miss_4 : decode cX1_miss 4 = .ok (.iload_n 1, 1) := by decide +kernel
theorem dX1_miss_5 : decode cX1_miss 5 = .ok (.aaload, 1) := by decide +kernel
theorem dX1_miss_6 : decode cX1_miss 6 = .ok (.astore_n 3, 1) := by decide +kernel
theorem dX1_miss_7 : decode cX1_miss 7 = .ok (.aload_n 0, 1) := by decide +kernel
theorem dX1_miss_8 : decode cX1_miss 8 = .ok (.iload_n 2, 1) := by decide +kernel
theorem dX1_miss_9 : decode cX1_miss 9 = .ok (.invokevirtual 33, 3) := by decide +kernel
theorem dX1_miss_12 : decode cX1_miss 12 = .ok (.istore 4, 2) := by decide +kernel
theorem dX1_miss_14 : decode cX1_miss 14 = .ok (.iload 4, 2) := by decide +kernel
theorem dX1_miss_16 : decode cX1_miss 16 = .ok (.ifCond .le 62, 3) := by decide +kernel
theorem dX1_miss_19 : decode cX1_miss 19 = .ok (.iload 4, 2) := by decide +kernel
theorem dX1_miss_21 : decode cX1_miss 21 = .ok (.bipush 25, 2) := by decide +kernel
theorem dX1_miss_23 : decode cX1_miss 23 = .ok (.if_icmp .ge 55, 3) := by decide +kernel
theorem dX1_miss_26 : decode cX1_miss 26 = .ok (.aload_n 3, 1) := by decide +kernel
theorem dX1_miss_27 : decode cX1_miss 27 = .ok (.iconst 3, 1) := by decide +kernel
theorem dX1_miss_28 : decode cX1_miss 28 = .ok (.iaload, 1) := by decide +kernel
theorem dX1_miss_29 : decode cX1_miss 29 = .ok (.ifCond .le 49, 3) := by decide +kernel
theorem dX1_miss_32 : decode cX1_miss 32 = .ok (.aload_n 0, 1) := by decide +kernel
theorem dX1_miss_33 : decode cX1_miss 33 = .ok (.aload_n 3, 1) := by decide +kernel
theorem dX1_miss_34 : decode cX1_miss 34 = .ok (.iload 4, 2) := by decide +kernel
theorem dX1_miss_36 : decode cX1_miss 36 = .ok (.invokevirtual 37, 3) := by decide +kernel
theorem dX1_miss_39 : decode cX1_miss 39 = .ok (.istore 5, 2) := by decide +kernel
theorem dX1_miss_41 : decode cX1_miss 41 = .ok (.aload_n 3, 1) := by decide +kernel
theorem dX1_miss_42 : decode cX1_miss 42 = .ok (.iconst 3, 1) := by decide +kernel
theorem dX1_miss_43 : decode cX1_miss 43 = .ok (.dup2, 1) := by decide +kernel
theorem dX1_miss_44 : decode cX1_miss 44 = .ok (.iaload, 1) := by decide +kernel
theorem dX1_miss_45 : decode cX1_miss 45 = .ok (.iconst 1, 1) := by decide +kernel
theorem dX1_miss_46 : decode cX1_miss 46 = .ok (.isub, 1) := by decide +kernel
theorem dX1_miss_47 : decode cX1_miss 47 = .ok (.iastore, 1) := by decide +kernel
theorem dX1_miss_48 : decode cX1_miss 48 = .ok (.aload_n 3, 1) := by decide +kernel
theorem dX1_miss_49 : decode cX1_miss 49 = .ok (.iconst 2, 1) := by decide +kernel
theorem dX1_miss_50 : decode cX1_miss 50 = .ok (.dup2, 1) := by decide +kernel
theorem dX1_miss_51 : decode cX1_miss 51 = .ok (.iaload, 1) := by decide +kernel
theorem dX1_miss_52 : decode cX1_miss 52 = .ok (.iload 5, 2) := by decide +kernel
theorem dX1_miss_54 : decode cX1_miss 54 = .ok (.iadd, 1) := by decide +kernel
theorem dX1_miss_55 : decode cX1_miss 55 = .ok (.iastore, 1) := by decide +kernel
theorem dX1_miss_56 : decode cX1_miss 56 = .ok (.aload_n 0, 1) := by decide +kernel
theorem dX1_miss_57 : decode cX1_miss 57 = .ok (.dup, 1) := by decide +kernel
theorem dX1_miss_58 : decode cX1_miss 58 = .ok (.getfield 29, 3) := by decide +kernel
theorem dX1_miss_61 : decode cX1_miss 61 = .ok (.iload 5, 2) := by decide +kernel
theorem dX1_miss_63 : decode cX1_miss 63 = .ok (.isub, 1) := by decide +kernel
theorem dX1_miss_64 : decode cX1_miss 64 = .ok (.putfield 29, 3) := by decide +kernel
theorem dX1_miss_67 : decode cX1_miss 67 = .ok (.aload_n 0, 1) := by decide +kernel
theorem dX1_miss_68 : decode cX1_miss 68 = .ok (.dup, 1) := by decide +kernel
theorem dX1_miss_69 : decode cX1_miss 69 = .ok (.getfield 40, 3) := by decide +kernel
theorem dX1_miss_72 : decode cX1_miss 72 = .ok (.iload 5, 2) := by decide +kernel
theorem dX1_miss_74 : decode cX1_miss 74 = .ok (.iadd, 1) := by decide +kernel
theorem dX1_miss_75 : decode cX1_miss 75 = .ok (.putfield 40, 3) := by decide +kernel
theorem dX1_miss_78 : decode cX1_miss 78 = .ok (.aload_n 3, 1) := by decide +kernel
theorem dX1_miss_79 : decode cX1_miss 79 = .ok (.iconst 1, 1) := by decide +kernel
theorem dX1_miss_80 : decode cX1_miss 80 = .ok (.iconst 0, 1) := by decide +kernel
theorem dX1_miss_81 : decode cX1_miss 81 = .ok (.aload_n 3, 1) := by decide +kernel
theorem dX1_miss_82 : decode cX1_miss 82 = .ok (.iconst 1, 1) := by decide +kernel
theorem dX1_miss_83 : decode cX1_miss 83 = .ok (.iaload, 1) := by decide +kernel
theorem dX1_miss_84 : decode cX1_miss 84 = .ok (.bipush 60, 2) := by decide +kernel
theorem dX1_miss_86 : decode cX1_miss 86 = .ok (.iload_n 2, 1) := by decide +kernel
theorem dX1_miss_87 : decode cX1_miss 87 = .ok (.isub, 1) := by decide +kernel
theorem dX1_miss_88 : decode cX1_miss 88 = .ok (.bipush 10, 2) := by decide +kernel
theorem dX1_miss_90 : decode cX1_miss 90 = .ok (.idiv, 1) := by decide +kernel
theorem dX1_miss_91 : decode cX1_miss 91 = .ok (.isub, 1) := by decide +kernel
theorem dX1_miss_92 : decode cX1_miss 92 = .ok (.invokestatic 43, 3) := by decide +kernel
theorem dX1_miss_95 : decode cX1_miss 95 = .ok (.iastore, 1) := by decide +kernel
theorem dX1_miss_96 : decode cX1_miss 96 = .ok (.iload_n 2, 1) := by decide +kernel
theorem dX1_miss_97 : decode cX1_miss 97 = .ok (.bipush 6, 2) := by decide +kernel
theorem dX1_miss_99 : decode cX1_miss 99 = .ok (.if_icmp .ge 7, 3) := by decide +kernel
theorem dX1_miss_102 : decode cX1_miss 102 = .ok (.iconst 3, 1) := by decide +kernel
theorem dX1_miss_103 : decode cX1_miss 103 = .ok (.goto 14, 3) := by decide +kernel
theorem dX1_miss_106 : decode cX1_miss 106 = .ok (.iload_n 2, 1) := by decide +kernel
theorem dX1_miss_107 : decode cX1_miss 107 = .ok (.bipush 13, 2) := by decide +kernel
theorem dX1_miss_109 : decode cX1_miss 109 = .ok (.if_icmp .ge 7, 3) := by decide +kernel
theorem dX1_miss_112 : decode cX1_miss 112 = .ok (.iconst 2, 1) := by decide +kernel
theorem dX1_miss_113 : decode cX1_miss 113 = .ok (.goto 4, 3) := by decide +kernel
theorem dX1_miss_116 : decode cX1_miss 116 = .ok (.iconst 1, 1) := by decide +kernel
theorem dX1_miss_117 : decode cX1_miss 117 = .ok (.istore 5, 2) := by decide +kernel
theorem dX1_miss_119 : decode cX1_miss 119 = .ok (.aload_n 0, 1) := by decide +kernel
theorem dX1_miss_120 : decode cX1_miss 120 = .ok (.getfield 15, 3) := by decide +kernel
theorem dX1_miss_123 : decode cX1_miss 123 = .ok (.astore 6, 2) := by decide +kernel
theorem dX1_miss_125 : decode cX1_miss 125 = .ok (.aload 6, 2) := by decide +kernel
theorem dX1_miss_127 : decode cX1_miss 127 = .ok (.arraylength, 1) := by decide +kernel
theorem dX1_miss_128 : decode cX1_miss 128 = .ok (.istore 7, 2) := by decide +kernel
theorem dX1_miss_130 : decode cX1_miss 130 = .ok (.iconst 0, 1) := by decide +kernel
theorem dX1_miss_131 : decode cX1_miss 131 = .ok (.istore 8, 2) := by decide +kernel
theorem dX1_miss_133 : decode cX1_miss 133 = .ok (.iload 8, 2) := by decide +kernel
theorem dX1_miss_135 : decode cX1_miss 135 = .ok (.iload 7, 2) := by decide +kernel
theorem dX1_miss_137 : decode cX1_miss 137 = .ok (.if_icmp .ge 39, 3) := by decide +kernel
theorem dX1_miss_140 : decode cX1_miss 140 = .ok (.aload 6, 2) := by decide +kernel
theorem dX1_miss_142 : decode cX1_miss 142 = .ok (.iload 8, 2) := by decide +kernel
theorem dX1_miss_144 : decode cX1_miss 144 = .ok (.aaload, 1) := by decide +kernel
theorem dX1_miss_145 : decode cX1_miss 145 = .ok (.astore 9, 2) := by decide +kernel
theorem dX1_miss_147 : decode cX1_miss 147 = .ok (.aload 9, 2) := by decide +kernel
theorem dX1_miss_149 : decode cX1_miss 149 = .ok (.iconst 1, 1) := by decide +kernel
theorem dX1_miss_150 : decode cX1_miss 150 = .ok (.iaload, 1) := by decide +kernel
theorem dX1_miss_151 : decode cX1_miss 151 = .ok (.iconst 1, 1) := by decide +kernel
theorem dX1_miss_152 : decode cX1_miss 152 = .ok (.if_icmp .ne 18, 3) := by decide +kernel
theorem dX1_miss_155 : decode cX1_miss 155 = .ok (.aload 9, 2) := by decide +kernel
theorem dX1_miss_157 : decode cX1_miss 157 = .ok (.iconst 0, 1) := by decide +kernel
theorem dX1_miss_158 : decode cX1_miss 158 = .ok (.iconst 0, 1) := by decide +kernel
theorem dX1_miss_159 : decode cX1_miss 159 = .ok (.aload 9, 2) := by decide +kernel
theorem dX1_miss_161 : decode cX1_miss 161 = .ok (.iconst 0, 1) := by decide +kernel
theorem dX1_miss_162 : decode cX1_miss 162 = .ok (.iaload, 1) := by decide +kernel
theorem dX1_miss_163 : decode cX1_miss 163 = .ok (.iload 5, 2) := by decide +kernel
theorem dX1_miss_165 : decode cX1_miss 165 = .ok (.isub, 1) := by decide +kernel
theorem dX1_miss_166 : decode cX1_miss 166 = .ok (.invokestatic 43, 3) := by decide +kernel
theorem dX1_miss_169 : decode cX1_miss 169 = .ok (.iastore, 1) := by decide +kernel
theorem dX1_miss_170 : decode cX1_miss 170 = .ok (.iinc 8 1, 3) := by decide +kernel
theorem dX1_miss_173 : decode cX1_miss 173 = .ok (.goto (-40), 3) := by decide +kernel
theorem dX1_miss_176 : decode cX1_miss 176 = .ok (.aload_n 0, 1) := by decide +kernel
theorem dX1_miss_177 : decode cX1_miss 177 = .ok (.aload_n 0, 1) := by decide +kernel
theorem dX1_miss_178 : decode cX1_miss 178 = .ok (.getfield 18, 3) := by decide +kernel
theorem dX1_miss_181 : decode cX1_miss 181 = .ok (.iconst 2, 1) := by decide +kernel
theorem dX1_miss_182 : decode cX1_miss 182 = .ok (.newarray .int, 2) := by decide +kernel
theorem dX1_miss_184 : decode cX1_miss 184 = .ok (.dup, 1) := by decide +kernel
theorem dX1_miss_185 : decode cX1_miss 185 = .ok (.iconst 0, 1) := by decide +kernel
theorem dX1_miss_186 : decode cX1_miss 186 = .ok (.iload_n 1, 1) := by decide +kernel
theorem dX1_miss_187 : decode cX1_miss 187 = .ok (.iastore, 1) := by decide +kernel
theorem dX1_miss_188 : decode cX1_miss 188 = .ok (.dup, 1) := by decide +kernel
theorem dX1_miss_189 : decode cX1_miss 189 = .ok (.iconst 1, 1) := by decide +kernel
theorem dX1_miss_190 : decode cX1_miss 190 = .ok (.iload 4, 2) := by decide +kernel
theorem dX1_miss_192 : decode cX1_miss 192 = .ok (.iastore, 1) := by decide +kernel
theorem dX1_miss_193 : decode cX1_miss 193 = .ok (.invokestatic 49, 3) := by decide +kernel
theorem dX1_miss_196 : decode cX1_miss 196 = .ok (.putfield 18, 3) := by decide +kernel
theorem dX1_miss_199 : decode cX1_miss 199 = .ok (.iload 4, 2) := by decide +kernel
theorem dX1_miss_201 : decode cX1_miss 201 = .ok (.ireturn, 1) := by decide +kernel
theorem dX1_hit_0 : decode cX1_hit 0 = .ok (.aload_n 0, 1) := by decide +kernel
theorem dX1_hit_1 : decode cX1_hit 1 = .ok (.iload_n 1, 1) := by decide +kernel
theorem dX1_hit_2 : decode cX1_hit 2 = .ok (.invokevirtual 53, 3) := by decide +kernel
theorem dX1_hit_5 : decode cX1_hit 5 = .ok (.istore_n 2, 1) := by decide +kernel
theorem dX1_hit_6 : decode cX1_hit 6 = .ok (.aload_n 0, 1) := by decide +kernel
theorem dX1_hit_7 : decode cX1_hit 7 = .ok (.getfield 9, 3) := by decide +kernel
theorem dX1_hit_10 : decode cX1_hit 10 = .ok (.iload_n 1, 1) := by decide +kernel
theorem dX1_hit_11 : decode cX1_hit 11 = .ok (.aaload, 1) := by decide +kernel
theorem dX1_hit_12 : decode cX1_hit 12 = .ok (.astore_n 3, 1) := by decide +kernel
theorem dX1_hit_13 : decode cX1_hit 13 = .ok (.aload_n 3, 1) := by decide +kernel
theorem dX1_hit_14 : decode cX1_hit 14 = .ok (.iconst 0, 1) := by decide +kernel
theorem dX1_hit_15 : decode cX1_hit 15 = .ok (.iconst 0, 1) := by decide +kernel
theorem dX1_hit_16 : decode cX1_hit 16 = .ok (.iastore, 1) := by decide +kernel
theorem dX1_hit_17 : decode cX1_hit 17 = .ok (.aload_n 3, 1) := by decide +kernel
theorem dX1_hit_18 : decode cX1_hit 18 = .ok (.iconst 3, 1) := by decide +kernel
theorem dX1_hit_19 : decode cX1_hit 19 = .ok (.iconst 0, 1) := by decide +kernel
theorem dX1_hit_20 : decode cX1_hit 20 = .ok (.iastore, 1) := by decide +kernel
theorem dX1_hit_21 : decode cX1_hit 21 = .ok (.iload_n 2, 1) := by decide +kernel
theorem dX1_hit_22 : decode cX1_hit 22 = .ok (.ifCond .ge 18, 3) := by decide +kernel
theorem dX1_hit_25 : decode cX1_hit 25 = .ok (.aload_n 0, 1) := by decide +kernel
theorem dX1_hit_26 : decode cX1_hit 26 = .ok (.dup, 1) := by decide +kernel
theorem dX1_hit_27 : decode cX1_hit 27 = .ok (.getfield 29, 3) := by decide +kernel
theorem dX1_hit_30 : decode cX1_hit 30 = .ok (.aload_n 3, 1) := by decide +kernel
theorem dX1_hit_31 : decode cX1_hit 31 = .ok (.iconst 2, 1) := by decide +kernel
theorem dX1_hit_32 : decode cX1_hit 32 = .ok (.iaload, 1) := by decide +kernel
theorem dX1_hit_33 : decode cX1_hit 33 = .ok (.iadd, 1) := by decide +kernel
theorem dX1_hit_34 : decode cX1_hit 34 = .ok (.putfield 29, 3) := by decide +kernel
theorem dX1_hit_37 : decode cX1_hit 37 = .ok (.goto 44, 3) := by decide +kernel
theorem dX1_hit_40 : decode cX1_hit 40 = .ok (.aload_n 0, 1) := by decide +kernel
theorem dX1_hit_41 : decode cX1_hit 41 = .ok (.getfield 9, 3) := by decide +kernel
theorem dX1_hit_44 : decode cX1_hit 44 = .ok (.iload_n 2, 1) := by decide +kernel
theorem dX1_hit_45 : decode cX1_hit 45 = .ok (.aaload, 1) := by decide +kernel
theorem dX1_hit_46 : decode cX1_hit 46 = .ok (.iconst 1, 1) := by decide +kernel
theorem dX1_hit_47 : decode cX1_hit 47 = .ok (.bipush 99, 2) := by decide +kernel
theorem dX1_hit_49 : decode cX1_hit 49 = .ok (.aload_n 0, 1) := by decide +kernel
theorem dX1_hit_50 : decode cX1_hit 50 = .ok (.getfield 9, 3) := by decide +kernel
theorem dX1_hit_53 : decode cX1_hit 53 = .ok (.iload_n 2, 1) := by decide +kernel
theorem dX1_hit_54 : decode cX1_hit 54 = .ok (.aaload, 1) := by decide +kernel
theorem dX1_hit_55 : decode cX1_hit 55 = .ok (.iconst 1, 1) := by decide +kernel
theorem dX1_hit_56 : decode cX1_hit 56 = .ok (.iaload, 1) := by decide +kernel
theorem dX1_hit_57 : decode cX1_hit 57 = .ok (.aload_n 3, 1) := by decide +kernel
theorem dX1_hit_58 : decode cX1_hit 58 = .ok (.iconst 1, 1) := by decide +kernel
theorem dX1_hit_59 : decode cX1_hit 59 = .ok (.iaload, 1) := by decide +kernel
theorem dX1_hit_60 : decode cX1_hit 60 = .ok (.iconst 2, 1) := by decide +kernel
theorem dX1_hit_61 : decode cX1_hit 61 = .ok (.idiv, 1) := by decide +kernel
theorem dX1_hit_62 : decode cX1_hit 62 = .ok (.iadd, 1) := by decide +kernel
theorem dX1_hit_63 : decode cX1_hit 63 = .ok (.invokestatic 56, 3) := by decide +kernel
theorem dX1_hit_66 : decode cX1_hit 66 = .ok (.iastore, 1) := by decide +kernel
theorem dX1_hit_67 : decode cX1_hit 67 = .ok (.aload_n 0, 1) := by decide +kernel
theorem dX1_hit_68 : decode cX1_hit 68 = .ok (.getfield 9, 3) := by decide +kernel
theorem dX1_hit_71 : decode cX1_hit 71 = .ok (.iload_n 2, 1) := by decide +kernel
theorem dX1_hit_72 : decode cX1_hit 72 = .ok (.aaload, 1) := by decide +kernel
theorem dX1_hit_73 : decode cX1_hit 73 = .ok (.iconst 2, 1) := by decide +kernel
theorem dX1_hit_74 : decode cX1_hit 74 = .ok (.dup2, 1) := by decide +kernel
theorem dX1_hit_75 : decode cX1_hit 75 = .ok (.iaload, 1) := by decide +kernel
theorem dX1_hit_76 : decode cX1_hit 76 = .ok (.aload_n 3, 1) := by decide +kernel
theorem dX1_hit_77 : decode cX1_hit 77 = .ok (.iconst 2, 1) := by decide +kernel
theorem dX1_hit_78 : decode cX1_hit 78 = .ok (.iaload, 1) := by decide +kernel
theorem dX1_hit_79 : decode cX1_hit 79 = .ok (.iadd, 1) := by decide +kernel
theorem dX1_hit_80 : decode cX1_hit 80 = .ok (.iastore, 1) := by decide +kernel
theorem dX1_hit_81 : decode cX1_hit 81 = .ok (.aload_n 3, 1) := by decide +kernel
theorem dX1_hit_82 : decode cX1_hit 82 = .ok (.iconst 2, 1) := by decide +kernel
theorem dX1_hit_83 : decode cX1_hit 83 = .ok (.iconst 0, 1) := by decide +kernel
theorem dX1_hit_84 : decode cX1_hit 84 = .ok (.iastore, 1) := by decide +kernel
theorem dX1_hit_85 : decode cX1_hit 85 = .ok (.iload_n 2, 1) := by decide +kernel
theorem dX1_hit_86 : decode cX1_hit 86 = .ok (.ireturn, 1) := by decide +kernel
theorem dX1_pass_0 : decode cX1_pass 0 = .ok (.iconst 0, 1) := by decide +kernel
theorem dX1_pass_1 : decode cX1_pass 1 = .ok (.istore_n 2, 1) := by decide +kernel
theorem dX1_pass_2 : decode cX1_pass 2 = .ok (.iload_n 2, 1) := by decide +kernel
theorem dX1_pass_3 : decode cX1_pass 3 = .ok (.iload_n 1, 1) := by decide +kernel
theorem dX1_pass_4 : decode cX1_pass 4 = .ok (.if_icmp .ge 126, 3) := by decide +kernel
theorem dX1_pass_7 : decode cX1_pass 7 = .ok (.aload_n 0, 1) := by decide +kernel
theorem dX1_pass_8 : decode cX1_pass 8 = .ok (.getfield 15, 3) := by decide +kernel
theorem dX1_pass_11 : decode cX1_pass 11 = .ok (.astore_n 3, 1) := by decide +kernel
theorem dX1_pass_12 : decode cX1_pass 12 = .ok (.aload_n 3, 1) := by decide +kernel
theorem dX1_pass_13 : decode cX1_pass 13 = .ok (.arraylength, 1) := by decide +kernel
theorem dX1_pass_14 : decode cX1_pass 14 = .ok (.istore 4, 2) := by decide +kernel
theorem dX1_pass_16 : decode cX1_pass 16 = .ok (.iconst 0, 1) := by decide +kernel
theorem dX1_pass_17 : decode cX1_pass 17 = .ok (.istore 5, 2) := by decide +kernel
theorem dX1_pass_19 : decode cX1_pass 19 = .ok (.iload 5, 2) := by decide +kernel
theorem dX1_pass_21 : decode cX1_pass 21 = .ok (.iload 4, 2) := by decide +kernel
theorem dX1_pass_23 : decode cX1_pass 23 = .ok (.if_icmp .ge 35, 3) := by decide +kernel
theorem dX1_pass_26 : decode cX1_pass 26 = .ok (.aload_n 3, 1) := by decide +kernel
theorem dX1_pass_27 : decode cX1_pass 27 = .ok (.iload 5, 2) := by decide +kernel
theorem dX1_pass_29 : decode cX1_pass 29 = .ok (.aaload, 1) := by decide +kernel
theorem dX1_pass_30 : decode cX1_pass 30 = .ok (.astore 6, 2) := by decide +kernel
theorem dX1_pass_32 : decode cX1_pass 32 = .ok (.aload 6, 2) := by decide +kernel
theorem dX1_pass_34 : decode cX1_pass 34 = .ok (.iconst 0, 1) := by decide +kernel
theorem dX1_pass_35 : decode cX1_pass 35 = .ok (.bipush 9, 2) := by decide +kernel
theorem dX1_pass_37 : decode cX1_pass 37 = .ok (.aload 6, 2) := by decide +kernel
theorem dX1_pass_39 : decode cX1_pass 39 = .ok (.iconst 0, 1) := by decide +kernel
theorem dX1_pass_40 : decode cX1_pass 40 = .ok (.iaload, 1) := by decide +kernel
theorem dX1_pass_41 : decode cX1_pass 41 = .ok (.iconst 2, 1) := by decide +kernel
theorem dX1_pass_42 : decode cX1_pass 42 = .ok (.iadd, 1) := by decide +kernel
theorem dX1_pass_43 : decode cX1_pass 43 = .ok (.aload 6, 2) := by decide +kernel
theorem dX1_pass_45 : decode cX1_pass 45 = .ok (.iconst 1, 1) := by decide +kernel
theorem dX1_pass_46 : decode cX1_pass 46 = .ok (.iaload, 1) := by decide +kernel
theorem dX1_pass_47 : decode cX1_pass 47 = .ok (.isub, 1) := by decide +kernel
theorem dX1_pass_48 : decode cX1_pass 48 = .ok (.invokestatic 56, 3) := by decide +kernel
theorem dX1_pass_51 : decode cX1_pass 51 = .ok (.iastore, 1) := by decide +kernel
theorem dX1_pass_52 : decode cX1_pass 52 = .ok (.iinc 5 1, 3) := by decide +kernel
theorem dX1_pass_55 : decode cX1_pass 55 = .ok (.goto (-36), 3) := by decide +kernel
theorem dX1_pass_58 : decode cX1_pass 58 = .ok (.aload_n 0, 1) := by decide +kernel
theorem dX1_pass_59 : decode cX1_pass 59 = .ok (.getfield 9, 3) := by decide +kernel
theorem dX1_pass_62 : decode cX1_pass 62 = .ok (.astore_n 3, 1) := by decide +kernel
theorem dX1_pass_63 : decode cX1_pass 63 = .ok (.aload_n 3, 1) := by decide +kernel
theorem dX1_pass_64 : decode cX1_pass 64 = .ok (.arraylength, 1) := by decide +kernel
theorem dX1_pass_65 : decode cX1_pass 65 = .ok (.istore 4, 2) := by decide +kernel
theorem dX1_pass_67 : decode cX1_pass 67 = .ok (.iconst 0, 1) := by decide +kernel
theorem dX1_pass_68 : decode cX1_pass 68 = .ok (.istore 5, 2) := by decide +kernel
theorem dX1_pass_70 : decode cX1_pass 70 = .ok (.iload 5, 2) := by decide +kernel
theorem dX1_pass_72 : decode cX1_pass 72 = .ok (.iload 4, 2) := by decide +kernel
theorem dX1_pass_74 : decode cX1_pass 74 = .ok (.if_icmp .ge 40, 3) := by decide +kernel
theorem dX1_pass_77 : decode cX1_pass 77 = .ok (.aload_n 3, 1) := by decide +kernel
theorem dX1_pass_78 : decode cX1_pass 78 = .ok (.iload 5, 2) := by decide +kernel
theorem dX1_pass_80 : decode cX1_pass 80 = .ok (.aaload, 1) := by decide +kernel
theorem dX1_pass_81 : decode cX1_pass 81 = .ok (.astore 6, 2) := by decide +kernel
theorem dX1_pass_83 : decode cX1_pass 83 = .ok (.aload 6, 2) := by decide +kernel
theorem dX1_pass_85 : decode cX1_pass 85 = .ok (.iconst 0, 1) := by decide +kernel
theorem dX1_pass_86 : decode cX1_pass 86 = .ok (.iaload, 1) := by decide +kernel
theorem dX1_pass_87 : decode cX1_pass 87 = .ok (.iconst 1, 1) := by decide +kernel
theorem dX1_pass_88 : decode cX1_pass 88 = .ok (.if_icmp .ne 20, 3) := by decide +kernel
theorem dX1_pass_91 : decode cX1_pass 91 = .ok (.aload 6, 2) := by decide +kernel
theorem dX1_pass_93 : decode cX1_pass 93 = .ok (.iconst 1, 1) := by decide +kernel
theorem dX1_pass_94 : decode cX1_pass 94 = .ok (.iaload, 1) := by decide +kernel
theorem dX1_pass_95 : decode cX1_pass 95 = .ok (.bipush 99, 2) := by decide +kernel
theorem dX1_pass_97 : decode cX1_pass 97 = .ok (.if_icmp .ge 11, 3) := by decide +kernel
theorem dX1_pass_100 : decode cX1_pass 100 = .ok (.aload 6, 2) := by decide +kernel
theorem dX1_pass_102 : decode cX1_pass 102 = .ok (.iconst 1, 1) := by decide +kernel
theorem dX1_pass_103 : decode cX1_pass 103 = .ok (.dup2, 1) := by decide +kernel
theorem dX1_pass_104 : decode cX1_pass 104 = .ok (.iaload, 1) := by decide +kernel
theorem dX1_pass_105 : decode cX1_pass 105 = .ok (.iconst 1, 1) := by decide +kernel
theorem dX1_pass_106 : decode cX1_pass 106 = .ok (.iadd, 1) := by decide +kernel
theorem dX1_pass_107 : decode cX1_pass 107 = .ok (.iastore, 1) := by decide +kernel
theorem dX1_pass_108 : decode cX1_pass 108 = .ok (.iinc 5 1, 3) := by decide +kernel
theorem dX1_pass_111 : decode cX1_pass 111 = .ok (.goto (-41), 3) := by decide +kernel
theorem dX1_pass_114 : decode cX1_pass 114 = .ok (.aload_n 0, 1) := by decide +kernel
theorem dX1_pass_115 : decode cX1_pass 115 = .ok (.dup, 1) := by decide +kernel
theorem dX1_pass_116 : decode cX1_pass 116 = .ok (.getfield 59, 3) := by decide +kernel
theorem dX1_pass_119 : decode cX1_pass 119 = .ok (.iconst 1, 1) := by decide +kernel
theorem dX1_pass_120 : decode cX1_pass 120 = .ok (.iadd, 1) := by decide +kernel
theorem dX1_pass_121 : decode cX1_pass 121 = .ok (.putfield 59, 3) := by decide +kernel
theorem dX1_pass_124 : decode cX1_pass 124 = .ok (.iinc 2 1, 3) := by decide +kernel
theorem dX1_pass_127 : decode cX1_pass 127 = .ok (.goto (-125), 3) := by decide +kernel
theorem dX1_pass_130 : decode cX1_pass 130 = .ok (.aload_n 0, 1) := by decide +kernel
theorem dX1_pass_131 : decode cX1_pass 131 = .ok (.invokevirtual 62, 3) := by decide +kernel
theorem dX1_pass_134 : decode cX1_pass 134 = .ok (.ireturn, 1) := by decide +kernel
theorem dX1_shaken_0 : decode cX1_shaken 0 = .ok (.iconst 0, 1) := by decide +kernel
theorem dX1_shaken_1 : decode cX1_shaken 1 = .ok (.istore_n 1, 1) := by decide +kernel
theorem dX1_shaken_2 : decode cX1_shaken 2 = .ok (.aload_n 0, 1) := by decide +kernel
theorem dX1_shaken_3 : decode cX1_shaken 3 = .ok (.getfield 15, 3) := by decide +kernel
theorem dX1_shaken_6 : decode cX1_shaken 6 = .ok (.astore_n 2, 1) := by decide +kernel
theorem dX1_shaken_7 : decode cX1_shaken 7 = .ok (.aload_n 2, 1) := by decide +kernel
theorem dX1_shaken_8 : decode cX1_shaken 8 = .ok (.arraylength, 1) := by decide +kernel
theorem dX1_shaken_9 : decode cX1_shaken 9 = .ok (.istore_n 3, 1) := by decide +kernel
theorem dX1_shaken_10 : decode cX1_shaken 10 = .ok (.iconst 0, 1) := by decide +kernel
theorem dX1_shaken_11 : decode cX1_shaken 11 = .ok (.istore 4, 2) := by decide +kernel
theorem dX1_shaken_13 : decode cX1_shaken 13 = .ok (.iload 4, 2) := by decide +kernel
theorem dX1_shaken_15 : decode cX1_shaken 15 = .ok (.iload_n 3, 1) := by decide +kernel
theorem dX1_shaken_16 : decode cX1_shaken 16 = .ok (.if_icmp .ge 26, 3) := by decide +kernel
theorem dX1_shaken_19 : decode cX1_shaken 19 = .ok (.aload_n 2, 1) := by decide +kernel
theorem dX1_shaken_20 : decode cX1_shaken 20 = .ok (.iload 4, 2) := by decide +kernel
theorem dX1_shaken_22 : decode cX1_shaken 22 = .ok (.aaload, 1) := by decide +kernel
theorem dX1_shaken_23 : decode cX1_shaken 23 = .ok (.astore 5, 2) := by decide +kernel
theorem dX1_shaken_25 : decode cX1_shaken 25 = .ok (.aload 5, 2) := by decide +kernel
theorem dX1_shaken_27 : decode cX1_shaken 27 = .ok (.iconst 0, 1) := by decide +kernel
theorem dX1_shaken_28 : decode cX1_shaken 28 = .ok (.iaload, 1) := by decide +kernel
theorem dX1_shaken_29 : decode cX1_shaken 29 = .ok (.iconst 3, 1) := by decide +kernel
theorem dX1_shaken_30 : decode cX1_shaken 30 = .ok (.if_icmp .ge 6, 3) := by decide +kernel
theorem dX1_shaken_33 : decode cX1_shaken 33 = .ok (.iinc 1 1, 3) := by decide +kernel
theorem dX1_shaken_36 : decode cX1_shaken 36 = .ok (.iinc 4 1, 3) := by decide +kernel
theorem dX1_shaken_39 : decode cX1_shaken 39 = .ok (.goto (-26), 3) := by decide +kernel
theorem dX1_shaken_42 : decode cX1_shaken 42 = .ok (.iload_n 1, 1) := by decide +kernel
theorem dX1_shaken_43 : decode cX1_shaken 43 = .ok (.ireturn, 1) := by decide +kernel
theorem dX1_seal_0 : decode cX1_seal 0 = .ok (.new 66, 3) := by decide +kernel
theorem dX1_seal_3 : decode cX1_seal 3 = .ok (.dup, 1) := by decide +kernel
theorem dX1_seal_4 : decode cX1_seal 4 = .ok (.invokespecial 68, 3) := by decide +kernel
theorem dX1_seal_7 : decode cX1_seal 7 = .ok (.ldc 69, 2) := by decide +kernel
theorem dX1_seal_9 : decode cX1_seal 9 = .ok (.invokevirtual 71, 3) := by decide +kernel
theorem dX1_seal_12 : decode cX1_seal 12 = .ok (.aload_n 0, 1) := by decide +kernel
theorem dX1_seal_13 : decode cX1_seal 13 = .ok (.iconst 0, 1) := by decide +kernel
theorem dX1_seal_14 : decode cX1_seal 14 = .ok (.iaload, 1) := by decide +kernel
theorem dX1_seal_15 : decode cX1_seal 15 = .ok (.invokevirtual 75, 3) := by decide +kernel
theorem dX1_seal_18 : decode cX1_seal 18 = .ok (.ldc 78, 2) := by decide +kernel
theorem dX1_seal_20 : decode cX1_seal 20 = .ok (.invokevirtual 71, 3) := by decide +kernel
theorem dX1_seal_23 : decode cX1_seal 23 = .ok (.aload_n 0, 1) := by decide +kernel
theorem dX1_seal_24 : decode cX1_seal 24 = .ok (.iconst 1, 1) := by decide +kernel
theorem dX1_seal_25 : decode cX1_seal 25 = .ok (.iaload, 1) := by decide +kernel
theorem dX1_seal_26 : decode cX1_seal 26 = .ok (.ifCond .ne 8, 3) := by decide +kernel
theorem dX1_seal_29 : decode cX1_seal 29 = .ok (.ldc 80, 2) := by decide +kernel
theorem dX1_seal_31 : decode cX1_seal 31 = .ok (.goto 24, 3) := by decide +kernel
theorem dX1_seal_34 : decode cX1_seal 34 = .ok (.new 66, 3) := by decide +kernel
theorem dX1_seal_37 : decode cX1_seal 37 = .ok (.dup, 1) := by decide +kernel
theorem dX1_seal_38 : decode cX1_seal 38 = .ok (.invokespecial 68, 3) := by decide +kernel
theorem dX1_seal_41 : decode cX1_seal 41 = .ok (.aload_n 0, 1) := by decide +kernel
theorem dX1_seal_42 : decode cX1_seal 42 = .ok (.iconst 1, 1) := by decide +kernel
theorem dX1_seal_43 : decode cX1_seal 43 = .ok (.iaload, 1) := by decide +kernel
theorem dX1_seal_44 : decode cX1_seal 44 = .ok (.invokevirtual 75, 3) := by decide +kernel
theorem dX1_seal_47 : decode cX1_seal 47 = .ok (.ldc 82, 2) := by decide +kernel
theorem dX1_seal_49 : decode cX1_seal 49 = .ok (.invokevirtual 71, 3) := by decide +kernel
theorem dX1_seal_52 : decode cX1_seal 52 = .ok (.invokevirtual 84, 3) := by decide +kernel
theorem dX1_seal_55 : decode cX1_seal 55 = .ok (.invokevirtual 71, 3) := by decide +kernel
theorem dX1_seal_58 : decode cX1_seal 58 = .ok (.invokevirtual 84, 3) := by decide +kernel
theorem dX1_seal_61 : decode cX1_seal 61 = .ok (.astore_n 1, 1) := by decide +kernel
theorem dX1_seal_62 : decode cX1_seal 62 = .ok (.bipush 7, 2) := by decide +kernel
theorem dX1_seal_64 : decode cX1_seal 64 = .ok (.istore_n 2, 1) := by decide +kernel
theorem dX1_seal_65 : decode cX1_seal 65 = .ok (.iconst 0, 1) := by decide +kernel
theorem dX1_seal_66 : decode cX1_seal 66 = .ok (.istore_n 3, 1) := by decide +kernel
theorem dX1_seal_67 : decode cX1_seal 67 = .ok (.iload_n 3, 1) := by decide +kernel
theorem dX1_seal_68 : decode cX1_seal 68 = .ok (.aload_n 1, 1) := by decide +kernel
theorem dX1_seal_69 : decode cX1_seal 69 = .ok (.invokevirtual 88, 3) := by decide +kernel
theorem dX1_seal_72 : decode cX1_seal 72 = .ok (.if_icmp .ge 20, 3) := by decide +kernel
theorem dX1_seal_75 : decode cX1_seal 75 = .ok (.iload_n 2, 1) := by decide +kernel
theorem dX1_seal_76 : decode cX1_seal 76 = .ok (.bipush 31, 2) := by decide +kernel
theorem dX1_seal_78 : decode cX1_seal 78 = .ok (.imul, 1) := by decide +kernel
theorem dX1_seal_79 : decode cX1_seal 79 = .ok (.aload_n 1, 1) := by decide +kernel
theorem dX1_seal_80 : decode cX1_seal 80 = .ok (.iload_n 3, 1) := by decide +kernel
theorem dX1_seal_81 : decode cX1_seal 81 = .ok (.invokevirtual 93, 3) := by decide +kernel
theorem dX1_seal_84 : decode cX1_seal 84 = .ok (.iadd, 1) := by decide +kernel
theorem dX1_seal_85 : decode cX1_seal 85 = .ok (.istore_n 2, 1) := by decide +kernel
theorem dX1_seal_86 : decode cX1_seal 86 = .ok (.iinc 3 1, 3) := by decide +kernel
theorem dX1_seal_89 : decode cX1_seal 89 = .ok (.goto (-22), 3) := by decide +kernel
theorem dX1_seal_92 : decode cX1_seal 92 = .ok (.iload_n 2, 1) := by decide +kernel
theorem dX1_seal_93 : decode cX1_seal 93 = .ok (.ireturn, 1) := by decide +kernel
theorem dX1_isSame_0 : decode cX1_isSame 0 = .ok (.aload_n 0, 1) := by decide +kernel
theorem dX1_isSame_1 : decode cX1_isSame 1 = .ok (.getfield 9, 3) := by decide +kernel
theorem dX1_isSame_4 : decode cX1_isSame 4 = .ok (.arraylength, 1) := by decide +kernel
theorem dX1_isSame_5 : decode cX1_isSame 5 = .ok (.istore_n 2, 1) := by decide +kernel
theorem dX1_isSame_6 : decode cX1_isSame 6 = .ok (.iconst 0, 1) := by decide +kernel
theorem dX1_isSame_7 : decode cX1_isSame 7 = .ok (.istore_n 3, 1) := by decide +kernel
theorem dX1_isSame_8 : decode cX1_isSame 8 = .ok (.iconst 0, 1) := by decide +kernel
theorem dX1_isSame_9 : decode cX1_isSame 9 = .ok (.istore 4, 2) := by decide +kernel
theorem dX1_isSame_11 : decode cX1_isSame 11 = .ok (.iconst (-1), 1) := by decide +kernel
theorem dX1_isSame_12 : decode cX1_isSame 12 = .ok (.istore 5, 2) := by decide +kernel
theorem dX1_isSame_14 : decode cX1_isSame 14 = .ok (.aload_n 1, 1) := by decide +kernel
theorem dX1_isSame_15 : decode cX1_isSame 15 = .ok (.invokevirtual 102, 3) := by decide +kernel
theorem dX1_isSame_18 : decode cX1_isSame 18 = .ok (.aload_n 0, 1) := by decide +kernel
theorem dX1_isSame_19 : decode cX1_isSame 19 = .ok (.getfield 59, 3) := by decide +kernel
theorem dX1_isSame_22 : decode cX1_isSame 22 = .ok (.if_icmp .ne 68, 3) := by decide +kernel
theorem dX1_isSame_25 : decode cX1_isSame 25 = .ok (.aload_n 1, 1) := by decide +kernel
theorem dX1_isSame_26 : decode cX1_isSame 26 = .ok (.invokevirtual 106, 3) := by decide +kernel
theorem dX1_isSame_29 : decode cX1_isSame 29 = .ok (.iload_n 2, 1) := by decide +kernel
theorem dX1_isSame_30 : decode cX1_isSame 30 = .ok (.if_icmp .ne 60, 3) := by decide +kernel
theorem dX1_isSame_33 : decode cX1_isSame 33 = .ok (.aload_n 1, 1) := by decide +kernel
theorem dX1_isSame_34 : decode cX1_isSame 34 = .ok (.invokevirtual 108, 3) := by decide +kernel
theorem dX1_isSame_37 : decode cX1_isSame 37 = .ok (.aload_n 0, 1) := by decide +kernel
theorem dX1_isSame_38 : decode cX1_isSame 38 = .ok (.getfield 15, 3) := by decide +kernel
theorem dX1_isSame_41 : decode cX1_isSame 41 = .ok (.arraylength, 1) := by decide +kernel
theorem dX1_isSame_42 : decode cX1_isSame 42 = .ok (.if_icmp .ne 48, 3) := by decide +kernel
theorem dX1_isSame_45 : decode cX1_isSame 45 = .ok (.aload_n 1, 1) := by decide +kernel
theorem dX1_isSame_46 : decode cX1_isSame 46 = .ok (.invokevirtual 110, 3) := by decide +kernel
theorem dX1_isSame_49 : decode cX1_isSame 49 = .ok (.aload_n 0, 1) := by decide +kernel
theorem dX1_isSame_50 : decode cX1_isSame 50 = .ok (.invokevirtual 62, 3) := by decide +kernel
theorem dX1_isSame_53 : decode cX1_isSame 53 = .ok (.if_icmp .ne 37, 3) := by decide +kernel
theorem dX1_isSame_56 : decode cX1_isSame 56 = .ok (.aload_n 1, 1) := by decide +kernel
theorem dX1_isSame_57 : decode cX1_isSame 57 = .ok (.invokevirtual 111, 3) := by decide +kernel
theorem dX1_isSame_60 : decode cX1_isSame 60 = .ok (.aload_n 0, 1) := by decide +kernel
theorem dX1_isSame_61 : decode cX1_isSame 61 = .ok (.getfield 29, 3) := by decide +kernel
theorem dX1_isSame_64 : decode cX1_isSame 64 = .ok (.if_icmp .ne 26, 3) := by decide +kernel
theorem dX1_isSame_67 : decode cX1_isSame 67 = .ok (.aload_n 1, 1) := by decide +kernel
theorem dX1_isSame_68 : decode cX1_isSame 68 = .ok (.invokevirtual 113, 3) := by decide +kernel
theorem dX1_isSame_71 : decode cX1_isSame 71 = .ok (.aload_n 0, 1) := by decide +kernel
theorem dX1_isSame_72 : decode cX1_isSame 72 = .ok (.getfield 40, 3) := by decide +kernel
theorem dX1_isSame_75 : decode cX1_isSame 75 = .ok (.if_icmp .ne 15, 3) := by decide +kernel
theorem dX1_isSame_78 : decode cX1_isSame 78 = .ok (.aload_n 1, 1) := by decide +kernel
theorem dX1_isSame_79 : decode cX1_isSame 79 = .ok (.invokevirtual 115, 3) := by decide +kernel
theorem dX1_isSame_82 : decode cX1_isSame 82 = .ok (.aload_n 0, 1) := by decide +kernel
theorem dX1_isSame_83 : decode cX1_isSame 83 = .ok (.getfield 18, 3) := by decide +kernel
theorem dX1_isSame_86 : decode cX1_isSame 86 = .ok (.arraylength, 1) := by decide +kernel
theorem dX1_isSame_87 : decode cX1_isSame 87 = .ok (.if_icmp .eq 5, 3) := by decide +kernel
theorem dX1_isSame_90 : decode cX1_isSame 90 = .ok (.iconst 0, 1) := by decide +kernel
theorem dX1_isSame_91 : decode cX1_isSame 91 = .ok (.ireturn, 1) := by decide +kernel
theorem dX1_isSame_92 : decode cX1_isSame 92 = .ok (.iload_n 2, 1) := by decide +kernel
theorem dX1_isSame_93 : decode cX1_isSame 93 = .ok (.newarray .int, 2) := by decide +kernel
theorem dX1_isSame_95 : decode cX1_isSame 95 = .ok (.astore 6, 2) := by decide +kernel
theorem dX1_isSame_97 : decode cX1_isSame 97 = .ok (.iload_n 2, 1) := by decide +kernel
theorem dX1_isSame_98 : decode cX1_isSame 98 = .ok (.newarray .int, 2) := by decide +kernel
theorem dX1_isSame_100 : decode cX1_isSame 100 = .ok (.astore 7, 2) := by decide +kernel
theorem dX1_isSame_102 : decode cX1_isSame 102 = .ok (.iconst 0, 1) := by decide +kernel
theorem dX1_isSame_103 : decode cX1_isSame 103 = .ok (.istore 8, 2) := by decide +kernel
theorem dX1_isSame_105 : decode cX1_isSame 105 = .ok (.iconst 0, 1) := by decide +kernel
theorem dX1_isSame_106 : decode cX1_isSame 106 = .ok (.istore 9, 2) := by decide +kernel
theorem dX1_isSame_108 : decode cX1_isSame 108 = .ok (.iload 9, 2) := by decide +kernel
theorem dX1_isSame_110 : decode cX1_isSame 110 = .ok (.aload_n 0, 1) := by decide +kernel
theorem dX1_isSame_111 : decode cX1_isSame 111 = .ok (.getfield 18, 3) := by decide +kernel
theorem dX1_isSame_114 : decode cX1_isSame 114 = .ok (.arraylength, 1) := by decide +kernel
theorem dX1_isSame_115 : decode cX1_isSame 115 = .ok (.if_icmp .ge 143, 3) := by decide +kernel
theorem dX1_isSame_118 : decode cX1_isSame 118 = .ok (.aload_n 0, 1) := by decide +kernel
theorem dX1_isSame_119 : decode cX1_isSame 119 = .ok (.getfield 18, 3) := by decide +kernel
theorem dX1_isSame_122 : decode cX1_isSame 122 = .ok (.iload 9, 2) := by decide +kernel
theorem dX1_isSame_124 : decode cX1_isSame 124 = .ok (.aaload, 1) := by decide +kernel
theorem dX1_isSame_125 : decode cX1_isSame 125 = .ok (.astore 10, 2) := by decide +kernel
theorem dX1_isSame_127 : decode cX1_isSame 127 = .ok (.aload 6, 2) := by decide +kernel
theorem dX1_isSame_129 : decode cX1_isSame 129 = .ok (.aload 10, 2) := by decide +kernel
theorem dX1_isSame_131 : decode cX1_isSame 131 = .ok (.iconst 0, 1) := by decide +kernel
theorem dX1_isSame_132 : decode cX1_isSame 132 = .ok (.iaload, 1) := by decide +kernel
theorem dX1_isSame_133 : decode cX1_isSame 133 = .ok (.dup2, 1) := by decide +kernel
theorem dX1_isSame_134 : decode cX1_isSame 134 = .ok (.iaload, 1) := by decide +kernel
theorem dX1_isSame_135 : decode cX1_isSame 135 = .ok (.iconst 1, 1) := by decide +kernel
theorem dX1_isSame_136 : decode cX1_isSame 136 = .ok (.iadd, 1) := by decide +kernel
theorem dX1_isSame_137 : decode cX1_isSame 137 = .ok (.iastore, 1) := by decide +kernel
theorem dX1_isSame_138 : decode cX1_isSame 138 = .ok (.iload 8, 2) := by decide +kernel
theorem dX1_isSame_140 : decode cX1_isSame 140 = .ok (.aload 10, 2) := by decide +kernel
theorem dX1_isSame_142 : decode cX1_isSame 142 = .ok (.iconst 1, 1) := by decide +kernel
theorem dX1_isSame_143 : decode cX1_isSame 143 = .ok (.iaload, 1) := by decide +kernel
theorem dX1_isSame_144 : decode cX1_isSame 144 = .ok (.ifCond .le 7, 3) := by decide +kernel
theorem dX1_isSame_147 : decode cX1_isSame 147 = .ok (.iconst 1, 1) := by decide +kernel
theorem dX1_isSame_148 : decode cX1_isSame 148 = .ok (.goto 4, 3) := by decide +kernel
theorem dX1_isSame_151 : decode cX1_isSame 151 = .ok (.iconst 0, 1) := by decide +kernel
theorem dX1_isSame_152 : decode cX1_isSame 152 = .ok (.iadd, 1) := by decide +kernel
theorem dX1_isSame_153 : decode cX1_isSame 153 = .ok (.istore 8, 2) := by decide +kernel
theorem dX1_isSame_155 : decode cX1_isSame 155 = .ok (.aload 10, 2) := by decide +kernel
theorem dX1_isSame_157 : decode cX1_isSame 157 = .ok (.iconst 1, 1) := by decide +kernel
theorem dX1_isSame_158 : decode cX1_isSame 158 = .ok (.iaload, 1) := by decide +kernel
theorem dX1_isSame_159 : decode cX1_isSame 159 = .ok (.ifCond .le 38, 3) := by decide +kernel
theorem dX1_isSame_162 : decode cX1_isSame 162 = .ok (.aload 7, 2) := by decide +kernel
theorem dX1_isSame_164 : decode cX1_isSame 164 = .ok (.aload 10, 2) := by decide +kernel
theorem dX1_isSame_166 : decode cX1_isSame 166 = .ok (.iconst 0, 1) := by decide +kernel
theorem dX1_isSame_167 : decode cX1_isSame 167 = .ok (.iaload, 1) := by decide +kernel
theorem dX1_isSame_168 : decode cX1_isSame 168 = .ok (.iaload, 1) := by decide +kernel
theorem dX1_isSame_169 : decode cX1_isSame 169 = .ok (.ifCond .eq 17, 3) := by decide +kernel
theorem dX1_isSame_172 : decode cX1_isSame 172 = .ok (.aload 10, 2) := by decide +kernel
theorem dX1_isSame_174 : decode cX1_isSame 174 = .ok (.iconst 1, 1) := by decide +kernel
theorem dX1_isSame_175 : decode cX1_isSame 175 = .ok (.iaload, 1) := by decide +kernel
theorem dX1_isSame_176 : decode cX1_isSame 176 = .ok (.aload 7, 2) := by decide +kernel
theorem dX1_isSame_178 : decode cX1_isSame 178 = .ok (.aload 10, 2) := by decide +kernel
theorem dX1_isSame_180 : decode cX1_isSame 180 = .ok (.iconst 0, 1) := by decide +kernel
theorem dX1_isSame_181 : decode cX1_isSame 181 = .ok (.iaload, 1) := by decide +kernel
theorem dX1_isSame_182 : decode cX1_isSame 182 = .ok (.iaload, 1) := by decide +kernel
theorem dX1_isSame_183 : decode cX1_isSame 183 = .ok (.if_icmp .ge 14, 3) := by decide +kernel
theorem dX1_isSame_186 : decode cX1_isSame 186 = .ok (.aload 7, 2) := by decide +kernel
theorem dX1_isSame_188 : decode cX1_isSame 188 = .ok (.aload 10, 2) := by decide +kernel
theorem dX1_isSame_190 : decode cX1_isSame 190 = .ok (.iconst 0, 1) := by decide +kernel
theorem dX1_isSame_191 : decode cX1_isSame 191 = .ok (.iaload, 1) := by decide +kernel
theorem dX1_isSame_192 : decode cX1_isSame 192 = .ok (.aload 10, 2) := by decide +kernel
theorem dX1_isSame_194 : decode cX1_isSame 194 = .ok (.iconst 1, 1) := by decide +kernel
theorem dX1_isSame_195 : decode cX1_isSame 195 = .ok (.iaload, 1) := by decide +kernel
theorem dX1_isSame_196 : decode cX1_isSame 196 = .ok (.iastore, 1) := by decide +kernel
theorem dX1_isSame_197 : decode cX1_isSame 197 = .ok (.aload_n 1, 1) := by decide +kernel
theorem dX1_isSame_198 : decode cX1_isSame 198 = .ok (.iload 9, 2) := by decide +kernel
theorem dX1_isSame_200 : decode cX1_isSame 200 = .ok (.invokevirtual 117, 3) := by decide +kernel
theorem dX1_isSame_203 : decode cX1_isSame 203 = .ok (.aload 10, 2) := by decide +kernel
theorem dX1_isSame_205 : decode cX1_isSame 205 = .ok (.iconst 0, 1) := by decide +kernel
theorem dX1_isSame_206 : decode cX1_isSame 206 = .ok (.iaload, 1) := by decide +kernel
theorem dX1_isSame_207 : decode cX1_isSame 207 = .ok (.if_icmp .ne 43, 3) := by decide +kernel
theorem dX1_isSame_210 : decode cX1_isSame 210 = .ok (.aload_n 1, 1) := by decide +kernel
theorem dX1_isSame_211 : decode cX1_isSame 211 = .ok (.iload 9, 2) := by decide +kernel
theorem dX1_isSame_213 : decode cX1_isSame 213 = .ok (.invokevirtual 120, 3) := by decide +kernel
theorem dX1_isSame_216 : decode cX1_isSame 216 = .ok (.aload 10, 2) := by decide +kernel
theorem dX1_isSame_218 : decode cX1_isSame 218 = .ok (.iconst 1, 1) := by decide +kernel
theorem dX1_isSame_219 : decode cX1_isSame 219 = .ok (.iaload, 1) := by decide +kernel
theorem dX1_isSame_220 : decode cX1_isSame 220 = .ok (.if_icmp .ne 30, 3) := by decide +kernel
theorem dX1_isSame_223 : decode cX1_isSame 223 = .ok (.iload 9, 2) := by decide +kernel
theorem dX1_isSame_225 : decode cX1_isSame 225 = .ok (.iconst 4, 1) := by decide +kernel
theorem dX1_isSame_226 : decode cX1_isSame 226 = .ok (.irem, 1) := by decide +kernel
theorem dX1_isSame_227 : decode cX1_isSame 227 = .ok (.aload_n 0, 1) := by decide +kernel
theorem dX1_isSame_228 : decode cX1_isSame 228 = .ok (.getfield 59, 3) := by decide +kernel
theorem dX1_isSame_231 : decode cX1_isSame 231 = .ok (.iconst 4, 1) := by decide +kernel
theorem dX1_isSame_232 : decode cX1_isSame 232 = .ok (.irem, 1) := by decide +kernel
theorem dX1_isSame_233 : decode cX1_isSame 233 = .ok (.if_icmp .ne 19, 3) := by decide +kernel
theorem dX1_isSame_236 : decode cX1_isSame 236 = .ok (.aload_n 1, 1) := by decide +kernel
theorem dX1_isSame_237 : decode cX1_isSame 237 = .ok (.iload 9, 2) := by decide +kernel
theorem dX1_isSame_239 : decode cX1_isSame 239 = .ok (.invokevirtual 123, 3) := by decide +kernel
theorem dX1_isSame_242 : decode cX1_isSame 242 = .ok (.aload 10, 2) := by decide +kernel
theorem dX1_isSame_244 : decode cX1_isSame 244 = .ok (.invokestatic 126, 3) := by decide +kernel
theorem dX1_isSame_247 : decode cX1_isSame 247 = .ok (.if_icmp .eq 5, 3) := by decide +kernel
theorem dX1_isSame_250 : decode cX1_isSame 250 = .ok (.iconst 0, 1) := by decide +kernel
theorem dX1_isSame_251 : decode cX1_isSame 251 = .ok (.ireturn, 1) := by decide +kernel
theorem dX1_isSame_252 : decode cX1_isSame 252 = .ok (.iinc 9 1, 3) := by decide +kernel
theorem dX1_isSame_255 : decode cX1_isSame 255 = .ok (.goto (-147), 3) := by decide +kernel
theorem dX1_isSame_258 : decode cX1_isSame 258 = .ok (.iconst 0, 1) := by decide +kernel
theorem dX1_isSame_259 : decode cX1_isSame 259 = .ok (.istore 9, 2) := by decide +kernel
theorem dX1_isSame_261 : decode cX1_isSame 261 = .ok (.iload 9, 2) := by decide +kernel
theorem dX1_isSame_263 : decode cX1_isSame 263 = .ok (.iload_n 2, 1) := by decide +kernel
theorem dX1_isSame_264 : decode cX1_isSame 264 = .ok (.if_icmp .ge 205, 3) := by decide +kernel
theorem dX1_isSame_267 : decode cX1_isSame 267 = .ok (.aload_n 0, 1) := by decide +kernel
theorem dX1_isSame_268 : decode cX1_isSame 268 = .ok (.getfield 9, 3) := by decide +kernel
theorem dX1_isSame_271 : decode cX1_isSame 271 = .ok (.iload 9, 2) := by decide +kernel
theorem dX1_isSame_273 : decode cX1_isSame 273 = .ok (.aaload, 1) := by decide +kernel
theorem dX1_isSame_274 : decode cX1_isSame 274 = .ok (.astore 10, 2) := by decide +kernel
theorem dX1_isSame_276 : decode cX1_isSame 276 = .ok (.iload_n 3, 1) := by decide +kernel
theorem dX1_isSame_277 : decode cX1_isSame 277 = .ok (.aload 10, 2) := by decide +kernel
theorem dX1_isSame_279 : decode cX1_isSame 279 = .ok (.iconst 0, 1) := by decide +kernel
theorem dX1_isSame_280 : decode cX1_isSame 280 = .ok (.iaload, 1) := by decide +kernel
theorem dX1_isSame_281 : decode cX1_isSame 281 = .ok (.iadd, 1) := by decide +kernel
theorem dX1_isSame_282 : decode cX1_isSame 282 = .ok (.istore_n 3, 1) := by decide +kernel
theorem dX1_isSame_283 : decode cX1_isSame 283 = .ok (.iload 4, 2) := by decide +kernel
theorem dX1_isSame_285 : decode cX1_isSame 285 = .ok (.aload 10, 2) := by decide +kernel
theorem dX1_isSame_287 : decode cX1_isSame 287 = .ok (.iconst 0, 1) := by decide +kernel
theorem dX1_isSame_288 : decode cX1_isSame 288 = .ok (.iaload, 1) := by decide +kernel
theorem dX1_isSame_289 : decode cX1_isSame 289 = .ok (.aload 10, 2) := by decide +kernel
theorem dX1_isSame_291 : decode cX1_isSame 291 = .ok (.iconst 1, 1) := by decide +kernel
theorem dX1_isSame_292 : decode cX1_isSame 292 = .ok (.iaload, 1) := by decide +kernel
theorem dX1_isSame_293 : decode cX1_isSame 293 = .ok (.imul, 1) := by decide +kernel
theorem dX1_isSame_294 : decode cX1_isSame 294 = .ok (.iadd, 1) := by decide +kernel
theorem dX1_isSame_295 : decode cX1_isSame 295 = .ok (.istore 4, 2) := by decide +kernel
theorem dX1_isSame_297 : decode cX1_isSame 297 = .ok (.aload 10, 2) := by decide +kernel
theorem dX1_isSame_299 : decode cX1_isSame 299 = .ok (.iconst 0, 1) := by decide +kernel
theorem dX1_isSame_300 : decode cX1_isSame 300 = .ok (.iaload, 1) := by decide +kernel
theorem dX1_isSame_301 : decode cX1_isSame 301 = .ok (.iconst 1, 1) := by decide +kernel
theorem dX1_isSame_302 : decode cX1_isSame 302 = .ok (.if_icmp .ne 28, 3) := by decide +kernel
theorem dX1_isSame_305 : decode cX1_isSame 305 = .ok (.iload 5, 2) := by decide +kernel
theorem dX1_isSame_307 : decode cX1_isSame 307 = .ok (.ifCond .lt 19, 3) := by decide +kernel
theorem dX1_isSame_310 : decode cX1_isSame 310 = .ok (.aload 10, 2) := by decide +kernel
theorem dX1_isSame_312 : decode cX1_isSame 312 = .ok (.iconst 1, 1) := by decide +kernel
theorem dX1_isSame_313 : decode cX1_isSame 313 = .ok (.iaload, 1) := by decide +kernel
theorem dX1_isSame_314 : decode cX1_isSame 314 = .ok (.aload_n 0, 1) := by decide +kernel
theorem dX1_isSame_315 : decode cX1_isSame 315 = .ok (.getfield 9, 3) := by decide +kernel
theorem dX1_isSame_318 : decode cX1_isSame 318 = .ok (.iload 5, 2) := by decide +kernel
theorem dX1_isSame_320 : decode cX1_isSame 320 = .ok (.aaload, 1) := by decide +kernel
theorem dX1_isSame_321 : decode cX1_isSame 321 = .ok (.iconst 1, 1) := by decide +kernel
theorem dX1_isSame_322 : decode cX1_isSame 322 = .ok (.iaload, 1) := by decide +kernel
theorem dX1_isSame_323 : decode cX1_isSame 323 = .ok (.if_icmp .le 7, 3) := by decide +kernel
theorem dX1_isSame_326 : decode cX1_isSame 326 = .ok (.iload 9, 2) := by decide +kernel
theorem dX1_isSame_328 : decode cX1_isSame 328 = .ok (.istore 5, 2) := by decide +kernel
theorem dX1_isSame_330 : decode cX1_isSame 330 = .ok (.aload_n 1, 1) := by decide +kernel
theorem dX1_isSame_331 : decode cX1_isSame 331 = .ok (.iload 9, 2) := by decide +kernel
theorem dX1_isSame_333 : decode cX1_isSame 333 = .ok (.invokevirtual 129, 3) := by decide +kernel
theorem dX1_isSame_336 : decode cX1_isSame 336 = .ok (.aload 10, 2) := by decide +kernel
theorem dX1_isSame_338 : decode cX1_isSame 338 = .ok (.iconst 0, 1) := by decide +kernel
theorem dX1_isSame_339 : decode cX1_isSame 339 = .ok (.iaload, 1) := by decide +kernel
theorem dX1_isSame_340 : decode cX1_isSame 340 = .ok (.iconst 1, 1) := by decide +kernel
theorem dX1_isSame_341 : decode cX1_isSame 341 = .ok (.if_icmp .ne 7, 3) := by decide +kernel
theorem dX1_isSame_344 : decode cX1_isSame 344 = .ok (.iconst 1, 1) := by decide +kernel
theorem dX1_isSame_345 : decode cX1_isSame 345 = .ok (.goto 4, 3) := by decide +kernel
theorem dX1_isSame_348 : decode cX1_isSame 348 = .ok (.iconst 0, 1) := by decide +kernel
theorem dX1_isSame_349 : decode cX1_isSame 349 = .ok (.if_icmp .ne 112, 3) := by decide +kernel
theorem dX1_isSame_352 : decode cX1_isSame 352 = .ok (.aload_n 1, 1) := by decide +kernel
theorem dX1_isSame_353 : decode cX1_isSame 353 = .ok (.iload 9, 2) := by decide +kernel
theorem dX1_isSame_355 : decode cX1_isSame 355 = .ok (.invokevirtual 133, 3) := by decide +kernel
theorem dX1_isSame_358 : decode cX1_isSame 358 = .ok (.aload 10, 2) := by decide +kernel
theorem dX1_isSame_360 : decode cX1_isSame 360 = .ok (.iconst 1, 1) := by decide +kernel
theorem dX1_isSame_361 : decode cX1_isSame 361 = .ok (.iaload, 1) := by decide +kernel
theorem dX1_isSame_362 : decode cX1_isSame 362 = .ok (.if_icmp .ne 99, 3) := by decide +kernel
theorem dX1_isSame_365 : decode cX1_isSame 365 = .ok (.aload_n 1, 1) := by decide +kernel
theorem dX1_isSame_366 : decode cX1_isSame 366 = .ok (.iload 9, 2) := by decide +kernel
theorem dX1_isSame_368 : decode cX1_isSame 368 = .ok (.invokevirtual 136, 3) := by decide +kernel
theorem dX1_isSame_371 : decode cX1_isSame 371 = .ok (.aload 10, 2) := by decide +kernel
theorem dX1_isSame_373 : decode cX1_isSame 373 = .ok (.iconst 2, 1) := by decide +kernel
theorem dX1_isSame_374 : decode cX1_isSame 374 = .ok (.iaload, 1) := by decide +kernel
theorem dX1_isSame_375 : decode cX1_isSame 375 = .ok (.if_icmp .ne 86, 3) := by decide +kernel
theorem dX1_isSame_378 : decode cX1_isSame 378 = .ok (.aload_n 1, 1) := by decide +kernel
theorem dX1_isSame_379 : decode cX1_isSame 379 = .ok (.iload 9, 2) := by decide +kernel
theorem dX1_isSame_381 : decode cX1_isSame 381 = .ok (.invokevirtual 139, 3) := by decide +kernel
theorem dX1_isSame_384 : decode cX1_isSame 384 = .ok (.aload 10, 2) := by decide +kernel
theorem dX1_isSame_386 : decode cX1_isSame 386 = .ok (.iconst 3, 1) := by decide +kernel
theorem dX1_isSame_387 : decode cX1_isSame 387 = .ok (.iaload, 1) := by decide +kernel
theorem dX1_isSame_388 : decode cX1_isSame 388 = .ok (.if_icmp .ne 73, 3) := by decide +kernel
theorem dX1_isSame_391 : decode cX1_isSame 391 = .ok (.aload_n 1, 1) := by decide +kernel
theorem dX1_isSame_392 : decode cX1_isSame 392 = .ok (.iload 9, 2) := by decide +kernel
theorem dX1_isSame_394 : decode cX1_isSame 394 = .ok (.invokevirtual 142, 3) := by decide +kernel
theorem dX1_isSame_397 : decode cX1_isSame 397 = .ok (.aload 10, 2) := by decide +kernel
theorem dX1_isSame_399 : decode cX1_isSame 399 = .ok (.iconst 4, 1) := by decide +kernel
theorem dX1_isSame_400 : decode cX1_isSame 400 = .ok (.iaload, 1) := by decide +kernel
theorem dX1_isSame_401 : decode cX1_isSame 401 = .ok (.if_icmp .ne 60, 3) := by decide +kernel
theorem dX1_isSame_404 : decode cX1_isSame 404 = .ok (.aload_n 1, 1) := by decide +kernel
theorem dX1_isSame_405 : decode cX1_isSame 405 = .ok (.iload 9, 2) := by decide +kernel
theorem dX1_isSame_407 : decode cX1_isSame 407 = .ok (.invokevirtual 145, 3) := by decide +kernel
theorem dX1_isSame_410 : decode cX1_isSame 410 = .ok (.aload_n 0, 1) := by decide +kernel
theorem dX1_isSame_411 : decode cX1_isSame 411 = .ok (.iload 9, 2) := by decide +kernel
theorem dX1_isSame_413 : decode cX1_isSame 413 = .ok (.invokevirtual 53, 3) := by decide +kernel
theorem dX1_isSame_416 : decode cX1_isSame 416 = .ok (.if_icmp .ne 45, 3) := by decide +kernel
theorem dX1_isSame_419 : decode cX1_isSame 419 = .ok (.aload_n 1, 1) := by decide +kernel
theorem dX1_isSame_420 : decode cX1_isSame 420 = .ok (.iload 9, 2) := by decide +kernel
theorem dX1_isSame_422 : decode cX1_isSame 422 = .ok (.invokevirtual 148, 3) := by decide +kernel
theorem dX1_isSame_425 : decode cX1_isSame 425 = .ok (.aload 10, 2) := by decide +kernel
theorem dX1_isSame_427 : decode cX1_isSame 427 = .ok (.invokestatic 25, 3) := by decide +kernel
theorem dX1_isSame_430 : decode cX1_isSame 430 = .ok (.if_icmp .ne 31, 3) := by decide +kernel
theorem dX1_isSame_433 : decode cX1_isSame 433 = .ok (.aload_n 1, 1) := by decide +kernel
theorem dX1_isSame_434 : decode cX1_isSame 434 = .ok (.iload 9, 2) := by decide +kernel
theorem dX1_isSame_436 : decode cX1_isSame 436 = .ok (.invokevirtual 151, 3) := by decide +kernel
theorem dX1_isSame_439 : decode cX1_isSame 439 = .ok (.aload 6, 2) := by decide +kernel
theorem dX1_isSame_441 : decode cX1_isSame 441 = .ok (.iload 9, 2) := by decide +kernel
theorem dX1_isSame_443 : decode cX1_isSame 443 = .ok (.iaload, 1) := by decide +kernel
theorem dX1_isSame_444 : decode cX1_isSame 444 = .ok (.if_icmp .ne 17, 3) := by decide +kernel
theorem dX1_isSame_447 : decode cX1_isSame 447 = .ok (.aload_n 1, 1) := by decide +kernel
theorem dX1_isSame_448 : decode cX1_isSame 448 = .ok (.iload 9, 2) := by decide +kernel
theorem dX1_isSame_450 : decode cX1_isSame 450 = .ok (.invokevirtual 154, 3) := by decide +kernel
theorem dX1_isSame_453 : decode cX1_isSame 453 = .ok (.aload 7, 2) := by decide +kernel
theorem dX1_isSame_455 : decode cX1_isSame 455 = .ok (.iload 9, 2) := by decide +kernel
theorem dX1_isSame_457 : decode cX1_isSame 457 = .ok (.iaload, 1) := by decide +kernel
theorem dX1_isSame_458 : decode cX1_isSame 458 = .ok (.if_icmp .eq 5, 3) := by decide +kernel
theorem dX1_isSame_461 : decode cX1_isSame 461 = .ok (.iconst 0, 1) := by decide +kernel
theorem dX1_isSame_462 : decode cX1_isSame 462 = .ok (.ireturn, 1) := by decide +kernel
theorem dX1_isSame_463 : decode cX1_isSame 463 = .ok (.iinc 9 1, 3) := by decide +kernel
theorem dX1_isSame_466 : decode cX1_isSame 466 = .ok (.goto (-205), 3) := by decide +kernel
theorem dX1_isSame_469 : decode cX1_isSame 469 = .ok (.iconst (-1), 1) := by decide +kernel
theorem dX1_isSame_470 : decode cX1_isSame 470 = .ok (.istore 9, 2) := by decide +kernel
theorem dX1_isSame_472 : decode cX1_isSame 472 = .ok (.iconst 0, 1) := by decide +kernel
theorem dX1_isSame_473 : decode cX1_isSame 473 = .ok (.istore 10, 2) := by decide +kernel
theorem dX1_isSame_475 : decode cX1_isSame 475 = .ok (.iload 10, 2) := by decide +kernel
theorem dX1_isSame_477 : decode cX1_isSame 477 = .ok (.aload_n 0, 1) := by decide +kernel
theorem dX1_isSame_478 : decode cX1_isSame 478 = .ok (.getfield 15, 3) := by decide +kernel
theorem dX1_isSame_481 : decode cX1_isSame 481 = .ok (.arraylength, 1) := by decide +kernel
theorem dX1_isSame_482 : decode cX1_isSame 482 = .ok (.if_icmp .ge 88, 3) := by decide +kernel
theorem dX1_isSame_485 : decode cX1_isSame 485 = .ok (.aload_n 0, 1) := by decide +kernel
theorem dX1_isSame_486 : decode cX1_isSame 486 = .ok (.getfield 15, 3) := by decide +kernel
theorem dX1_isSame_489 : decode cX1_isSame 489 = .ok (.iload 10, 2) := by decide +kernel
theorem dX1_isSame_491 : decode cX1_isSame 491 = .ok (.aaload, 1) := by decide +kernel
theorem dX1_isSame_492 : decode cX1_isSame 492 = .ok (.astore 11, 2) := by decide +kernel
theorem dX1_isSame_494 : decode cX1_isSame 494 = .ok (.aload 11, 2) := by decide +kernel
theorem dX1_isSame_496 : decode cX1_isSame 496 = .ok (.iconst 1, 1) := by decide +kernel
theorem dX1_isSame_497 : decode cX1_isSame 497 = .ok (.iaload, 1) := by decide +kernel
theorem dX1_isSame_498 : decode cX1_isSame 498 = .ok (.iconst 1, 1) := by decide +kernel
theorem dX1_isSame_499 : decode cX1_isSame 499 = .ok (.if_icmp .ne 28, 3) := by decide +kernel
theorem dX1_isSame_502 : decode cX1_isSame 502 = .ok (.iload 9, 2) := by decide +kernel
theorem dX1_isSame_504 : decode cX1_isSame 504 = .ok (.ifCond .lt 19, 3) := by decide +kernel
theorem dX1_isSame_507 : decode cX1_isSame 507 = .ok (.aload 11, 2) := by decide +kernel
theorem dX1_isSame_509 : decode cX1_isSame 509 = .ok (.iconst 0, 1) := by decide +kernel
theorem dX1_isSame_510 : decode cX1_isSame 510 = .ok (.iaload, 1) := by decide +kernel
theorem dX1_isSame_511 : decode cX1_isSame 511 = .ok (.aload_n 0, 1) := by decide +kernel
theorem dX1_isSame_512 : decode cX1_isSame 512 = .ok (.getfield 15, 3) := by decide +kernel
theorem dX1_isSame_515 : decode cX1_isSame 515 = .ok (.iload 9, 2) := by decide +kernel
theorem dX1_isSame_517 : decode cX1_isSame 517 = .ok (.aaload, 1) := by decide +kernel
theorem dX1_isSame_518 : decode cX1_isSame 518 = .ok (.iconst 0, 1) := by decide +kernel
theorem dX1_isSame_519 : decode cX1_isSame 519 = .ok (.iaload, 1) := by decide +kernel
theorem dX1_isSame_520 : decode cX1_isSame 520 = .ok (.if_icmp .le 7, 3) := by decide +kernel
theorem dX1_isSame_523 : decode cX1_isSame 523 = .ok (.iload 10, 2) := by decide +kernel
theorem dX1_isSame_525 : decode cX1_isSame 525 = .ok (.istore 9, 2) := by decide +kernel
theorem dX1_isSame_527 : decode cX1_isSame 527 = .ok (.aload_n 1, 1) := by decide +kernel
theorem dX1_isSame_528 : decode cX1_isSame 528 = .ok (.iload 10, 2) := by decide +kernel
theorem dX1_isSame_530 : decode cX1_isSame 530 = .ok (.invokevirtual 157, 3) := by decide +kernel
theorem dX1_isSame_533 : decode cX1_isSame 533 = .ok (.aload 11, 2) := by decide +kernel
theorem dX1_isSame_535 : decode cX1_isSame 535 = .ok (.iconst 0, 1) := by decide +kernel
theorem dX1_isSame_536 : decode cX1_isSame 536 = .ok (.iaload, 1) := by decide +kernel
theorem dX1_isSame_537 : decode cX1_isSame 537 = .ok (.if_icmp .ne 25, 3) := by decide +kernel
theorem dX1_isSame_540 : decode cX1_isSame 540 = .ok (.aload_n 1, 1) := by decide +kernel
theorem dX1_isSame_541 : decode cX1_isSame 541 = .ok (.iload 10, 2) := by decide +kernel
theorem dX1_isSame_543 : decode cX1_isSame 543 = .ok (.invokevirtual 160, 3) := by decide +kernel
theorem dX1_isSame_546 : decode cX1_isSame 546 = .ok (.aload 11, 2) := by decide +kernel
theorem dX1_isSame_548 : decode cX1_isSame 548 = .ok (.iconst 1, 1) := by decide +kernel
theorem dX1_isSame_549 : decode cX1_isSame 549 = .ok (.iaload, 1) := by decide +kernel
theorem dX1_isSame_550 : decode cX1_isSame 550 = .ok (.iconst 1, 1) := by decide +kernel
theorem dX1_isSame_551 : decode cX1_isSame 551 = .ok (.if_icmp .ne 7, 3) := by decide +kernel
theorem dX1_isSame_554 : decode cX1_isSame 554 = .ok (.iconst 1, 1) := by decide +kernel
theorem dX1_isSame_555 : decode cX1_isSame 555 = .ok (.goto 4, 3) := by decide +kernel
theorem dX1_isSame_558 : decode cX1_isSame 558 = .ok (.iconst 0, 1) := by decide +kernel
theorem dX1_isSame_559 : decode cX1_isSame 559 = .ok (.if_icmp .eq 5, 3) := by decide +kernel
theorem dX1_isSame_562 : decode cX1_isSame 562 = .ok (.iconst 0, 1) := by decide +kernel
theorem dX1_isSame_563 : decode cX1_isSame 563 = .ok (.ireturn, 1) := by decide +kernel
theorem dX1_isSame_564 : decode cX1_isSame 564 = .ok (.iinc 10 1, 3) := by decide +kernel
theorem dX1_isSame_567 : decode cX1_isSame 567 = .ok (.goto (-92), 3) := by decide +kernel
theorem dX1_isSame_570 : decode cX1_isSame 570 = .ok (.aload_n 1, 1) := by decide +kernel
theorem dX1_isSame_571 : decode cX1_isSame 571 = .ok (.invokevirtual 163, 3) := by decide +kernel
theorem dX1_isSame_574 : decode cX1_isSame 574 = .ok (.iload_n 3, 1) := by decide +kernel
theorem dX1_isSame_575 : decode cX1_isSame 575 = .ok (.if_icmp .ne 56, 3) := by decide +kernel
theorem dX1_isSame_578 : decode cX1_isSame 578 = .ok (.aload_n 1, 1) := by decide +kernel
theorem dX1_isSame_579 : decode cX1_isSame 579 = .ok (.invokevirtual 166, 3) := by decide +kernel
theorem dX1_isSame_582 : decode cX1_isSame 582 = .ok (.iload 8, 2) := by decide +kernel
theorem dX1_isSame_584 : decode cX1_isSame 584 = .ok (.if_icmp .ne 47, 3) := by decide +kernel
theorem dX1_isSame_587 : decode cX1_isSame 587 = .ok (.aload_n 1, 1) := by decide +kernel
theorem dX1_isSame_588 : decode cX1_isSame 588 = .ok (.invokevirtual 169, 3) := by decide +kernel
theorem dX1_isSame_591 : decode cX1_isSame 591 = .ok (.iload 9, 2) := by decide +kernel
theorem dX1_isSame_593 : decode cX1_isSame 593 = .ok (.if_icmp .ne 38, 3) := by decide +kernel
theorem dX1_isSame_596 : decode cX1_isSame 596 = .ok (.aload_n 1, 1) := by decide +kernel
theorem dX1_isSame_597 : decode cX1_isSame 597 = .ok (.invokevirtual 172, 3) := by decide +kernel
theorem dX1_isSame_600 : decode cX1_isSame 600 = .ok (.iload 5, 2) := by decide +kernel
theorem dX1_isSame_602 : decode cX1_isSame 602 = .ok (.if_icmp .ne 29, 3) := by decide +kernel
theorem dX1_isSame_605 : decode cX1_isSame 605 = .ok (.aload_n 1, 1) := by decide +kernel
theorem dX1_isSame_606 : decode cX1_isSame 606 = .ok (.invokevirtual 175, 3) := by decide +kernel
theorem dX1_isSame_609 : decode cX1_isSame 609 = .ok (.iload_n 3, 1) := by decide +kernel
theorem dX1_isSame_610 : decode cX1_isSame 610 = .ok (.ifCond .ne 7, 3) := by decide +kernel
theorem dX1_isSame_613 : decode cX1_isSame 613 = .ok (.dconst 0, 1) := by decide +kernel
theorem dX1_isSame_614 : decode cX1_isSame 614 = .ok (.goto 9, 3) := by decide +kernel
theorem dX1_isSame_617 : decode cX1_isSame 617 = .ok (.iload 4, 2) := by decide +kernel
theorem dX1_isSame_619 : decode cX1_isSame 619 = .ok (.i2d, 1) := by decide +kernel
theorem dX1_isSame_620 : decode cX1_isSame 620 = .ok (.iload_n 3, 1) := by decide +kernel
theorem dX1_isSame_621 : decode cX1_isSame 621 = .ok (.i2d, 1) := by decide +kernel
theorem dX1_isSame_622 : decode cX1_isSame 622 = .ok (.ddiv, 1) := by decide +kernel
theorem dX1_isSame_623 : decode cX1_isSame 623 = .ok (.dcmp .l, 1) := by decide +kernel
theorem dX1_isSame_624 : decode cX1_isSame 624 = .ok (.ifCond .ne 7, 3) := by decide +kernel
theorem dX1_isSame_627 : decode cX1_isSame 627 = .ok (.iconst 1, 1) := by decide +kernel
theorem dX1_isSame_628 : decode cX1_isSame 628 = .ok (.goto 4, 3) := by decide +kernel
theorem dX1_isSame_631 : decode cX1_isSame 631 = .ok (.iconst 0, 1) := by decide +kernel
theorem dX1_isSame_632 : decode cX1_isSame 632 = .ok (.ireturn, 1) := by decide +kernel
end
section
/-! decode rows: the JDK -/
theorem dJ5_init_d00df_0 : decode cJ5_init_d00df 0 = .ok (.aload_n 0, 1) := by decide +kernel
theorem dJ5_init_d00df_1 : decode cJ5_init_d00df 1 = .ok (.invokespecial 3, 3) := by decide +kernel
theorem dJ5_init_d00df_4 : decode cJ5_init_d00df 4 = .ok (.getstatic 18, 3) := by decide +kernel
theorem dJ5_init_d00df_7 : decode cJ5_init_d00df 7 = .ok (.ifCond .eq 18, 3) := by decide +kernel
theorem dJ5_init_d00df_10 : decode cJ5_init_d00df 10 = .ok (.aload_n 0, 1) := by decide +kernel
theorem dJ5_init_d00df_11 : decode cJ5_init_d00df 11 = .ok (.iload_n 1, 1) := by decide +kernel
theorem dJ5_init_d00df_12 : decode cJ5_init_d00df 12 = .ok (.newarray .byte, 2) := by decide +kernel
theorem dJ5_init_d00df_14 : decode cJ5_init_d00df 14 = .ok (.putfield 15, 3) := by decide +kernel
theorem dJ5_init_d00df_17 : decode cJ5_init_d00df 17 = .ok (.aload_n 0, 1) := by decide +kernel
theorem dJ5_init_d00df_18 : decode cJ5_init_d00df 18 = .ok (.iconst 0, 1) := by decide +kernel
theorem dJ5_init_d00df_19 : decode cJ5_init_d00df 19 = .ok (.putfield 22, 3) := by decide +kernel
theorem dJ5_init_d00df_22 : decode cJ5_init_d00df 22 = .ok (.goto 16, 3) := by decide +kernel
theorem dJ5_init_d00df_25 : decode cJ5_init_d00df 25 = .ok (.aload_n 0, 1) := by decide +kernel
theorem dJ5_init_d00df_26 : decode cJ5_init_d00df 26 = .ok (.iload_n 1, 1) := by decide +kernel
theorem dJ5_init_d00df_27 : decode cJ5_init_d00df 27 = .ok (.invokestatic 26, 3) := by decide +kernel
theorem dJ5_init_d00df_30 : decode cJ5_init_d00df 30 = .ok (.putfield 15, 3) := by decide +kernel
theorem dJ5_init_d00df_33 : decode cJ5_init_d00df 33 = .ok (.aload_n 0, 1) := by decide +kernel
theorem dJ5_init_d00df_34 : decode cJ5_init_d00df 34 = .ok (.iconst 1, 1) := by decide +kernel
theorem dJ5_init_d00df_35 : decode cJ5_init_d00df 35 = .ok (.putfield 22, 3) := by decide +kernel
theorem dJ5_init_d00df_38 : decode cJ5_init_d00df 38 = .ok (.return_, 1) := by decide +kernel
theorem dJ5_length_8abf5_0 : decode cJ5_length_8abf5 0 = .ok (.aload_n 0, 1) := by decide +kernel
theorem dJ5_length_8abf5_1 : decode cJ5_length_8abf5 1 = .ok (.getfield 79, 3) := by decide +kernel
theorem dJ5_length_8abf5_4 : decode cJ5_length_8abf5 4 = .ok (.ireturn, 1) := by decide +kernel
theorem dJ5_ensureCapacityInternal_d00df_0 : decode cJ5_ensureCapacityInternal_d00df 0 = .ok (.aload_n 0, 1) := by decide +kernel
theorem dJ5_ensureCapacityInternal_d00df_1 : decode cJ5_ensureCapacityInternal_d00df 1 = .ok (.getfield 15, 3) := by decide +kernel
theorem dJ5_ensureCapacityInternal_d00df_4 : decode cJ5_ensureCapacityInternal_d00df 4 = .ok (.arraylength, 1) := by decide +kernel
theorem dJ5_ensureCapacityInternal_d00df_5 : decode cJ5_ensureCapacityInternal_d00df 5 = .ok (.aload_n 0, 1) := by decide +kernel
theorem dJ5_ensureCapacityInternal_d00df_6 : decode cJ5_ensureCapacityInternal_d00df 6 = .ok (.getfield 22, 3) := by decide +kernel
theorem dJ5_ensureCapacityInternal_d00df_9 : decode cJ5_ensureCapacityInternal_d00df 9 = .ok (.ishr, 1) := by decide +kernel
theorem dJ5_ensureCapacityInternal_d00df_10 : decode cJ5_ensureCapacityInternal_d00df 10 = .ok (.istore_n 2, 1) := by decide +kernel
theorem dJ5_ensureCapacityInternal_d00df_11 : decode cJ5_ensureCapacityInternal_d00df 11 = .ok (.iload_n 1, 1) := by decide +kernel
theorem dJ5_ensureCapacityInternal_d00df_12 : decode cJ5_ensureCapacityInternal_d00df 12 = .ok (.iload_n 2, 1) := by decide +kernel
theorem dJ5_ensureCapacityInternal_d00df_13 : decode cJ5_ensureCapacityInternal_d00df 13 = .ok (.isub, 1) := by decide +kernel
theorem dJ5_ensureCapacityInternal_d00df_14 : decode cJ5_ensureCapacityInternal_d00df 14 = .ok (.ifCond .le 24, 3) := by decide +kernel
theorem dJ5_ensureCapacityInternal_d00df_17 : decode cJ5_ensureCapacityInternal_d00df 17 = .ok (.aload_n 0, 1) := by decide +kernel
theorem dJ5_ensureCapacityInternal_d00df_18 : decode cJ5_ensureCapacityInternal_d00df 18 = .ok (.aload_n 0, 1) := by decide +kernel
theorem dJ5_ensureCapacityInternal_d00df_19 : decode cJ5_ensureCapacityInternal_d00df 19 = .ok (.getfield 15, 3) := by decide +kernel
theorem dJ5_ensureCapacityInternal_d00df_22 : decode cJ5_ensureCapacityInternal_d00df 22 = .ok (.aload_n 0, 1) := by decide +kernel
theorem dJ5_ensureCapacityInternal_d00df_23 : decode cJ5_ensureCapacityInternal_d00df 23 = .ok (.iload_n 1, 1) := by decide +kernel
theorem dJ5_ensureCapacityInternal_d00df_24 : decode cJ5_ensureCapacityInternal_d00df 24 = .ok (.invokevirtual 104, 3) := by decide +kernel
theorem dJ5_ensureCapacityInternal_d00df_27 : decode cJ5_ensureCapacityInternal_d00df 27 = .ok (.aload_n 0, 1) := by decide +kernel
theorem dJ5_ensureCapacityInternal_d00df_28 : decode cJ5_ensureCapacityInternal_d00df 28 = .ok (.getfield 22, 3) := by decide +kernel
theorem dJ5_ensureCapacityInternal_d00df_31 : decode cJ5_ensureCapacityInternal_d00df 31 = .ok (.ishl, 1) := by decide +kernel
theorem dJ5_ensureCapacityInternal_d00df_32 : decode cJ5_ensureCapacityInternal_d00df 32 = .ok (.invokestatic 108, 3) := by decide +kernel
theorem dJ5_ensureCapacityInternal_d00df_35 : decode cJ5_ensureCapacityInternal_d00df 35 = .ok (.putfield 15, 3) := by decide +kernel
theorem dJ5_ensureCapacityInternal_d00df_38 : decode cJ5_ensureCapacityInternal_d00df 38 = .ok (.return_, 1) := by decide +kernel
theorem dJ5_newCapacity_0f7a4_0 : decode cJ5_newCapacity_0f7a4 0 = .ok (.aload_n 0, 1) := by decide +kernel
theorem dJ5_newCapacity_0f7a4_1 : decode cJ5_newCapacity_0f7a4 1 = .ok (.getfield 15, 3) := by decide +kernel
theorem dJ5_newCapacity_0f7a4_4 : decode cJ5_newCapacity_0f7a4 4 = .ok (.arraylength, 1) := by decide +kernel
theorem dJ5_newCapacity_0f7a4_5 : decode cJ5_newCapacity_0f7a4 5 = .ok (.istore_n 2, 1) := by decide +kernel
theorem dJ5_newCapacity_0f7a4_6 : decode cJ5_newCapacity_0f7a4 6 = .ok (.iload_n 1, 1) := by decide +kernel
theorem dJ5_newCapacity_0f7a4_7 : decode cJ5_newCapacity_0f7a4 7 = .ok (.aload_n 0, 1) := by decide +kernel
theorem dJ5_newCapacity_0f7a4_8 : decode cJ5_newCapacity_0f7a4 8 = .ok (.getfield 22, 3) := by decide +kernel
theorem dJ5_newCapacity_0f7a4_11 : decode cJ5_newCapacity_0f7a4 11 = .ok (.ishl, 1) := by decide +kernel
theorem dJ5_newCapacity_0f7a4_12 : decode cJ5_newCapacity_0f7a4 12 = .ok (.istore_n 3, 1) := by decide +kernel
theorem dJ5_newCapacity_0f7a4_13 : decode cJ5_newCapacity_0f7a4 13 = .ok (.iload_n 3, 1) := by decide +kernel
theorem dJ5_newCapacity_0f7a4_14 : decode cJ5_newCapacity_0f7a4 14 = .ok (.iload_n 2, 1) := by decide +kernel
theorem dJ5_newCapacity_0f7a4_15 : decode cJ5_newCapacity_0f7a4 15 = .ok (.isub, 1) := by decide +kernel
theorem dJ5_newCapacity_0f7a4_16 : decode cJ5_newCapacity_0f7a4 16 = .ok (.istore 4, 2) := by decide +kernel
theorem dJ5_newCapacity_0f7a4_18 : decode cJ5_newCapacity_0f7a4 18 = .ok (.iload_n 2, 1) := by decide +kernel
theorem dJ5_newCapacity_0f7a4_19 : decode cJ5_newCapacity_0f7a4 19 = .ok (.iload 4, 2) := by decide +kernel
theorem dJ5_newCapacity_0f7a4_21 : decode cJ5_newCapacity_0f7a4 21 = .ok (.iload_n 2, 1) := by decide +kernel
theorem dJ5_newCapacity_0f7a4_22 : decode cJ5_newCapacity_0f7a4 22 = .ok (.iconst 2, 1) := by decide +kernel
theorem dJ5_newCapacity_0f7a4_23 : decode cJ5_newCapacity_0f7a4 23 = .ok (.aload_n 0, 1) := by decide +kernel
theorem dJ5_newCapacity_0f7a4_24 : decode cJ5_newCapacity_0f7a4 24 = .ok (.getfield 22, 3) := by decide +kernel
theorem dJ5_newCapacity_0f7a4_27 : decode cJ5_newCapacity_0f7a4 27 = .ok (.ishl, 1) := by decide +kernel
theorem dJ5_newCapacity_0f7a4_28 : decode cJ5_newCapacity_0f7a4 28 = .ok (.iadd, 1) := by decide +kernel
theorem dJ5_newCapacity_0f7a4_29 : decode cJ5_newCapacity_0f7a4 29 = .ok (.invokestatic 114, 3) := by decide +kernel
theorem dJ5_newCapacity_0f7a4_32 : decode cJ5_newCapacity_0f7a4 32 = .ok (.istore 5, 2) := by decide +kernel
theorem dJ5_newCapacity_0f7a4_34 : decode cJ5_newCapacity_0f7a4 34 = .ok (.iload 5, 2) := by decide +kernel
theorem dJ5_newCapacity_0f7a4_36 : decode cJ5_newCapacity_0f7a4 36 = .ok (.ldc 39, 2) := by decide +kernel
theorem dJ5_newCapacity_0f7a4_38 : decode cJ5_newCapacity_0f7a4 38 = .ok (.if_icmp .ne 13, 3) := by decide +kernel
theorem dJ5_newCapacity_0f7a4_41 : decode cJ5_newCapacity_0f7a4 41 = .ok (.new 120, 3) := by decide +kernel
theorem dJ5_newCapacity_0f7a4_44 : decode cJ5_newCapacity_0f7a4 44 = .ok (.dup, 1) := by decide +kernel
theorem dJ5_newCapacity_0f7a4_45 : decode cJ5_newCapacity_0f7a4 45 = .ok (.ldc 122, 2) := by decide +kernel
theorem dJ5_newCapacity_0f7a4_47 : decode cJ5_newCapacity_0f7a4 47 = .ok (.invokespecial 124, 3) := by decide +kernel
theorem dJ5_newCapacity_0f7a4_50 : decode cJ5_newCapacity_0f7a4 50 = .ok (.athrow, 1) := by decide +kernel
theorem dJ5_newCapacity_0f7a4_51 : decode cJ5_newCapacity_0f7a4 51 = .ok (.iload 5, 2) := by decide +kernel
theorem dJ5_newCapacity_0f7a4_53 : decode cJ5_newCapacity_0f7a4 53 = .ok (.aload_n 0, 1) := by decide +kernel
theorem dJ5_newCapacity_0f7a4_54 : decode cJ5_newCapacity_0f7a4 54 = .ok (.getfield 22, 3) := by decide +kernel
theorem dJ5_newCapacity_0f7a4_57 : decode cJ5_newCapacity_0f7a4 57 = .ok (.ishr, 1) := by decide +kernel
theorem dJ5_newCapacity_0f7a4_58 : decode cJ5_newCapacity_0f7a4 58 = .ok (.ireturn, 1) := by decide +kernel
theorem dJ5_append_cf1ce_0 : decode cJ5_append_cf1ce 0 = .ok (.aload_n 1, 1) := by decide +kernel
theorem dJ5_append_cf1ce_1 : decode cJ5_append_cf1ce 1 = .ok (.ifnonnull 8, 3) := by decide +kernel
theorem dJ5_append_cf1ce_4 : decode cJ5_append_cf1ce 4 = .ok (.aload_n 0, 1) := by decide +kernel
theorem dJ5_append_cf1ce_5 : decode cJ5_append_cf1ce 5 = .ok (.invokevirtual 204, 3) := by decide +kernel
theorem dJ5_append_cf1ce_8 : decode cJ5_append_cf1ce 8 = .ok (.areturn, 1) := by decide +kernel
theorem dJ5_append_cf1ce_9 : decode cJ5_append_cf1ce 9 = .ok (.aload_n 1, 1) := by decide +kernel
theorem dJ5_append_cf1ce_10 : decode cJ5_append_cf1ce 10 = .ok (.invokevirtual 32, 3) := by decide +kernel
theorem dJ5_append_cf1ce_13 : decode cJ5_append_cf1ce 13 = .ok (.istore_n 2, 1) := by decide +kernel
theorem dJ5_append_cf1ce_14 : decode cJ5_append_cf1ce 14 = .ok (.aload_n 0, 1) := by decide +kernel
theorem dJ5_append_cf1ce_15 : decode cJ5_append_cf1ce 15 = .ok (.aload_n 0, 1) := by decide +kernel
theorem dJ5_append_cf1ce_16 : decode cJ5_append_cf1ce 16 = .ok (.getfield 79, 3) := by decide +kernel
theorem dJ5_append_cf1ce_19 : decode cJ5_append_cf1ce 19 = .ok (.iload_n 2, 1) := by decide +kernel
theorem dJ5_append_cf1ce_20 : decode cJ5_append_cf1ce 20 = .ok (.iadd, 1) := by decide +kernel
theorem dJ5_append_cf1ce_21 : decode cJ5_append_cf1ce 21 = .ok (.invokevirtual 100, 3) := by decide +kernel
theorem dJ5_append_cf1ce_24 : decode cJ5_append_cf1ce 24 = .ok (.aload_n 0, 1) := by decide +kernel
theorem dJ5_append_cf1ce_25 : decode cJ5_append_cf1ce 25 = .ok (.aload_n 0, 1) := by decide +kernel
theorem dJ5_append_cf1ce_26 : decode cJ5_append_cf1ce 26 = .ok (.getfield 79, 3) := by decide +kernel
theorem dJ5_append_cf1ce_29 : decode cJ5_append_cf1ce 29 = .ok (.aload_n 1, 1) := by decide +kernel
theorem dJ5_append_cf1ce_30 : decode cJ5_append_cf1ce 30 = .ok (.invokevirtual 208, 3) := by decide +kernel
theorem dJ5_append_cf1ce_33 : decode cJ5_append_cf1ce 33 = .ok (.aload_n 0, 1) := by decide +kernel
theorem dJ5_append_cf1ce_34 : decode cJ5_append_cf1ce 34 = .ok (.dup, 1) := by decide +kernel
theorem dJ5_append_cf1ce_35 : decode cJ5_append_cf1ce 35 = .ok (.getfield 79, 3) := by decide +kernel
theorem dJ5_append_cf1ce_38 : decode cJ5_append_cf1ce 38 = .ok (.iload_n 2, 1) := by decide +kernel
theorem dJ5_append_cf1ce_39 : decode cJ5_append_cf1ce 39 = .ok (.iadd, 1) := by decide +kernel
theorem dJ5_append_cf1ce_40 : decode cJ5_append_cf1ce 40 = .ok (.putfield 79, 3) := by decide +kernel
theorem dJ5_append_cf1ce_43 : decode cJ5_append_cf1ce 43 = .ok (.aload_n 0, 1) := by decide +kernel
theorem dJ5_append_cf1ce_44 : decode cJ5_append_cf1ce 44 = .ok (.areturn, 1) := by decide +kernel
theorem dJ5_append_c97b9_0 : decode cJ5_append_c97b9 0 = .ok (.aload_n 0, 1) := by decide +kernel
theorem dJ5_append_c97b9_1 : decode cJ5_append_c97b9 1 = .ok (.getfield 79, 3) := by decide +kernel
theorem dJ5_append_c97b9_4 : decode cJ5_append_c97b9 4 = .ok (.istore_n 2, 1) := by decide +kernel
theorem dJ5_append_c97b9_5 : decode cJ5_append_c97b9 5 = .ok (.iload_n 2, 1) := by decide +kernel
theorem dJ5_append_c97b9_6 : decode cJ5_append_c97b9 6 = .ok (.iload_n 1, 1) := by decide +kernel
theorem dJ5_append_c97b9_7 : decode cJ5_append_c97b9 7 = .ok (.invokestatic 245, 3) := by decide +kernel
theorem dJ5_append_c97b9_10 : decode cJ5_append_c97b9 10 = .ok (.iadd, 1) := by decide +kernel
theorem dJ5_append_c97b9_11 : decode cJ5_append_c97b9 11 = .ok (.istore_n 3, 1) := by decide +kernel
theorem dJ5_append_c97b9_12 : decode cJ5_append_c97b9 12 = .ok (.aload_n 0, 1) := by decide +kernel
theorem dJ5_append_c97b9_13 : decode cJ5_append_c97b9 13 = .ok (.iload_n 3, 1) := by decide +kernel
theorem dJ5_append_c97b9_14 : decode cJ5_append_c97b9 14 = .ok (.invokevirtual 100, 3) := by decide +kernel
theorem dJ5_append_c97b9_17 : decode cJ5_append_c97b9 17 = .ok (.aload_n 0, 1) := by decide +kernel
theorem dJ5_append_c97b9_18 : decode cJ5_append_c97b9 18 = .ok (.invokevirtual 83, 3) := by decide +kernel
theorem dJ5_append_c97b9_21 : decode cJ5_append_c97b9 21 = .ok (.ifCond .eq 16, 3) := by decide +kernel
theorem dJ5_append_c97b9_24 : decode cJ5_append_c97b9 24 = .ok (.iload_n 1, 1) := by decide +kernel
theorem dJ5_append_c97b9_25 : decode cJ5_append_c97b9 25 = .ok (.iload_n 3, 1) := by decide +kernel
theorem dJ5_append_c97b9_26 : decode cJ5_append_c97b9 26 = .ok (.aload_n 0, 1) := by decide +kernel
theorem dJ5_append_c97b9_27 : decode cJ5_append_c97b9 27 = .ok (.getfield 15, 3) := by decide +kernel
theorem dJ5_append_c97b9_30 : decode cJ5_append_c97b9 30 = .ok (.invokestatic 248, 3) := by decide +kernel
theorem dJ5_append_c97b9_33 : decode cJ5_append_c97b9 33 = .ok (.pop, 1) := by decide +kernel
theorem dJ5_append_c97b9_34 : decode cJ5_append_c97b9 34 = .ok (.goto 14, 3) := by decide +kernel
theorem dJ5_append_c97b9_37 : decode cJ5_append_c97b9 37 = .ok (.iload_n 1, 1) := by decide +kernel
theorem dJ5_append_c97b9_38 : decode cJ5_append_c97b9 38 = .ok (.iload_n 2, 1) := by decide +kernel
theorem dJ5_append_c97b9_39 : decode cJ5_append_c97b9 39 = .ok (.iload_n 3, 1) := by decide +kernel
theorem dJ5_append_c97b9_40 : decode cJ5_append_c97b9 40 = .ok (.aload_n 0, 1) := by decide +kernel
theorem dJ5_append_c97b9_41 : decode cJ5_append_c97b9 41 = .ok (.getfield 15, 3) := by decide +kernel
theorem dJ5_append_c97b9_44 : decode cJ5_append_c97b9 44 = .ok (.invokestatic 251, 3) := by decide +kernel
theorem dJ5_append_c97b9_47 : decode cJ5_append_c97b9 47 = .ok (.pop, 1) := by decide +kernel
theorem dJ5_append_c97b9_48 : decode cJ5_append_c97b9 48 = .ok (.aload_n 0, 1) := by decide +kernel
theorem dJ5_append_c97b9_49 : decode cJ5_append_c97b9 49 = .ok (.iload_n 3, 1) := by decide +kernel
theorem dJ5_append_c97b9_50 : decode cJ5_append_c97b9 50 = .ok (.putfield 79, 3) := by decide +kernel
theorem dJ5_append_c97b9_53 : decode cJ5_append_c97b9 53 = .ok (.aload_n 0, 1) := by decide +kernel
theorem dJ5_append_c97b9_54 : decode cJ5_append_c97b9 54 = .ok (.areturn, 1) := by decide +kernel
theorem dJ5_getValue_6d5f1_0 : decode cJ5_getValue_6d5f1 0 = .ok (.aload_n 0, 1) := by decide +kernel
theorem dJ5_getValue_6d5f1_1 : decode cJ5_getValue_6d5f1 1 = .ok (.getfield 15, 3) := by decide +kernel
theorem dJ5_getValue_6d5f1_4 : decode cJ5_getValue_6d5f1 4 = .ok (.areturn, 1) := by decide +kernel
theorem dJ5_isLatin1_aae02_0 : decode cJ5_isLatin1_aae02 0 = .ok (.getstatic 18, 3) := by decide +kernel
theorem dJ5_isLatin1_aae02_3 : decode cJ5_isLatin1_aae02 3 = .ok (.ifCond .eq 14, 3) := by decide +kernel
theorem dJ5_isLatin1_aae02_6 : decode cJ5_isLatin1_aae02 6 = .ok (.aload_n 0, 1) := by decide +kernel
theorem dJ5_isLatin1_aae02_7 : decode cJ5_isLatin1_aae02 7 = .ok (.getfield 22, 3) := by decide +kernel
theorem dJ5_isLatin1_aae02_10 : decode cJ5_isLatin1_aae02 10 = .ok (.ifCond .ne 7, 3) := by decide +kernel
theorem dJ5_isLatin1_aae02_13 : decode cJ5_isLatin1_aae02 13 = .ok (.iconst 1, 1) := by decide +kernel
theorem dJ5_isLatin1_aae02_14 : decode cJ5_isLatin1_aae02 14 = .ok (.goto 4, 3) := by decide +kernel
theorem dJ5_isLatin1_aae02_17 : decode cJ5_isLatin1_aae02 17 = .ok (.iconst 0, 1) := by decide +kernel
theorem dJ5_isLatin1_aae02_18 : decode cJ5_isLatin1_aae02 18 = .ok (.ireturn, 1) := by decide +kernel
theorem dJ5_inflateIfNeededFor_a7421_0 : decode cJ5_inflateIfNeededFor_a7421 0 = .ok (.getstatic 18, 3) := by decide +kernel
theorem dJ5_inflateIfNeededFor_a7421_3 : decode cJ5_inflateIfNeededFor_a7421 3 = .ok (.ifCond .eq 18, 3) := by decide +kernel
theorem dJ5_inflateIfNeededFor_a7421_6 : decode cJ5_inflateIfNeededFor_a7421 6 = .ok (.aload_n 0, 1) := by decide +kernel
theorem dJ5_inflateIfNeededFor_a7421_7 : decode cJ5_inflateIfNeededFor_a7421 7 = .ok (.getfield 22, 3) := by decide +kernel
theorem dJ5_inflateIfNeededFor_a7421_10 : decode cJ5_inflateIfNeededFor_a7421 10 = .ok (.aload_n 1, 1) := by decide +kernel
theorem dJ5_inflateIfNeededFor_a7421_11 : decode cJ5_inflateIfNeededFor_a7421 11 = .ok (.invokevirtual 40, 3) := by decide +kernel
theorem dJ5_inflateIfNeededFor_a7421_14 : decode cJ5_inflateIfNeededFor_a7421 14 = .ok (.if_icmp .eq 7, 3) := by decide +kernel
theorem dJ5_inflateIfNeededFor_a7421_17 : decode cJ5_inflateIfNeededFor_a7421 17 = .ok (.aload_n 0, 1) := by decide +kernel
theorem dJ5_inflateIfNeededFor_a7421_18 : decode cJ5_inflateIfNeededFor_a7421 18 = .ok (.invokevirtual 195, 3) := by decide +kernel
theorem dJ5_inflateIfNeededFor_a7421_21 : decode cJ5_inflateIfNeededFor_a7421 21 = .ok (.return_, 1) := by decide +kernel
theorem dJ5_putStringAt_47b60_0 : decode cJ5_putStringAt_47b60 0 = .ok (.aload_n 0, 1) := by decide +kernel
theorem dJ5_putStringAt_47b60_1 : decode cJ5_putStringAt_47b60 1 = .ok (.aload_n 2, 1) := by decide +kernel
theorem dJ5_putStringAt_47b60_2 : decode cJ5_putStringAt_47b60 2 = .ok (.invokevirtual 397, 3) := by decide +kernel
theorem dJ5_putStringAt_47b60_5 : decode cJ5_putStringAt_47b60 5 = .ok (.aload_n 2, 1) := by decide +kernel
theorem dJ5_putStringAt_47b60_6 : decode cJ5_putStringAt_47b60 6 = .ok (.aload_n 0, 1) := by decide +kernel
theorem dJ5_putStringAt_47b60_7 : decode cJ5_putStringAt_47b60 7 = .ok (.getfield 15, 3) := by decide +kernel
theorem dJ5_putStringAt_47b60_10 : decode cJ5_putStringAt_47b60 10 = .ok (.iload_n 1, 1) := by decide +kernel
theorem dJ5_putStringAt_47b60_11 : decode cJ5_putStringAt_47b60 11 = .ok (.aload_n 0, 1) := by decide +kernel
theorem dJ5_putStringAt_47b60_12 : decode cJ5_putStringAt_47b60 12 = .ok (.getfield 22, 3) := by decide +kernel
theorem dJ5_putStringAt_47b60_15 : decode cJ5_putStringAt_47b60 15 = .ok (.invokevirtual 399, 3) := by decide +kernel
theorem dJ5_putStringAt_47b60_18 : decode cJ5_putStringAt_47b60 18 = .ok (.return_, 1) := by decide +kernel
theorem dJ6_getChars_ba4f3_0 : decode cJ6_getChars_ba4f3 0 = .ok (.iload_n 1, 1) := by decide +kernel
theorem dJ6_getChars_ba4f3_1 : decode cJ6_getChars_ba4f3 1 = .ok (.istore 5, 2) := by decide +kernel
theorem dJ6_getChars_ba4f3_3 : decode cJ6_getChars_ba4f3 3 = .ok (.iload_n 0, 1) := by decide +kernel
theorem dJ6_getChars_ba4f3_4 : decode cJ6_getChars_ba4f3 4 = .ok (.ifCond .ge 7, 3) := by decide +kernel
theorem dJ6_getChars_ba4f3_7 : decode cJ6_getChars_ba4f3 7 = .ok (.iconst 1, 1) := by decide +kernel
theorem dJ6_getChars_ba4f3_8 : decode cJ6_getChars_ba4f3 8 = .ok (.goto 4, 3) := by decide +kernel
theorem dJ6_getChars_ba4f3_11 : decode cJ6_getChars_ba4f3 11 = .ok (.iconst 0, 1) := by decide +kernel
theorem dJ6_getChars_ba4f3_12 : decode cJ6_getChars_ba4f3 12 = .ok (.istore 6, 2) := by decide +kernel
theorem dJ6_getChars_ba4f3_14 : decode cJ6_getChars_ba4f3 14 = .ok (.iload 6, 2) := by decide +kernel
theorem dJ6_getChars_ba4f3_16 : decode cJ6_getChars_ba4f3 16 = .ok (.ifCond .ne 6, 3) := by decide +kernel
theorem dJ6_getChars_ba4f3_19 : decode cJ6_getChars_ba4f3 19 = .ok (.iload_n 0, 1) := by decide +kernel
theorem dJ6_getChars_ba4f3_20 : decode cJ6_getChars_ba4f3 20 = .ok (.ineg, 1) := by decide +kernel
theorem dJ6_getChars_ba4f3_21 : decode cJ6_getChars_ba4f3 21 = .ok (.istore_n 0, 1) := by decide +kernel
theorem dJ6_getChars_ba4f3_22 : decode cJ6_getChars_ba4f3 22 = .ok (.iload_n 0, 1) := by decide +kernel
theorem dJ6_getChars_ba4f3_23 : decode cJ6_getChars_ba4f3 23 = .ok (.bipush (-100), 2) := by decide +kernel
theorem dJ6_getChars_ba4f3_25 : decode cJ6_getChars_ba4f3 25 = .ok (.if_icmp .gt 47, 3) := by decide +kernel
theorem dJ6_getChars_ba4f3_28 : decode cJ6_getChars_ba4f3 28 = .ok (.iload_n 0, 1) := by decide +kernel
theorem dJ6_getChars_ba4f3_29 : decode cJ6_getChars_ba4f3 29 = .ok (.bipush 100, 2) := by decide +kernel
theorem dJ6_getChars_ba4f3_31 : decode cJ6_getChars_ba4f3 31 = .ok (.idiv, 1) := by decide +kernel
theorem dJ6_getChars_ba4f3_32 : decode cJ6_getChars_ba4f3 32 = .ok (.istore_n 3, 1) := by decide +kernel
theorem dJ6_getChars_ba4f3_33 : decode cJ6_getChars_ba4f3 33 = .ok (.iload_n 3, 1) := by decide +kernel
theorem dJ6_getChars_ba4f3_34 : decode cJ6_getChars_ba4f3 34 = .ok (.bipush 100, 2) := by decide +kernel
theorem dJ6_getChars_ba4f3_36 : decode cJ6_getChars_ba4f3 36 = .ok (.imul, 1) := by decide +kernel
theorem dJ6_getChars_ba4f3_37 : decode cJ6_getChars_ba4f3 37 = .ok (.iload_n 0, 1) := by decide +kernel
theorem dJ6_getChars_ba4f3_38 : decode cJ6_getChars_ba4f3 38 = .ok (.isub, 1) := by decide +kernel
theorem dJ6_getChars_ba4f3_39 : decode cJ6_getChars_ba4f3 39 = .ok (.istore 4, 2) := by decide +kernel
theorem dJ6_getChars_ba4f3_41 : decode cJ6_getChars_ba4f3 41 = .ok (.iload_n 3, 1) := by decide +kernel
theorem dJ6_getChars_ba4f3_42 : decode cJ6_getChars_ba4f3 42 = .ok (.istore_n 0, 1) := by decide +kernel
theorem dJ6_getChars_ba4f3_43 : decode cJ6_getChars_ba4f3 43 = .ok (.aload_n 2, 1) := by decide +kernel
theorem dJ6_getChars_ba4f3_44 : decode cJ6_getChars_ba4f3 44 = .ok (.iinc 5 (-1), 3) := by decide +kernel
theorem dJ6_getChars_ba4f3_47 : decode cJ6_getChars_ba4f3 47 = .ok (.iload 5, 2) := by decide +kernel
theorem dJ6_getChars_ba4f3_49 : decode cJ6_getChars_ba4f3 49 = .ok (.getstatic 83, 3) := by decide +kernel
theorem dJ6_getChars_ba4f3_52 : decode cJ6_getChars_ba4f3 52 = .ok (.iload 4, 2) := by decide +kernel
theorem dJ6_getChars_ba4f3_54 : decode cJ6_getChars_ba4f3 54 = .ok (.baload, 1) := by decide +kernel
theorem dJ6_getChars_ba4f3_55 : decode cJ6_getChars_ba4f3 55 = .ok (.bastore, 1) := by decide +kernel
theorem dJ6_getChars_ba4f3_56 : decode cJ6_getChars_ba4f3 56 = .ok (.aload_n 2, 1) := by decide +kernel
theorem dJ6_getChars_ba4f3_57 : decode cJ6_getChars_ba4f3 57 = .ok (.iinc 5 (-1), 3) := by decide +kernel
theorem dJ6_getChars_ba4f3_60 : decode cJ6_getChars_ba4f3 60 = .ok (.iload 5, 2) := by decide +kernel
theorem dJ6_getChars_ba4f3_62 : decode cJ6_getChars_ba4f3 62 = .ok (.getstatic 87, 3) := by decide +kernel
theorem dJ6_getChars_ba4f3_65 : decode cJ6_getChars_ba4f3 65 = .ok (.iload 4, 2) := by decide +kernel
theorem dJ6_getChars_ba4f3_67 : decode cJ6_getChars_ba4f3 67 = .ok (.baload, 1) := by decide +kernel
theorem dJ6_getChars_ba4f3_68 : decode cJ6_getChars_ba4f3 68 = .ok (.bastore, 1) := by decide +kernel
theorem dJ6_getChars_ba4f3_69 : decode cJ6_getChars_ba4f3 69 = .ok (.goto (-47), 3) := by decide +kernel
theorem dJ6_getChars_ba4f3_72 : decode cJ6_getChars_ba4f3 72 = .ok (.aload_n 2, 1) := by decide +kernel
theorem dJ6_getChars_ba4f3_73 : decode cJ6_getChars_ba4f3 73 = .ok (.iinc 5 (-1), 3) := by decide +kernel
theorem dJ6_getChars_ba4f3_76 : decode cJ6_getChars_ba4f3 76 = .ok (.iload 5, 2) := by decide +kernel
theorem dJ6_getChars_ba4f3_78 : decode cJ6_getChars_ba4f3 78 = .ok (.getstatic 83, 3) := by decide +kernel
theorem dJ6_getChars_ba4f3_81 : decode cJ6_getChars_ba4f3 81 = .ok (.iload_n 0, 1) := by decide +kernel
theorem dJ6_getChars_ba4f3_82 : decode cJ6_getChars_ba4f3 82 = .ok (.ineg, 1) := by decide +kernel
theorem dJ6_getChars_ba4f3_83 : decode cJ6_getChars_ba4f3 83 = .ok (.baload, 1) := by decide +kernel
theorem dJ6_getChars_ba4f3_84 : decode cJ6_getChars_ba4f3 84 = .ok (.bastore, 1) := by decide +kernel
theorem dJ6_getChars_ba4f3_85 : decode cJ6_getChars_ba4f3 85 = .ok (.iload_n 0, 1) := by decide +kernel
theorem dJ6_getChars_ba4f3_86 : decode cJ6_getChars_ba4f3 86 = .ok (.bipush (-9), 2) := by decide +kernel
theorem dJ6_getChars_ba4f3_88 : decode cJ6_getChars_ba4f3 88 = .ok (.if_icmp .ge 16, 3) := by decide +kernel
theorem dJ6_getChars_ba4f3_91 : decode cJ6_getChars_ba4f3 91 = .ok (.aload_n 2, 1) := by decide +kernel
theorem dJ6_getChars_ba4f3_92 : decode cJ6_getChars_ba4f3 92 = .ok (.iinc 5 (-1), 3) := by decide +kernel
theorem dJ6_getChars_ba4f3_95 : decode cJ6_getChars_ba4f3 95 = .ok (.iload 5, 2) := by decide +kernel
theorem dJ6_getChars_ba4f3_97 : decode cJ6_getChars_ba4f3 97 = .ok (.getstatic 87, 3) := by decide +kernel
theorem dJ6_getChars_ba4f3_100 : decode cJ6_getChars_ba4f3 100 = .ok (.iload_n 0, 1) := by decide +kernel
theorem dJ6_getChars_ba4f3_101 : decode cJ6_getChars_ba4f3 101 = .ok (.ineg, 1) := by decide +kernel
theorem dJ6_getChars_ba4f3_102 : decode cJ6_getChars_ba4f3 102 = .ok (.baload, 1) := by decide +kernel
theorem dJ6_getChars_ba4f3_103 : decode cJ6_getChars_ba4f3 103 = .ok (.bastore, 1) := by decide +kernel
theorem dJ6_getChars_ba4f3_104 : decode cJ6_getChars_ba4f3 104 = .ok (.iload 6, 2) := by decide +kernel
theorem dJ6_getChars_ba4f3_106 : decode cJ6_getChars_ba4f3 106 = .ok (.ifCond .eq 12, 3) := by decide +kernel
theorem dJ6_getChars_ba4f3_109 : decode cJ6_getChars_ba4f3 109 = .ok (.aload_n 2, 1) := by decide +kernel
theorem dJ6_getChars_ba4f3_110 : decode cJ6_getChars_ba4f3 110 = .ok (.iinc 5 (-1), 3) := by decide +kernel
theorem dJ6_getChars_ba4f3_113 : decode cJ6_getChars_ba4f3 113 = .ok (.iload 5, 2) := by decide +kernel
theorem dJ6_getChars_ba4f3_115 : decode cJ6_getChars_ba4f3 115 = .ok (.bipush 45, 2) := by decide +kernel
theorem dJ6_getChars_ba4f3_117 : decode cJ6_getChars_ba4f3 117 = .ok (.bastore, 1) := by decide +kernel
theorem dJ6_getChars_ba4f3_118 : decode cJ6_getChars_ba4f3 118 = .ok (.iload 5, 2) := by decide +kernel
theorem dJ6_getChars_ba4f3_120 : decode cJ6_getChars_ba4f3 120 = .ok (.ireturn, 1) := by decide +kernel
theorem dJ6_stringSize_0f7a4_0 : decode cJ6_stringSize_0f7a4 0 = .ok (.iconst 1, 1) := by decide +kernel
theorem dJ6_stringSize_0f7a4_1 : decode cJ6_stringSize_0f7a4 1 = .ok (.istore_n 1, 1) := by decide +kernel
theorem dJ6_stringSize_0f7a4_2 : decode cJ6_stringSize_0f7a4 2 = .ok (.iload_n 0, 1) := by decide +kernel
theorem dJ6_stringSize_0f7a4_3 : decode cJ6_stringSize_0f7a4 3 = .ok (.ifCond .lt 8, 3) := by decide +kernel
theorem dJ6_stringSize_0f7a4_6 : decode cJ6_stringSize_0f7a4 6 = .ok (.iconst 0, 1) := by decide +kernel
theorem dJ6_stringSize_0f7a4_7 : decode cJ6_stringSize_0f7a4 7 = .ok (.istore_n 1, 1) := by decide +kernel
theorem dJ6_stringSize_0f7a4_8 : decode cJ6_stringSize_0f7a4 8 = .ok (.iload_n 0, 1) := by decide +kernel
theorem dJ6_stringSize_0f7a4_9 : decode cJ6_stringSize_0f7a4 9 = .ok (.ineg, 1) := by decide +kernel
theorem dJ6_stringSize_0f7a4_10 : decode cJ6_stringSize_0f7a4 10 = .ok (.istore_n 0, 1) := by decide +kernel
theorem dJ6_stringSize_0f7a4_11 : decode cJ6_stringSize_0f7a4 11 = .ok (.bipush (-10), 2) := by decide +kernel
theorem dJ6_stringSize_0f7a4_13 : decode cJ6_stringSize_0f7a4 13 = .ok (.istore_n 2, 1) := by decide +kernel
theorem dJ6_stringSize_0f7a4_14 : decode cJ6_stringSize_0f7a4 14 = .ok (.iconst 1, 1) := by decide +kernel
theorem dJ6_stringSize_0f7a4_15 : decode cJ6_stringSize_0f7a4 15 = .ok (.istore_n 3, 1) := by decide +kernel
theorem dJ6_stringSize_0f7a4_16 : decode cJ6_stringSize_0f7a4 16 = .ok (.iload_n 3, 1) := by decide +kernel
theorem dJ6_stringSize_0f7a4_17 : decode cJ6_stringSize_0f7a4 17 = .ok (.bipush 10, 2) := by decide +kernel
theorem dJ6_stringSize_0f7a4_19 : decode cJ6_stringSize_0f7a4 19 = .ok (.if_icmp .ge 23, 3) := by decide +kernel
theorem dJ6_stringSize_0f7a4_22 : decode cJ6_stringSize_0f7a4 22 = .ok (.iload_n 0, 1) := by decide +kernel
theorem dJ6_stringSize_0f7a4_23 : decode cJ6_stringSize_0f7a4 23 = .ok (.iload_n 2, 1) := by decide +kernel
theorem dJ6_stringSize_0f7a4_24 : decode cJ6_stringSize_0f7a4 24 = .ok (.if_icmp .le 7, 3) := by decide +kernel
theorem dJ6_stringSize_0f7a4_27 : decode cJ6_stringSize_0f7a4 27 = .ok (.iload_n 3, 1) := by decide +kernel
theorem dJ6_stringSize_0f7a4_28 : decode cJ6_stringSize_0f7a4 28 = .ok (.iload_n 1, 1) := by decide +kernel
theorem dJ6_stringSize_0f7a4_29 : decode cJ6_stringSize_0f7a4 29 = .ok (.iadd, 1) := by decide +kernel
theorem dJ6_stringSize_0f7a4_30 : decode cJ6_stringSize_0f7a4 30 = .ok (.ireturn, 1) := by decide +kernel
theorem dJ6_stringSize_0f7a4_31 : decode cJ6_stringSize_0f7a4 31 = .ok (.bipush 10, 2) := by decide +kernel
theorem dJ6_stringSize_0f7a4_33 : decode cJ6_stringSize_0f7a4 33 = .ok (.iload_n 2, 1) := by decide +kernel
theorem dJ6_stringSize_0f7a4_34 : decode cJ6_stringSize_0f7a4 34 = .ok (.imul, 1) := by decide +kernel
theorem dJ6_stringSize_0f7a4_35 : decode cJ6_stringSize_0f7a4 35 = .ok (.istore_n 2, 1) := by decide +kernel
theorem dJ6_stringSize_0f7a4_36 : decode cJ6_stringSize_0f7a4 36 = .ok (.iinc 3 1, 3) := by decide +kernel
theorem dJ6_stringSize_0f7a4_39 : decode cJ6_stringSize_0f7a4 39 = .ok (.goto (-23), 3) := by decide +kernel
theorem dJ6_stringSize_0f7a4_42 : decode cJ6_stringSize_0f7a4 42 = .ok (.bipush 10, 2) := by decide +kernel
theorem dJ6_stringSize_0f7a4_44 : decode cJ6_stringSize_0f7a4 44 = .ok (.iload_n 1, 1) := by decide +kernel
theorem dJ6_stringSize_0f7a4_45 : decode cJ6_stringSize_0f7a4 45 = .ok (.iadd, 1) := by decide +kernel
theorem dJ6_stringSize_0f7a4_46 : decode cJ6_stringSize_0f7a4 46 = .ok (.ireturn, 1) := by decide +kernel
theorem dJ9_max_7cf53_0 : decode cJ9_max_7cf53 0 = .ok (.iload_n 0, 1) := by decide +kernel
theorem dJ9_max_7cf53_1 : decode cJ9_max_7cf53 1 = .ok (.iload_n 1, 1) := by decide +kernel
theorem dJ9_max_7cf53_2 : decode cJ9_max_7cf53 2 = .ok (.if_icmp .lt 7, 3) := by decide +kernel
theorem dJ9_max_7cf53_5 : decode cJ9_max_7cf53 5 = .ok (.iload_n 0, 1) := by decide +kernel
theorem dJ9_max_7cf53_6 : decode cJ9_max_7cf53 6 = .ok (.goto 4, 3) := by decide +kernel
theorem dJ9_max_7cf53_9 : decode cJ9_max_7cf53 9 = .ok (.iload_n 1, 1) := by decide +kernel
theorem dJ9_max_7cf53_10 : decode cJ9_max_7cf53 10 = .ok (.ireturn, 1) := by decide +kernel
theorem dJ9_min_7cf53_0 : decode cJ9_min_7cf53 0 = .ok (.iload_n 0, 1) := by decide +kernel
theorem dJ9_min_7cf53_1 : decode cJ9_min_7cf53 1 = .ok (.iload_n 1, 1) := by decide +kernel
theorem dJ9_min_7cf53_2 : decode cJ9_min_7cf53 2 = .ok (.if_icmp .gt 7, 3) := by decide +kernel
theorem dJ9_min_7cf53_5 : decode cJ9_min_7cf53 5 = .ok (.iload_n 0, 1) := by decide +kernel
theorem dJ9_min_7cf53_6 : decode cJ9_min_7cf53 6 = .ok (.goto 4, 3) := by decide +kernel
theorem dJ9_min_7cf53_9 : decode cJ9_min_7cf53 9 = .ok (.iload_n 1, 1) := by decide +kernel
theorem dJ9_min_7cf53_10 : decode cJ9_min_7cf53 10 = .ok (.ireturn, 1) := by decide +kernel
theorem dJ0_init_81219_0 : decode cJ0_init_81219 0 = .ok (.aload_n 0, 1) := by decide +kernel
theorem dJ0_init_81219_1 : decode cJ0_init_81219 1 = .ok (.aload_n 1, 1) := by decide +kernel
theorem dJ0_init_81219_2 : decode cJ0_init_81219 2 = .ok (.aconst_null, 1) := by decide +kernel
theorem dJ0_init_81219_3 : decode cJ0_init_81219 3 = .ok (.invokespecial 489, 3) := by decide +kernel
theorem dJ0_init_81219_6 : decode cJ0_init_81219 6 = .ok (.return_, 1) := by decide +kernel
theorem dJ0_length_8abf5_0 : decode cJ0_length_8abf5 0 = .ok (.aload_n 0, 1) := by decide +kernel
theorem dJ0_length_8abf5_1 : decode cJ0_length_8abf5 1 = .ok (.getfield 9, 3) := by decide +kernel
theorem dJ0_length_8abf5_4 : decode cJ0_length_8abf5 4 = .ok (.arraylength, 1) := by decide +kernel
theorem dJ0_length_8abf5_5 : decode cJ0_length_8abf5 5 = .ok (.aload_n 0, 1) := by decide +kernel
theorem dJ0_length_8abf5_6 : decode cJ0_length_8abf5 6 = .ok (.invokevirtual 335, 3) := by decide +kernel
theorem dJ0_length_8abf5_9 : decode cJ0_length_8abf5 9 = .ok (.ishr, 1) := by decide +kernel
theorem dJ0_length_8abf5_10 : decode cJ0_length_8abf5 10 = .ok (.ireturn, 1) := by decide +kernel
theorem dJ0_charAt_5068e_0 : decode cJ0_charAt_5068e 0 = .ok (.aload_n 0, 1) := by decide +kernel
theorem dJ0_charAt_5068e_1 : decode cJ0_charAt_5068e 1 = .ok (.invokevirtual 492, 3) := by decide +kernel
theorem dJ0_charAt_5068e_4 : decode cJ0_charAt_5068e 4 = .ok (.ifCond .eq 12, 3) := by decide +kernel
theorem dJ0_charAt_5068e_7 : decode cJ0_charAt_5068e 7 = .ok (.aload_n 0, 1) := by decide +kernel
theorem dJ0_charAt_5068e_8 : decode cJ0_charAt_5068e 8 = .ok (.getfield 9, 3) := by decide +kernel
theorem dJ0_charAt_5068e_11 : decode cJ0_charAt_5068e 11 = .ok (.iload_n 1, 1) := by decide +kernel
theorem dJ0_charAt_5068e_12 : decode cJ0_charAt_5068e 12 = .ok (.invokestatic 495, 3) := by decide +kernel
theorem dJ0_charAt_5068e_15 : decode cJ0_charAt_5068e 15 = .ok (.ireturn, 1) := by decide +kernel
theorem dJ0_charAt_5068e_16 : decode cJ0_charAt_5068e 16 = .ok (.aload_n 0, 1) := by decide +kernel
theorem dJ0_charAt_5068e_17 : decode cJ0_charAt_5068e 17 = .ok (.getfield 9, 3) := by decide +kernel
theorem dJ0_charAt_5068e_20 : decode cJ0_charAt_5068e 20 = .ok (.iload_n 1, 1) := by decide +kernel
theorem dJ0_charAt_5068e_21 : decode cJ0_charAt_5068e 21 = .ok (.invokestatic 498, 3) := by decide +kernel
theorem dJ0_charAt_5068e_24 : decode cJ0_charAt_5068e 24 = .ok (.ireturn, 1) := by decide +kernel
theorem dJ0_getBytes_840e7_0 : decode cJ0_getBytes_840e7 0 = .ok (.aload_n 0, 1) := by decide +kernel
theorem dJ0_getBytes_840e7_1 : decode cJ0_getBytes_840e7 1 = .ok (.invokevirtual 335, 3) := by decide +kernel
theorem dJ0_getBytes_840e7_4 : decode cJ0_getBytes_840e7 4 = .ok (.iload_n 3, 1) := by decide +kernel
theorem dJ0_getBytes_840e7_5 : decode cJ0_getBytes_840e7 5 = .ok (.if_icmp .ne 23, 3) := by decide +kernel
theorem dJ0_getBytes_840e7_8 : decode cJ0_getBytes_840e7 8 = .ok (.aload_n 0, 1) := by decide +kernel
theorem dJ0_getBytes_840e7_9 : decode cJ0_getBytes_840e7 9 = .ok (.getfield 9, 3) := by decide +kernel
theorem dJ0_getBytes_840e7_12 : decode cJ0_getBytes_840e7 12 = .ok (.iconst 0, 1) := by decide +kernel
theorem dJ0_getBytes_840e7_13 : decode cJ0_getBytes_840e7 13 = .ok (.aload_n 1, 1) := by decide +kernel
theorem dJ0_getBytes_840e7_14 : decode cJ0_getBytes_840e7 14 = .ok (.iload_n 2, 1) := by decide +kernel
theorem dJ0_getBytes_840e7_15 : decode cJ0_getBytes_840e7 15 = .ok (.iload_n 3, 1) := by decide +kernel
theorem dJ0_getBytes_840e7_16 : decode cJ0_getBytes_840e7 16 = .ok (.ishl, 1) := by decide +kernel
theorem dJ0_getBytes_840e7_17 : decode cJ0_getBytes_840e7 17 = .ok (.aload_n 0, 1) := by decide +kernel
theorem dJ0_getBytes_840e7_18 : decode cJ0_getBytes_840e7 18 = .ok (.getfield 9, 3) := by decide +kernel
theorem dJ0_getBytes_840e7_21 : decode cJ0_getBytes_840e7 21 = .ok (.arraylength, 1) := by decide +kernel
theorem dJ0_getBytes_840e7_22 : decode cJ0_getBytes_840e7 22 = .ok (.invokestatic 212, 3) := by decide +kernel
theorem dJ0_getBytes_840e7_25 : decode cJ0_getBytes_840e7 25 = .ok (.goto 18, 3) := by decide +kernel
theorem dJ0_getBytes_840e7_28 : decode cJ0_getBytes_840e7 28 = .ok (.aload_n 0, 1) := by decide +kernel
theorem dJ0_getBytes_840e7_29 : decode cJ0_getBytes_840e7 29 = .ok (.getfield 9, 3) := by decide +kernel
theorem dJ0_getBytes_840e7_32 : decode cJ0_getBytes_840e7 32 = .ok (.iconst 0, 1) := by decide +kernel
theorem dJ0_getBytes_840e7_33 : decode cJ0_getBytes_840e7 33 = .ok (.aload_n 1, 1) := by decide +kernel
theorem dJ0_getBytes_840e7_34 : decode cJ0_getBytes_840e7 34 = .ok (.iload_n 2, 1) := by decide +kernel
theorem dJ0_getBytes_840e7_35 : decode cJ0_getBytes_840e7 35 = .ok (.aload_n 0, 1) := by decide +kernel
theorem dJ0_getBytes_840e7_36 : decode cJ0_getBytes_840e7 36 = .ok (.getfield 9, 3) := by decide +kernel
theorem dJ0_getBytes_840e7_39 : decode cJ0_getBytes_840e7 39 = .ok (.arraylength, 1) := by decide +kernel
theorem dJ0_getBytes_840e7_40 : decode cJ0_getBytes_840e7 40 = .ok (.invokestatic 106, 3) := by decide +kernel
theorem dJ0_getBytes_840e7_43 : decode cJ0_getBytes_840e7 43 = .ok (.return_, 1) := by decide +kernel
theorem dJ0_init_db425_0 : decode cJ0_init_db425 0 = .ok (.aload_n 0, 1) := by decide +kernel
theorem dJ0_init_db425_1 : decode cJ0_init_db425 1 = .ok (.invokespecial 1, 3) := by decide +kernel
theorem dJ0_init_db425_4 : decode cJ0_init_db425 4 = .ok (.aload_n 1, 1) := by decide +kernel
theorem dJ0_init_db425_5 : decode cJ0_init_db425 5 = .ok (.invokevirtual 552, 3) := by decide +kernel
theorem dJ0_init_db425_8 : decode cJ0_init_db425 8 = .ok (.astore_n 3, 1) := by decide +kernel
theorem dJ0_init_db425_9 : decode cJ0_init_db425 9 = .ok (.aload_n 1, 1) := by decide +kernel
theorem dJ0_init_db425_10 : decode cJ0_init_db425 10 = .ok (.invokevirtual 549, 3) := by decide +kernel
theorem dJ0_init_db425_13 : decode cJ0_init_db425 13 = .ok (.istore 4, 2) := by decide +kernel
theorem dJ0_init_db425_15 : decode cJ0_init_db425 15 = .ok (.aload_n 1, 1) := by decide +kernel
theorem dJ0_init_db425_16 : decode cJ0_init_db425 16 = .ok (.invokevirtual 1047, 3) := by decide +kernel
theorem dJ0_init_db425_19 : decode cJ0_init_db425 19 = .ok (.ifCond .eq 22, 3) := by decide +kernel
theorem dJ0_init_db425_22 : decode cJ0_init_db425 22 = .ok (.aload_n 0, 1) := by decide +kernel
theorem dJ0_init_db425_23 : decode cJ0_init_db425 23 = .ok (.iconst 0, 1) := by decide +kernel
theorem dJ0_init_db425_24 : decode cJ0_init_db425 24 = .ok (.putfield 15, 3) := by decide +kernel
theorem dJ0_init_db425_27 : decode cJ0_init_db425 27 = .ok (.aload_n 0, 1) := by decide +kernel
theorem dJ0_init_db425_28 : decode cJ0_init_db425 28 = .ok (.aload_n 3, 1) := by decide +kernel
theorem dJ0_init_db425_29 : decode cJ0_init_db425 29 = .ok (.iconst 0, 1) := by decide +kernel
theorem dJ0_init_db425_30 : decode cJ0_init_db425 30 = .ok (.iload 4, 2) := by decide +kernel
theorem dJ0_init_db425_32 : decode cJ0_init_db425 32 = .ok (.invokestatic 54, 3) := by decide +kernel
theorem dJ0_init_db425_35 : decode cJ0_init_db425 35 = .ok (.putfield 9, 3) := by decide +kernel
theorem dJ0_init_db425_38 : decode cJ0_init_db425 38 = .ok (.goto 59, 3) := by decide +kernel
theorem dJ0_init_db425_41 : decode cJ0_init_db425 41 = .ok (.getstatic 38, 3) := by decide +kernel
theorem dJ0_init_db425_44 : decode cJ0_init_db425 44 = .ok (.ifCond .eq 35, 3) := by decide +kernel
theorem dJ0_init_db425_47 : decode cJ0_init_db425 47 = .ok (.aload_n 1, 1) := by decide +kernel
theorem dJ0_init_db425_48 : decode cJ0_init_db425 48 = .ok (.getfield 1048, 3) := by decide +kernel
theorem dJ0_init_db425_51 : decode cJ0_init_db425 51 = .ok (.ifCond .eq 28, 3) := by decide +kernel
theorem dJ0_init_db425_54 : decode cJ0_init_db425 54 = .ok (.aload_n 0, 1) := by decide +kernel
theorem dJ0_init_db425_55 : decode cJ0_init_db425 55 = .ok (.aload_n 3, 1) := by decide +kernel
theorem dJ0_init_db425_56 : decode cJ0_init_db425 56 = .ok (.iconst 0, 1) := by decide +kernel
theorem dJ0_init_db425_57 : decode cJ0_init_db425 57 = .ok (.iload 4, 2) := by decide +kernel
theorem dJ0_init_db425_59 : decode cJ0_init_db425 59 = .ok (.invokestatic 1051, 3) := by decide +kernel
theorem dJ0_init_db425_62 : decode cJ0_init_db425 62 = .ok (.putfield 9, 3) := by decide +kernel
theorem dJ0_init_db425_65 : decode cJ0_init_db425 65 = .ok (.aload_n 0, 1) := by decide +kernel
theorem dJ0_init_db425_66 : decode cJ0_init_db425 66 = .ok (.aload_n 0, 1) := by decide +kernel
theorem dJ0_init_db425_67 : decode cJ0_init_db425 67 = .ok (.getfield 9, 3) := by decide +kernel
theorem dJ0_init_db425_70 : decode cJ0_init_db425 70 = .ok (.iload 4, 2) := by decide +kernel
theorem dJ0_init_db425_72 : decode cJ0_init_db425 72 = .ok (.invokestatic 47, 3) := by decide +kernel
theorem dJ0_init_db425_75 : decode cJ0_init_db425 75 = .ok (.putfield 15, 3) := by decide +kernel
theorem dJ0_init_db425_78 : decode cJ0_init_db425 78 = .ok (.return_, 1) := by decide +kernel
theorem dJ0_init_db425_79 : decode cJ0_init_db425 79 = .ok (.aload_n 0, 1) := by decide +kernel
theorem dJ0_init_db425_80 : decode cJ0_init_db425 80 = .ok (.iconst 1, 1) := by decide +kernel
theorem dJ0_init_db425_81 : decode cJ0_init_db425 81 = .ok (.putfield 15, 3) := by decide +kernel
theorem dJ0_init_db425_84 : decode cJ0_init_db425 84 = .ok (.aload_n 0, 1) := by decide +kernel
theorem dJ0_init_db425_85 : decode cJ0_init_db425 85 = .ok (.aload_n 3, 1) := by decide +kernel
theorem dJ0_init_db425_86 : decode cJ0_init_db425 86 = .ok (.iconst 0, 1) := by decide +kernel
theorem dJ0_init_db425_87 : decode cJ0_init_db425 87 = .ok (.iload 4, 2) := by decide +kernel
theorem dJ0_init_db425_89 : decode cJ0_init_db425 89 = .ok (.iconst 1, 1) := by decide +kernel
theorem dJ0_init_db425_90 : decode cJ0_init_db425 90 = .ok (.ishl, 1) := by decide +kernel
theorem dJ0_init_db425_91 : decode cJ0_init_db425 91 = .ok (.invokestatic 54, 3) := by decide +kernel
theorem dJ0_init_db425_94 : decode cJ0_init_db425 94 = .ok (.putfield 9, 3) := by decide +kernel
theorem dJ0_init_db425_97 : decode cJ0_init_db425 97 = .ok (.return_, 1) := by decide +kernel
theorem dJ0_coder_7d493_0 : decode cJ0_coder_7d493 0 = .ok (.getstatic 38, 3) := by decide +kernel
theorem dJ0_coder_7d493_3 : decode cJ0_coder_7d493 3 = .ok (.ifCond .eq 10, 3) := by decide +kernel
theorem dJ0_coder_7d493_6 : decode cJ0_coder_7d493 6 = .ok (.aload_n 0, 1) := by decide +kernel
theorem dJ0_coder_7d493_7 : decode cJ0_coder_7d493 7 = .ok (.getfield 15, 3) := by decide +kernel
theorem dJ0_coder_7d493_10 : decode cJ0_coder_7d493 10 = .ok (.goto 4, 3) := by decide +kernel
theorem dJ0_coder_7d493_13 : decode cJ0_coder_7d493 13 = .ok (.iconst 1, 1) := by decide +kernel
theorem dJ0_coder_7d493_14 : decode cJ0_coder_7d493 14 = .ok (.ireturn, 1) := by decide +kernel
theorem dJ0_isLatin1_aae02_0 : decode cJ0_isLatin1_aae02 0 = .ok (.getstatic 38, 3) := by decide +kernel
theorem dJ0_isLatin1_aae02_3 : decode cJ0_isLatin1_aae02 3 = .ok (.ifCond .eq 14, 3) := by decide +kernel
theorem dJ0_isLatin1_aae02_6 : decode cJ0_isLatin1_aae02 6 = .ok (.aload_n 0, 1) := by decide +kernel
theorem dJ0_isLatin1_aae02_7 : decode cJ0_isLatin1_aae02 7 = .ok (.getfield 15, 3) := by decide +kernel
theorem dJ0_isLatin1_aae02_10 : decode cJ0_isLatin1_aae02 10 = .ok (.ifCond .ne 7, 3) := by decide +kernel
theorem dJ0_isLatin1_aae02_13 : decode cJ0_isLatin1_aae02 13 = .ok (.iconst 1, 1) := by decide +kernel
theorem dJ0_isLatin1_aae02_14 : decode cJ0_isLatin1_aae02 14 = .ok (.goto 4, 3) := by decide +kernel
theorem dJ0_isLatin1_aae02_17 : decode cJ0_isLatin1_aae02 17 = .ok (.iconst 0, 1) := by decide +kernel
theorem dJ0_isLatin1_aae02_18 : decode cJ0_isLatin1_aae02 18 = .ok (.ireturn, 1) := by decide +kernel
theorem dJ0_checkIndex_df160_0 : decode cJ0_checkIndex_df160 0 = .ok (.iload_n 0, 1) := by decide +kernel
theorem dJ0_checkIndex_df160_1 : decode cJ0_checkIndex_df160 1 = .ok (.iload_n 1, 1) := by decide +kernel
theorem dJ0_checkIndex_df160_2 : decode cJ0_checkIndex_df160 2 = .ok (.getstatic 1053, 3) := by decide +kernel
theorem dJ0_checkIndex_df160_5 : decode cJ0_checkIndex_df160 5 = .ok (.invokestatic 1059, 3) := by decide +kernel
theorem dJ0_checkIndex_df160_8 : decode cJ0_checkIndex_df160 8 = .ok (.pop, 1) := by decide +kernel
theorem dJ0_checkIndex_df160_9 : decode cJ0_checkIndex_df160 9 = .ok (.return_, 1) := by decide +kernel
theorem dJ4_init_da8c8_0 : decode cJ4_init_da8c8 0 = .ok (.aload_n 0, 1) := by decide +kernel
theorem dJ4_init_da8c8_1 : decode cJ4_init_da8c8 1 = .ok (.bipush 16, 2) := by decide +kernel
theorem dJ4_init_da8c8_3 : decode cJ4_init_da8c8 3 = .ok (.invokespecial 1, 3) := by decide +kernel
theorem dJ4_init_da8c8_6 : decode cJ4_init_da8c8 6 = .ok (.return_, 1) := by decide +kernel
theorem dJ4_append_15ec4_0 : decode cJ4_append_15ec4 0 = .ok (.aload_n 0, 1) := by decide +kernel
theorem dJ4_append_15ec4_1 : decode cJ4_append_15ec4 1 = .ok (.aload_n 1, 1) := by decide +kernel
theorem dJ4_append_15ec4_2 : decode cJ4_append_15ec4 2 = .ok (.invokespecial 29, 3) := by decide +kernel
theorem dJ4_append_15ec4_5 : decode cJ4_append_15ec4 5 = .ok (.pop, 1) := by decide +kernel
theorem dJ4_append_15ec4_6 : decode cJ4_append_15ec4 6 = .ok (.aload_n 0, 1) := by decide +kernel
theorem dJ4_append_15ec4_7 : decode cJ4_append_15ec4 7 = .ok (.areturn, 1) := by decide +kernel
theorem dJ4_append_bf812_0 : decode cJ4_append_bf812 0 = .ok (.aload_n 0, 1) := by decide +kernel
theorem dJ4_append_bf812_1 : decode cJ4_append_bf812 1 = .ok (.iload_n 1, 1) := by decide +kernel
theorem dJ4_append_bf812_2 : decode cJ4_append_bf812 2 = .ok (.invokespecial 53, 3) := by decide +kernel
theorem dJ4_append_bf812_5 : decode cJ4_append_bf812 5 = .ok (.pop, 1) := by decide +kernel
theorem dJ4_append_bf812_6 : decode cJ4_append_bf812 6 = .ok (.aload_n 0, 1) := by decide +kernel
theorem dJ4_append_bf812_7 : decode cJ4_append_bf812 7 = .ok (.areturn, 1) := by decide +kernel
theorem dJ4_toString_0e30d_0 : decode cJ4_toString_0e30d 0 = .ok (.new 18, 3) := by decide +kernel
theorem dJ4_toString_0e30d_3 : decode cJ4_toString_0e30d 3 = .ok (.dup, 1) := by decide +kernel
theorem dJ4_toString_0e30d_4 : decode cJ4_toString_0e30d 4 = .ok (.aload_n 0, 1) := by decide +kernel
theorem dJ4_toString_0e30d_5 : decode cJ4_toString_0e30d 5 = .ok (.invokespecial 137, 3) := by decide +kernel
theorem dJ4_toString_0e30d_8 : decode cJ4_toString_0e30d 8 = .ok (.areturn, 1) := by decide +kernel
theorem dJ4_length_8abf5_0 : decode cJ4_length_8abf5 0 = .ok (.aload_n 0, 1) := by decide +kernel
theorem dJ4_length_8abf5_1 : decode cJ4_length_8abf5 1 = .ok (.invokespecial 343, 3) := by decide +kernel
theorem dJ4_length_8abf5_4 : decode cJ4_length_8abf5 4 = .ok (.ireturn, 1) := by decide +kernel
theorem dJ1_charAt_3b067_0 : decode cJ1_charAt_3b067 0 = .ok (.iload_n 1, 1) := by decide +kernel
theorem dJ1_charAt_3b067_1 : decode cJ1_charAt_3b067 1 = .ok (.aload_n 0, 1) := by decide +kernel
theorem dJ1_charAt_3b067_2 : decode cJ1_charAt_3b067 2 = .ok (.arraylength, 1) := by decide +kernel
theorem dJ1_charAt_3b067_3 : decode cJ1_charAt_3b067 3 = .ok (.invokestatic 9, 3) := by decide +kernel
theorem dJ1_charAt_3b067_6 : decode cJ1_charAt_3b067 6 = .ok (.aload_n 0, 1) := by decide +kernel
theorem dJ1_charAt_3b067_7 : decode cJ1_charAt_3b067 7 = .ok (.iload_n 1, 1) := by decide +kernel
theorem dJ1_charAt_3b067_8 : decode cJ1_charAt_3b067 8 = .ok (.baload, 1) := by decide +kernel
theorem dJ1_charAt_3b067_9 : decode cJ1_charAt_3b067 9 = .ok (.sipush 255, 3) := by decide +kernel
theorem dJ1_charAt_3b067_12 : decode cJ1_charAt_3b067 12 = .ok (.iand, 1) := by decide +kernel
theorem dJ1_charAt_3b067_13 : decode cJ1_charAt_3b067 13 = .ok (.i2c, 1) := by decide +kernel
theorem dJ1_charAt_3b067_14 : decode cJ1_charAt_3b067 14 = .ok (.ireturn, 1) := by decide +kernel
theorem dJ7_copyOf_9075b_0 : decode cJ7_copyOf_9075b 0 = .ok (.iload_n 1, 1) := by decide +kernel
theorem dJ7_copyOf_9075b_1 : decode cJ7_copyOf_9075b 1 = .ok (.aload_n 0, 1) := by decide +kernel
theorem dJ7_copyOf_9075b_2 : decode cJ7_copyOf_9075b 2 = .ok (.arraylength, 1) := by decide +kernel
theorem dJ7_copyOf_9075b_3 : decode cJ7_copyOf_9075b 3 = .ok (.if_icmp .ne 11, 3) := by decide +kernel
theorem dJ7_copyOf_9075b_6 : decode cJ7_copyOf_9075b 6 = .ok (.aload_n 0, 1) := by decide +kernel
theorem dJ7_copyOf_9075b_7 : decode cJ7_copyOf_9075b 7 = .ok (.invokevirtual 310, 3) := by decide +kernel
theorem dJ7_copyOf_9075b_10 : decode cJ7_copyOf_9075b 10 = .ok (.checkcast 311, 3) := by decide +kernel
theorem dJ7_copyOf_9075b_13 : decode cJ7_copyOf_9075b 13 = .ok (.areturn, 1) := by decide +kernel
theorem dJ7_copyOf_9075b_14 : decode cJ7_copyOf_9075b 14 = .ok (.iload_n 1, 1) := by decide +kernel
theorem dJ7_copyOf_9075b_15 : decode cJ7_copyOf_9075b 15 = .ok (.newarray .byte, 2) := by decide +kernel
theorem dJ7_copyOf_9075b_17 : decode cJ7_copyOf_9075b 17 = .ok (.astore_n 2, 1) := by decide +kernel
theorem dJ7_copyOf_9075b_18 : decode cJ7_copyOf_9075b 18 = .ok (.aload_n 0, 1) := by decide +kernel
theorem dJ7_copyOf_9075b_19 : decode cJ7_copyOf_9075b 19 = .ok (.iconst 0, 1) := by decide +kernel
theorem dJ7_copyOf_9075b_20 : decode cJ7_copyOf_9075b 20 = .ok (.aload_n 2, 1) := by decide +kernel
theorem dJ7_copyOf_9075b_21 : decode cJ7_copyOf_9075b 21 = .ok (.iconst 0, 1) := by decide +kernel
theorem dJ7_copyOf_9075b_22 : decode cJ7_copyOf_9075b 22 = .ok (.aload_n 0, 1) := by decide +kernel
theorem dJ7_copyOf_9075b_23 : decode cJ7_copyOf_9075b 23 = .ok (.arraylength, 1) := by decide +kernel
theorem dJ7_copyOf_9075b_24 : decode cJ7_copyOf_9075b 24 = .ok (.iload_n 1, 1) := by decide +kernel
theorem dJ7_copyOf_9075b_25 : decode cJ7_copyOf_9075b 25 = .ok (.invokestatic 304, 3) := by decide +kernel
theorem dJ7_copyOf_9075b_28 : decode cJ7_copyOf_9075b 28 = .ok (.invokestatic 150, 3) := by decide +kernel
theorem dJ7_copyOf_9075b_31 : decode cJ7_copyOf_9075b 31 = .ok (.aload_n 2, 1) := by decide +kernel
theorem dJ7_copyOf_9075b_32 : decode cJ7_copyOf_9075b 32 = .ok (.areturn, 1) := by decide +kernel
theorem dJ7_checkLength_df160_0 : decode cJ7_checkLength_df160 0 = .ok (.iload_n 1, 1) := by decide +kernel
theorem dJ7_checkLength_df160_1 : decode cJ7_checkLength_df160 1 = .ok (.iload_n 0, 1) := by decide +kernel
theorem dJ7_checkLength_df160_2 : decode cJ7_checkLength_df160 2 = .ok (.if_icmp .ge 35, 3) := by decide +kernel
theorem dJ7_checkLength_df160_5 : decode cJ7_checkLength_df160 5 = .ok (.new 43, 3) := by decide +kernel
theorem dJ7_checkLength_df160_8 : decode cJ7_checkLength_df160 8 = .ok (.dup, 1) := by decide +kernel
theorem dJ7_checkLength_df160_9 : decode cJ7_checkLength_df160 9 = .ok (.new 45, 3) := by decide +kernel
theorem dJ7_checkLength_df160_12 : decode cJ7_checkLength_df160 12 = .ok (.dup, 1) := by decide +kernel
theorem dJ7_checkLength_df160_13 : decode cJ7_checkLength_df160 13 = .ok (.invokespecial 47, 3) := by decide +kernel
theorem dJ7_checkLength_df160_16 : decode cJ7_checkLength_df160 16 = .ok (.iload_n 0, 1) := by decide +kernel
theorem dJ7_checkLength_df160_17 : decode cJ7_checkLength_df160 17 = .ok (.invokevirtual 54, 3) := by decide +kernel
theorem dJ7_checkLength_df160_20 : decode cJ7_checkLength_df160 20 = .ok (.ldc_w 337, 3) := by decide +kernel
theorem dJ7_checkLength_df160_23 : decode cJ7_checkLength_df160 23 = .ok (.invokevirtual 50, 3) := by decide +kernel
theorem dJ7_checkLength_df160_26 : decode cJ7_checkLength_df160 26 = .ok (.iload_n 1, 1) := by decide +kernel
theorem dJ7_checkLength_df160_27 : decode cJ7_checkLength_df160 27 = .ok (.invokevirtual 54, 3) := by decide +kernel
theorem dJ7_checkLength_df160_30 : decode cJ7_checkLength_df160 30 = .ok (.invokevirtual 61, 3) := by decide +kernel
theorem dJ7_checkLength_df160_33 : decode cJ7_checkLength_df160 33 = .ok (.invokespecial 65, 3) := by decide +kernel
theorem dJ7_checkLength_df160_36 : decode cJ7_checkLength_df160 36 = .ok (.athrow, 1) := by decide +kernel
theorem dJ7_checkLength_df160_37 : decode cJ7_checkLength_df160 37 = .ok (.return_, 1) := by decide +kernel
theorem dJ7_copyOfRange_39247_0 : decode cJ7_copyOfRange_39247 0 = .ok (.iload_n 1, 1) := by decide +kernel
theorem dJ7_copyOfRange_39247_1 : decode cJ7_copyOfRange_39247 1 = .ok (.ifCond .ne 9, 3) := by decide +kernel
theorem dJ7_copyOfRange_39247_4 : decode cJ7_copyOfRange_39247 4 = .ok (.iload_n 2, 1) := by decide +kernel
theorem dJ7_copyOfRange_39247_5 : decode cJ7_copyOfRange_39247 5 = .ok (.aload_n 0, 1) := by decide +kernel
theorem dJ7_copyOfRange_39247_6 : decode cJ7_copyOfRange_39247 6 = .ok (.arraylength, 1) := by decide +kernel
theorem dJ7_copyOfRange_39247_7 : decode cJ7_copyOfRange_39247 7 = .ok (.if_icmp .eq 10, 3) := by decide +kernel
theorem dJ7_copyOfRange_39247_10 : decode cJ7_copyOfRange_39247 10 = .ok (.aload_n 0, 1) := by decide +kernel
theorem dJ7_copyOfRange_39247_11 : decode cJ7_copyOfRange_39247 11 = .ok (.iload_n 1, 1) := by decide +kernel
theorem dJ7_copyOfRange_39247_12 : decode cJ7_copyOfRange_39247 12 = .ok (.iload_n 2, 1) := by decide +kernel
theorem dJ7_copyOfRange_39247_13 : decode cJ7_copyOfRange_39247 13 = .ok (.invokestatic 339, 3) := by decide +kernel
theorem dJ7_copyOfRange_39247_16 : decode cJ7_copyOfRange_39247 16 = .ok (.areturn, 1) := by decide +kernel
theorem dJ7_copyOfRange_39247_17 : decode cJ7_copyOfRange_39247 17 = .ok (.aload_n 0, 1) := by decide +kernel
theorem dJ7_copyOfRange_39247_18 : decode cJ7_copyOfRange_39247 18 = .ok (.invokevirtual 310, 3) := by decide +kernel
theorem dJ7_copyOfRange_39247_21 : decode cJ7_copyOfRange_39247 21 = .ok (.checkcast 311, 3) := by decide +kernel
theorem dJ7_copyOfRange_39247_24 : decode cJ7_copyOfRange_39247 24 = .ok (.areturn, 1) := by decide +kernel
theorem dJ7_copyOfRangeByte_39247_0 : decode cJ7_copyOfRangeByte_39247 0 = .ok (.iload_n 1, 1) := by decide +kernel
theorem dJ7_copyOfRangeByte_39247_1 : decode cJ7_copyOfRangeByte_39247 1 = .ok (.iload_n 2, 1) := by decide +kernel
theorem dJ7_copyOfRangeByte_39247_2 : decode cJ7_copyOfRangeByte_39247 2 = .ok (.invokestatic 343, 3) := by decide +kernel
theorem dJ7_copyOfRangeByte_39247_5 : decode cJ7_copyOfRangeByte_39247 5 = .ok (.iload_n 2, 1) := by decide +kernel
theorem dJ7_copyOfRangeByte_39247_6 : decode cJ7_copyOfRangeByte_39247 6 = .ok (.iload_n 1, 1) := by decide +kernel
theorem dJ7_copyOfRangeByte_39247_7 : decode cJ7_copyOfRangeByte_39247 7 = .ok (.isub, 1) := by decide +kernel
theorem dJ7_copyOfRangeByte_39247_8 : decode cJ7_copyOfRangeByte_39247 8 = .ok (.istore_n 3, 1) := by decide +kernel
theorem dJ7_copyOfRangeByte_39247_9 : decode cJ7_copyOfRangeByte_39247 9 = .ok (.iload_n 3, 1) := by decide +kernel
theorem dJ7_copyOfRangeByte_39247_10 : decode cJ7_copyOfRangeByte_39247 10 = .ok (.newarray .byte, 2) := by decide +kernel
theorem dJ7_copyOfRangeByte_39247_12 : decode cJ7_copyOfRangeByte_39247 12 = .ok (.astore 4, 2) := by decide +kernel
theorem dJ7_copyOfRangeByte_39247_14 : decode cJ7_copyOfRangeByte_39247 14 = .ok (.aload_n 0, 1) := by decide +kernel
theorem dJ7_copyOfRangeByte_39247_15 : decode cJ7_copyOfRangeByte_39247 15 = .ok (.iload_n 1, 1) := by decide +kernel
theorem dJ7_copyOfRangeByte_39247_16 : decode cJ7_copyOfRangeByte_39247 16 = .ok (.aload 4, 2) := by decide +kernel
theorem dJ7_copyOfRangeByte_39247_18 : decode cJ7_copyOfRangeByte_39247 18 = .ok (.iconst 0, 1) := by decide +kernel
theorem dJ7_copyOfRangeByte_39247_19 : decode cJ7_copyOfRangeByte_39247 19 = .ok (.aload_n 0, 1) := by decide +kernel
theorem dJ7_copyOfRangeByte_39247_20 : decode cJ7_copyOfRangeByte_39247 20 = .ok (.arraylength, 1) := by decide +kernel
theorem dJ7_copyOfRangeByte_39247_21 : decode cJ7_copyOfRangeByte_39247 21 = .ok (.iload_n 1, 1) := by decide +kernel
theorem dJ7_copyOfRangeByte_39247_22 : decode cJ7_copyOfRangeByte_39247 22 = .ok (.isub, 1) := by decide +kernel
theorem dJ7_copyOfRangeByte_39247_23 : decode cJ7_copyOfRangeByte_39247 23 = .ok (.iload_n 3, 1) := by decide +kernel
theorem dJ7_copyOfRangeByte_39247_24 : decode cJ7_copyOfRangeByte_39247 24 = .ok (.invokestatic 304, 3) := by decide +kernel
theorem dJ7_copyOfRangeByte_39247_27 : decode cJ7_copyOfRangeByte_39247 27 = .ok (.invokestatic 150, 3) := by decide +kernel
theorem dJ7_copyOfRangeByte_39247_30 : decode cJ7_copyOfRangeByte_39247 30 = .ok (.aload 4, 2) := by decide +kernel
theorem dJ7_copyOfRangeByte_39247_32 : decode cJ7_copyOfRangeByte_39247 32 = .ok (.areturn, 1) := by decide +kernel
theorem dJ8_newLength_cabcc_0 : decode cJ8_newLength_cabcc 0 = .ok (.iload_n 0, 1) := by decide +kernel
theorem dJ8_newLength_cabcc_1 : decode cJ8_newLength_cabcc 1 = .ok (.iload_n 1, 1) := by decide +kernel
theorem dJ8_newLength_cabcc_2 : decode cJ8_newLength_cabcc 2 = .ok (.iload_n 2, 1) := by decide +kernel
theorem dJ8_newLength_cabcc_3 : decode cJ8_newLength_cabcc 3 = .ok (.invokestatic 194, 3) := by decide +kernel
theorem dJ8_newLength_cabcc_6 : decode cJ8_newLength_cabcc 6 = .ok (.iadd, 1) := by decide +kernel
theorem dJ8_newLength_cabcc_7 : decode cJ8_newLength_cabcc 7 = .ok (.istore_n 3, 1) := by decide +kernel
theorem dJ8_newLength_cabcc_8 : decode cJ8_newLength_cabcc 8 = .ok (.iconst 0, 1) := by decide +kernel
theorem dJ8_newLength_cabcc_9 : decode cJ8_newLength_cabcc 9 = .ok (.iload_n 3, 1) := by decide +kernel
theorem dJ8_newLength_cabcc_10 : decode cJ8_newLength_cabcc 10 = .ok (.if_icmp .ge 11, 3) := by decide +kernel
theorem dJ8_newLength_cabcc_13 : decode cJ8_newLength_cabcc 13 = .ok (.iload_n 3, 1) := by decide +kernel
theorem dJ8_newLength_cabcc_14 : decode cJ8_newLength_cabcc 14 = .ok (.ldc 200, 2) := by decide +kernel
theorem dJ8_newLength_cabcc_16 : decode cJ8_newLength_cabcc 16 = .ok (.if_icmp .gt 5, 3) := by decide +kernel
theorem dJ8_newLength_cabcc_19 : decode cJ8_newLength_cabcc 19 = .ok (.iload_n 3, 1) := by decide +kernel
theorem dJ8_newLength_cabcc_20 : decode cJ8_newLength_cabcc 20 = .ok (.ireturn, 1) := by decide +kernel
theorem dJ8_newLength_cabcc_21 : decode cJ8_newLength_cabcc 21 = .ok (.iload_n 0, 1) := by decide +kernel
theorem dJ8_newLength_cabcc_22 : decode cJ8_newLength_cabcc 22 = .ok (.iload_n 1, 1) := by decide +kernel
theorem dJ8_newLength_cabcc_23 : decode cJ8_newLength_cabcc 23 = .ok (.invokestatic 201, 3) := by decide +kernel
theorem dJ8_newLength_cabcc_26 : decode cJ8_newLength_cabcc 26 = .ok (.ireturn, 1) := by decide +kernel
theorem dJ3_checkIndex_8e157_0 : decode cJ3_checkIndex_8e157 0 = .ok (.iload_n 0, 1) := by decide +kernel
theorem dJ3_checkIndex_8e157_1 : decode cJ3_checkIndex_8e157 1 = .ok (.ifCond .lt 8, 3) := by decide +kernel
theorem dJ3_checkIndex_8e157_4 : decode cJ3_checkIndex_8e157 4 = .ok (.iload_n 0, 1) := by decide +kernel
theorem dJ3_checkIndex_8e157_5 : decode cJ3_checkIndex_8e157 5 = .ok (.iload_n 1, 1) := by decide +kernel
theorem dJ3_checkIndex_8e157_6 : decode cJ3_checkIndex_8e157 6 = .ok (.if_icmp .lt 10, 3) := by decide +kernel
theorem dJ3_checkIndex_8e157_9 : decode cJ3_checkIndex_8e157 9 = .ok (.aload_n 2, 1) := by decide +kernel
theorem dJ3_checkIndex_8e157_10 : decode cJ3_checkIndex_8e157 10 = .ok (.iload_n 0, 1) := by decide +kernel
theorem dJ3_checkIndex_8e157_11 : decode cJ3_checkIndex_8e157 11 = .ok (.iload_n 1, 1) := by decide +kernel
theorem dJ3_checkIndex_8e157_12 : decode cJ3_checkIndex_8e157 12 = .ok (.invokestatic 95, 3) := by decide +kernel
theorem dJ3_checkIndex_8e157_15 : decode cJ3_checkIndex_8e157 15 = .ok (.athrow, 1) := by decide +kernel
theorem dJ3_checkIndex_8e157_16 : decode cJ3_checkIndex_8e157 16 = .ok (.iload_n 0, 1) := by decide +kernel
theorem dJ3_checkIndex_8e157_17 : decode cJ3_checkIndex_8e157 17 = .ok (.ireturn, 1) := by decide +kernel
end
section
/-! decode rows: the law -/
theorem dL_below_0 : decode cL_below 0 = .ok (.iload_n 0, 1) := by decide +kernel
theorem dL_below_1 : decode cL_below 1 = .ok (.ldc 7, 2) := by decide +kernel
theorem dL_below_3 : decode cL_below 3 = .ok (.iand, 1) := by decide +kernel
theorem dL_below_4 : decode cL_below 4 = .ok (.iload_n 1, 1) := by decide +kernel
theorem dL_below_5 : decode cL_below 5 = .ok (.irem, 1) := by decide +kernel
theorem dL_below_6 : decode cL_below 6 = .ok (.ireturn, 1) := by decide +kernel
theorem dL_cell_0 : decode cL_cell 0 = .ok (.iload_n 1, 1) := by decide +kernel
theorem dL_cell_1 : decode cL_cell 1 = .ok (.aload_n 0, 1) := by decide +kernel
theorem dL_cell_2 : decode cL_cell 2 = .ok (.arraylength, 1) := by decide +kernel
theorem dL_cell_3 : decode cL_cell 3 = .ok (.if_icmp .ge 9, 3) := by decide +kernel
theorem dL_cell_6 : decode cL_cell 6 = .ok (.aload_n 0, 1) := by decide +kernel
theorem dL_cell_7 : decode cL_cell 7 = .ok (.iload_n 1, 1) := by decide +kernel
theorem dL_cell_8 : decode cL_cell 8 = .ok (.iaload, 1) := by decide +kernel
theorem dL_cell_9 : decode cL_cell 9 = .ok (.goto 9, 3) := by decide +kernel
theorem dL_cell_12 : decode cL_cell 12 = .ok (.ldc 8, 2) := by decide +kernel
theorem dL_cell_14 : decode cL_cell 14 = .ok (.iload_n 1, 1) := by decide +kernel
theorem dL_cell_15 : decode cL_cell 15 = .ok (.iconst 3, 1) := by decide +kernel
theorem dL_cell_16 : decode cL_cell 16 = .ok (.iadd, 1) := by decide +kernel
theorem dL_cell_17 : decode cL_cell 17 = .ok (.imul, 1) := by decide +kernel
theorem dL_cell_18 : decode cL_cell 18 = .ok (.ireturn, 1) := by decide +kernel
theorem dL_act_0 : decode cL_act 0 = .ok (.aload_n 1, 1) := by decide +kernel
theorem dL_act_1 : decode cL_act 1 = .ok (.getfield 9, 3) := by decide +kernel
theorem dL_act_4 : decode cL_act 4 = .ok (.arraylength, 1) := by decide +kernel
theorem dL_act_5 : decode cL_act 5 = .ok (.istore_n 3, 1) := by decide +kernel
theorem dL_act_6 : decode cL_act 6 = .ok (.aload_n 1, 1) := by decide +kernel
theorem dL_act_7 : decode cL_act 7 = .ok (.getfield 15, 3) := by decide +kernel
theorem dL_act_10 : decode cL_act 10 = .ok (.arraylength, 1) := by decide +kernel
theorem dL_act_11 : decode cL_act 11 = .ok (.istore 4, 2) := by decide +kernel
theorem dL_act_13 : decode cL_act 13 = .ok (.iload_n 2, 1) := by decide +kernel
theorem dL_act_14 : decode cL_act 14 = .ok (.bipush 9, 2) := by decide +kernel
theorem dL_act_16 : decode cL_act 16 = .ok (.ishr, 1) := by decide +kernel
theorem dL_act_17 : decode cL_act 17 = .ok (.bipush 20, 2) := by decide +kernel
theorem dL_act_19 : decode cL_act 19 = .ok (.invokestatic 18, 3) := by decide +kernel
theorem dL_act_22 : decode cL_act 22 = .ok (.istore 5, 2) := by decide +kernel
theorem dL_act_24 : decode cL_act 24 = .ok (.iload_n 3, 1) := by decide +kernel
theorem dL_act_25 : decode cL_act 25 = .ok (.ifCond .eq 9, 3) := by decide +kernel
theorem dL_act_28 : decode cL_act 28 = .ok (.iload 5, 2) := by decide +kernel
theorem dL_act_30 : decode cL_act 30 = .ok (.iconst 2, 1) := by decide +kernel
theorem dL_act_31 : decode cL_act 31 = .ok (.if_icmp .ge 75, 3) := by decide +kernel
theorem dL_act_34 : decode cL_act 34 = .ok (.iload_n 3, 1) := by decide +kernel
theorem dL_act_35 : decode cL_act 35 = .ok (.bipush 10, 2) := by decide +kernel
theorem dL_act_37 : decode cL_act 37 = .ok (.if_icmp .ne 5, 3) := by decide +kernel
theorem dL_act_40 : decode cL_act 40 = .ok (.iconst 1, 1) := by decide +kernel
theorem dL_act_41 : decode cL_act 41 = .ok (.ireturn, 1) := by decide +kernel
theorem dL_act_42 : decode cL_act 42 = .ok (.aload_n 1, 1) := by decide +kernel
theorem dL_act_43 : decode cL_act 43 = .ok (.aload_n 1, 1) := by decide +kernel
theorem dL_act_44 : decode cL_act 44 = .ok (.getfield 9, 3) := by decide +kernel
theorem dL_act_47 : decode cL_act 47 = .ok (.iconst 5, 1) := by decide +kernel
theorem dL_act_48 : decode cL_act 48 = .ok (.newarray .int, 2) := by decide +kernel
theorem dL_act_50 : decode cL_act 50 = .ok (.dup, 1) := by decide +kernel
theorem dL_act_51 : decode cL_act 51 = .ok (.iconst 0, 1) := by decide +kernel
theorem dL_act_52 : decode cL_act 52 = .ok (.iconst 1, 1) := by decide +kernel
theorem dL_act_53 : decode cL_act 53 = .ok (.iastore, 1) := by decide +kernel
theorem dL_act_54 : decode cL_act 54 = .ok (.dup, 1) := by decide +kernel
theorem dL_act_55 : decode cL_act 55 = .ok (.iconst 1, 1) := by decide +kernel
theorem dL_act_56 : decode cL_act 56 = .ok (.iload_n 2, 1) := by decide +kernel
theorem dL_act_57 : decode cL_act 57 = .ok (.iconst 2, 1) := by decide +kernel
theorem dL_act_58 : decode cL_act 58 = .ok (.ishr, 1) := by decide +kernel
theorem dL_act_59 : decode cL_act 59 = .ok (.bipush 100, 2) := by decide +kernel
theorem dL_act_61 : decode cL_act 61 = .ok (.invokestatic 18, 3) := by decide +kernel
theorem dL_act_64 : decode cL_act 64 = .ok (.iastore, 1) := by decide +kernel
theorem dL_act_65 : decode cL_act 65 = .ok (.dup, 1) := by decide +kernel
theorem dL_act_66 : decode cL_act 66 = .ok (.iconst 2, 1) := by decide +kernel
theorem dL_act_67 : decode cL_act 67 = .ok (.bipush 100, 2) := by decide +kernel
theorem dL_act_69 : decode cL_act 69 = .ok (.iastore, 1) := by decide +kernel
theorem dL_act_70 : decode cL_act 70 = .ok (.dup, 1) := by decide +kernel
theorem dL_act_71 : decode cL_act 71 = .ok (.iconst 3, 1) := by decide +kernel
theorem dL_act_72 : decode cL_act 72 = .ok (.iconst 0, 1) := by decide +kernel
theorem dL_act_73 : decode cL_act 73 = .ok (.iastore, 1) := by decide +kernel
theorem dL_act_74 : decode cL_act 74 = .ok (.dup, 1) := by decide +kernel
theorem dL_act_75 : decode cL_act 75 = .ok (.iconst 4, 1) := by decide +kernel
theorem dL_act_76 : decode cL_act 76 = .ok (.iconst (-1), 1) := by decide +kernel
theorem dL_act_77 : decode cL_act 77 = .ok (.iastore, 1) := by decide +kernel
theorem dL_act_78 : decode cL_act 78 = .ok (.invokestatic 24, 3) := by decide +kernel
theorem dL_act_81 : decode cL_act 81 = .ok (.putfield 9, 3) := by decide +kernel
theorem dL_act_84 : decode cL_act 84 = .ok (.aload_n 0, 1) := by decide +kernel
theorem dL_act_85 : decode cL_act 85 = .ok (.iload_n 2, 1) := by decide +kernel
theorem dL_act_86 : decode cL_act 86 = .ok (.iconst 2, 1) := by decide +kernel
theorem dL_act_87 : decode cL_act 87 = .ok (.ishr, 1) := by decide +kernel
theorem dL_act_88 : decode cL_act 88 = .ok (.bipush 100, 2) := by decide +kernel
theorem dL_act_90 : decode cL_act 90 = .ok (.invokestatic 18, 3) := by decide +kernel
theorem dL_act_93 : decode cL_act 93 = .ok (.invokevirtual 28, 3) := by decide +kernel
theorem dL_act_96 : decode cL_act 96 = .ok (.iload_n 3, 1) := by decide +kernel
theorem dL_act_97 : decode cL_act 97 = .ok (.if_icmp .ne 7, 3) := by decide +kernel
theorem dL_act_100 : decode cL_act 100 = .ok (.iconst 1, 1) := by decide +kernel
theorem dL_act_101 : decode cL_act 101 = .ok (.goto 4, 3) := by decide +kernel
theorem dL_act_104 : decode cL_act 104 = .ok (.iconst 0, 1) := by decide +kernel
theorem dL_act_105 : decode cL_act 105 = .ok (.ireturn, 1) := by decide +kernel
theorem dL_act_106 : decode cL_act 106 = .ok (.iload 4, 2) := by decide +kernel
theorem dL_act_108 : decode cL_act 108 = .ok (.ifCond .eq 9, 3) := by decide +kernel
theorem dL_act_111 : decode cL_act 111 = .ok (.iload 5, 2) := by decide +kernel
theorem dL_act_113 : decode cL_act 113 = .ok (.iconst 2, 1) := by decide +kernel
theorem dL_act_114 : decode cL_act 114 = .ok (.if_icmp .ne 64, 3) := by decide +kernel
theorem dL_act_117 : decode cL_act 117 = .ok (.iload 4, 2) := by decide +kernel
theorem dL_act_119 : decode cL_act 119 = .ok (.bipush 6, 2) := by decide +kernel
theorem dL_act_121 : decode cL_act 121 = .ok (.if_icmp .ne 5, 3) := by decide +kernel
theorem dL_act_124 : decode cL_act 124 = .ok (.iconst 1, 1) := by decide +kernel
theorem dL_act_125 : decode cL_act 125 = .ok (.ireturn, 1) := by decide +kernel
theorem dL_act_126 : decode cL_act 126 = .ok (.aload_n 1, 1) := by decide +kernel
theorem dL_act_127 : decode cL_act 127 = .ok (.aload_n 1, 1) := by decide +kernel
theorem dL_act_128 : decode cL_act 128 = .ok (.getfield 15, 3) := by decide +kernel
theorem dL_act_131 : decode cL_act 131 = .ok (.iconst 2, 1) := by decide +kernel
theorem dL_act_132 : decode cL_act 132 = .ok (.newarray .int, 2) := by decide +kernel
theorem dL_act_134 : decode cL_act 134 = .ok (.dup, 1) := by decide +kernel
theorem dL_act_135 : decode cL_act 135 = .ok (.iconst 0, 1) := by decide +kernel
theorem dL_act_136 : decode cL_act 136 = .ok (.iload_n 2, 1) := by decide +kernel
theorem dL_act_137 : decode cL_act 137 = .ok (.iconst 2, 1) := by decide +kernel
theorem dL_act_138 : decode cL_act 138 = .ok (.ishr, 1) := by decide +kernel
theorem dL_act_139 : decode cL_act 139 = .ok (.bipush 10, 2) := by decide +kernel
theorem dL_act_141 : decode cL_act 141 = .ok (.invokestatic 18, 3) := by decide +kernel
theorem dL_act_144 : decode cL_act 144 = .ok (.iastore, 1) := by decide +kernel
theorem dL_act_145 : decode cL_act 145 = .ok (.dup, 1) := by decide +kernel
theorem dL_act_146 : decode cL_act 146 = .ok (.iconst 1, 1) := by decide +kernel
theorem dL_act_147 : decode cL_act 147 = .ok (.iconst 1, 1) := by decide +kernel
theorem dL_act_148 : decode cL_act 148 = .ok (.iastore, 1) := by decide +kernel
theorem dL_act_149 : decode cL_act 149 = .ok (.invokestatic 24, 3) := by decide +kernel
theorem dL_act_152 : decode cL_act 152 = .ok (.putfield 15, 3) := by decide +kernel
theorem dL_act_155 : decode cL_act 155 = .ok (.aload_n 0, 1) := by decide +kernel
theorem dL_act_156 : decode cL_act 156 = .ok (.iload_n 2, 1) := by decide +kernel
theorem dL_act_157 : decode cL_act 157 = .ok (.iconst 2, 1) := by decide +kernel
theorem dL_act_158 : decode cL_act 158 = .ok (.ishr, 1) := by decide +kernel
theorem dL_act_159 : decode cL_act 159 = .ok (.bipush 10, 2) := by decide +kernel
theorem dL_act_161 : decode cL_act 161 = .ok (.invokestatic 18, 3) := by decide +kernel
theorem dL_act_164 : decode cL_act 164 = .ok (.invokevirtual 34, 3) := by decide +kernel
theorem dL_act_167 : decode cL_act 167 = .ok (.iload 4, 2) := by decide +kernel
theorem dL_act_169 : decode cL_act 169 = .ok (.if_icmp .ne 7, 3) := by decide +kernel
theorem dL_act_172 : decode cL_act 172 = .ok (.iconst 1, 1) := by decide +kernel
theorem dL_act_173 : decode cL_act 173 = .ok (.goto 4, 3) := by decide +kernel
theorem dL_act_176 : decode cL_act 176 = .ok (.iconst 0, 1) := by decide +kernel
theorem dL_act_177 : decode cL_act 177 = .ok (.ireturn, 1) := by decide +kernel
theorem dL_act_178 : decode cL_act 178 = .ok (.iload_n 2, 1) := by decide +kernel
theorem dL_act_179 : decode cL_act 179 = .ok (.iconst 1, 1) := by decide +kernel
theorem dL_act_180 : decode cL_act 180 = .ok (.ishr, 1) := by decide +kernel
theorem dL_act_181 : decode cL_act 181 = .ok (.iload_n 3, 1) := by decide +kernel
theorem dL_act_182 : decode cL_act 182 = .ok (.invokestatic 18, 3) := by decide +kernel
theorem dL_act_185 : decode cL_act 185 = .ok (.istore 6, 2) := by decide +kernel
theorem dL_act_187 : decode cL_act 187 = .ok (.aload_n 1, 1) := by decide +kernel
theorem dL_act_188 : decode cL_act 188 = .ok (.getfield 9, 3) := by decide +kernel
theorem dL_act_191 : decode cL_act 191 = .ok (.iload 6, 2) := by decide +kernel
theorem dL_act_193 : decode cL_act 193 = .ok (.aaload, 1) := by decide +kernel
theorem dL_act_194 : decode cL_act 194 = .ok (.astore 7, 2) := by decide +kernel
theorem dL_act_196 : decode cL_act 196 = .ok (.iload_n 2, 1) := by decide +kernel
theorem dL_act_197 : decode cL_act 197 = .ok (.iconst 3, 1) := by decide +kernel
theorem dL_act_198 : decode cL_act 198 = .ok (.ishr, 1) := by decide +kernel
theorem dL_act_199 : decode cL_act 199 = .ok (.iload 4, 2) := by decide +kernel
theorem dL_act_201 : decode cL_act 201 = .ok (.invokestatic 18, 3) := by decide +kernel
theorem dL_act_204 : decode cL_act 204 = .ok (.istore 8, 2) := by decide +kernel
theorem dL_act_206 : decode cL_act 206 = .ok (.iload 5, 2) := by decide +kernel
theorem dL_act_208 : decode cL_act 208 = .ok (.tableswitch 332 3 12 #[56, 56, 116, 116, 116, 195, 248, 286, 286, 286], 56) := by decide +kernel
theorem dL_act_264 : decode cL_act 264 = .ok (.iload_n 2, 1) := by decide +kernel
theorem dL_act_265 : decode cL_act 265 = .ok (.iconst 4, 1) := by decide +kernel
theorem dL_act_266 : decode cL_act 266 = .ok (.ishr, 1) := by decide +kernel
theorem dL_act_267 : decode cL_act 267 = .ok (.iload_n 3, 1) := by decide +kernel
theorem dL_act_268 : decode cL_act 268 = .ok (.iconst 1, 1) := by decide +kernel
theorem dL_act_269 : decode cL_act 269 = .ok (.iadd, 1) := by decide +kernel
theorem dL_act_270 : decode cL_act 270 = .ok (.invokestatic 18, 3) := by decide +kernel
theorem dL_act_273 : decode cL_act 273 = .ok (.iconst 1, 1) := by decide +kernel
theorem dL_act_274 : decode cL_act 274 = .ok (.isub, 1) := by decide +kernel
theorem dL_act_275 : decode cL_act 275 = .ok (.istore 9, 2) := by decide +kernel
theorem dL_act_277 : decode cL_act 277 = .ok (.aload 7, 2) := by decide +kernel
theorem dL_act_279 : decode cL_act 279 = .ok (.iconst 4, 1) := by decide +kernel
theorem dL_act_280 : decode cL_act 280 = .ok (.iaload, 1) := by decide +kernel
theorem dL_act_281 : decode cL_act 281 = .ok (.istore 10, 2) := by decide +kernel
theorem dL_act_283 : decode cL_act 283 = .ok (.aload 7, 2) := by decide +kernel
theorem dL_act_285 : decode cL_act 285 = .ok (.iconst 0, 1) := by decide +kernel
theorem dL_act_286 : decode cL_act 286 = .ok (.iaload, 1) := by decide +kernel
theorem dL_act_287 : decode cL_act 287 = .ok (.ifCond .eq 10, 3) := by decide +kernel
theorem dL_act_290 : decode cL_act 290 = .ok (.iload 9, 2) := by decide +kernel
theorem dL_act_292 : decode cL_act 292 = .ok (.iload 6, 2) := by decide +kernel
theorem dL_act_294 : decode cL_act 294 = .ok (.if_icmp .ne 5, 3) := by decide +kernel
theorem dL_act_297 : decode cL_act 297 = .ok (.iconst 1, 1) := by decide +kernel
theorem dL_act_298 : decode cL_act 298 = .ok (.ireturn, 1) := by decide +kernel
theorem dL_act_299 : decode cL_act 299 = .ok (.aload 7, 2) := by decide +kernel
theorem dL_act_301 : decode cL_act 301 = .ok (.iconst 4, 1) := by decide +kernel
theorem dL_act_302 : decode cL_act 302 = .ok (.iload 9, 2) := by decide +kernel
theorem dL_act_304 : decode cL_act 304 = .ok (.iastore, 1) := by decide +kernel
theorem dL_act_305 : decode cL_act 305 = .ok (.aload_n 0, 1) := by decide +kernel
theorem dL_act_306 : decode cL_act 306 = .ok (.iload 6, 2) := by decide +kernel
theorem dL_act_308 : decode cL_act 308 = .ok (.iload 9, 2) := by decide +kernel
theorem dL_act_310 : decode cL_act 310 = .ok (.invokevirtual 37, 3) := by decide +kernel
theorem dL_act_313 : decode cL_act 313 = .ok (.iload 10, 2) := by decide +kernel
theorem dL_act_315 : decode cL_act 315 = .ok (.if_icmp .ne 7, 3) := by decide +kernel
theorem dL_act_318 : decode cL_act 318 = .ok (.iconst 1, 1) := by decide +kernel
theorem dL_act_319 : decode cL_act 319 = .ok (.goto 4, 3) := by decide +kernel
theorem dL_act_322 : decode cL_act 322 = .ok (.iconst 0, 1) := by decide +kernel
theorem dL_act_323 : decode cL_act 323 = .ok (.ireturn, 1) := by decide +kernel
theorem dL_act_324 : decode cL_act 324 = .ok (.aload 7, 2) := by decide +kernel
theorem dL_act_326 : decode cL_act 326 = .ok (.invokestatic 40, 3) := by decide +kernel
theorem dL_act_329 : decode cL_act 329 = .ok (.istore 11, 2) := by decide +kernel
theorem dL_act_331 : decode cL_act 331 = .ok (.aload 7, 2) := by decide +kernel
theorem dL_act_333 : decode cL_act 333 = .ok (.iconst 0, 1) := by decide +kernel
theorem dL_act_334 : decode cL_act 334 = .ok (.iaload, 1) := by decide +kernel
theorem dL_act_335 : decode cL_act 335 = .ok (.ifCond .eq 21, 3) := by decide +kernel
theorem dL_act_338 : decode cL_act 338 = .ok (.aload 7, 2) := by decide +kernel
theorem dL_act_340 : decode cL_act 340 = .ok (.iconst 3, 1) := by decide +kernel
theorem dL_act_341 : decode cL_act 341 = .ok (.iaload, 1) := by decide +kernel
theorem dL_act_342 : decode cL_act 342 = .ok (.bipush 9, 2) := by decide +kernel
theorem dL_act_344 : decode cL_act 344 = .ok (.if_icmp .eq 12, 3) := by decide +kernel
theorem dL_act_347 : decode cL_act 347 = .ok (.aload 7, 2) := by decide +kernel
theorem dL_act_349 : decode cL_act 349 = .ok (.iconst 2, 1) := by decide +kernel
theorem dL_act_350 : decode cL_act 350 = .ok (.iaload, 1) := by decide +kernel
theorem dL_act_351 : decode cL_act 351 = .ok (.iload 11, 2) := by decide +kernel
theorem dL_act_353 : decode cL_act 353 = .ok (.if_icmp .ge 5, 3) := by decide +kernel
theorem dL_act_356 : decode cL_act 356 = .ok (.iconst 1, 1) := by decide +kernel
theorem dL_act_357 : decode cL_act 357 = .ok (.ireturn, 1) := by decide +kernel
theorem dL_act_358 : decode cL_act 358 = .ok (.aload 7, 2) := by decide +kernel
theorem dL_act_360 : decode cL_act 360 = .ok (.iconst 2, 1) := by decide +kernel
theorem dL_act_361 : decode cL_act 361 = .ok (.dup2, 1) := by decide +kernel
theorem dL_act_362 : decode cL_act 362 = .ok (.iaload, 1) := by decide +kernel
theorem dL_act_363 : decode cL_act 363 = .ok (.iload 11, 2) := by decide +kernel
theorem dL_act_365 : decode cL_act 365 = .ok (.isub, 1) := by decide +kernel
theorem dL_act_366 : decode cL_act 366 = .ok (.iastore, 1) := by decide +kernel
theorem dL_act_367 : decode cL_act 367 = .ok (.aload 7, 2) := by decide +kernel
theorem dL_act_369 : decode cL_act 369 = .ok (.iconst 3, 1) := by decide +kernel
theorem dL_act_370 : decode cL_act 370 = .ok (.dup2, 1) := by decide +kernel
theorem dL_act_371 : decode cL_act 371 = .ok (.iaload, 1) := by decide +kernel
theorem dL_act_372 : decode cL_act 372 = .ok (.iconst 1, 1) := by decide +kernel
theorem dL_act_373 : decode cL_act 373 = .ok (.iadd, 1) := by decide +kernel
theorem dL_act_374 : decode cL_act 374 = .ok (.iastore, 1) := by decide +kernel
theorem dL_act_375 : decode cL_act 375 = .ok (.aload_n 1, 1) := by decide +kernel
theorem dL_act_376 : decode cL_act 376 = .ok (.dup, 1) := by decide +kernel
theorem dL_act_377 : decode cL_act 377 = .ok (.getfield 44, 3) := by decide +kernel
theorem dL_act_380 : decode cL_act 380 = .ok (.iload 11, 2) := by decide +kernel
theorem dL_act_382 : decode cL_act 382 = .ok (.iadd, 1) := by decide +kernel
theorem dL_act_383 : decode cL_act 383 = .ok (.putfield 44, 3) := by decide +kernel
theorem dL_act_386 : decode cL_act 386 = .ok (.aload_n 0, 1) := by decide +kernel
theorem dL_act_387 : decode cL_act 387 = .ok (.iload 6, 2) := by decide +kernel
theorem dL_act_389 : decode cL_act 389 = .ok (.invokevirtual 48, 3) := by decide +kernel
theorem dL_act_392 : decode cL_act 392 = .ok (.iload 11, 2) := by decide +kernel
theorem dL_act_394 : decode cL_act 394 = .ok (.if_icmp .ne 7, 3) := by decide +kernel
theorem dL_act_397 : decode cL_act 397 = .ok (.iconst 1, 1) := by decide +kernel
theorem dL_act_398 : decode cL_act 398 = .ok (.goto 4, 3) := by decide +kernel
theorem dL_act_401 : decode cL_act 401 = .ok (.iconst 0, 1) := by decide +kernel
theorem dL_act_402 : decode cL_act 402 = .ok (.ireturn, 1) := by decide +kernel
theorem dL_act_403 : decode cL_act 403 = .ok (.aload_n 1, 1) := by decide +kernel
theorem dL_act_404 : decode cL_act 404 = .ok (.getfield 15, 3) := by decide +kernel
theorem dL_act_407 : decode cL_act 407 = .ok (.iload 8, 2) := by decide +kernel
theorem dL_act_409 : decode cL_act 409 = .ok (.aaload, 1) := by decide +kernel
theorem dL_act_410 : decode cL_act 410 = .ok (.iconst 1, 1) := by decide +kernel
theorem dL_act_411 : decode cL_act 411 = .ok (.iconst 1, 1) := by decide +kernel
theorem dL_act_412 : decode cL_act 412 = .ok (.aload_n 1, 1) := by decide +kernel
theorem dL_act_413 : decode cL_act 413 = .ok (.getfield 15, 3) := by decide +kernel
theorem dL_act_416 : decode cL_act 416 = .ok (.iload 8, 2) := by decide +kernel
theorem dL_act_418 : decode cL_act 418 = .ok (.aaload, 1) := by decide +kernel
theorem dL_act_419 : decode cL_act 419 = .ok (.iconst 1, 1) := by decide +kernel
theorem dL_act_420 : decode cL_act 420 = .ok (.iaload, 1) := by decide +kernel
theorem dL_act_421 : decode cL_act 421 = .ok (.isub, 1) := by decide +kernel
theorem dL_act_422 : decode cL_act 422 = .ok (.iastore, 1) := by decide +kernel
theorem dL_act_423 : decode cL_act 423 = .ok (.aload_n 0, 1) := by decide +kernel
theorem dL_act_424 : decode cL_act 424 = .ok (.iload 8, 2) := by decide +kernel
theorem dL_act_426 : decode cL_act 426 = .ok (.invokevirtual 51, 3) := by decide +kernel
theorem dL_act_429 : decode cL_act 429 = .ok (.aload_n 1, 1) := by decide +kernel
theorem dL_act_430 : decode cL_act 430 = .ok (.getfield 15, 3) := by decide +kernel
theorem dL_act_433 : decode cL_act 433 = .ok (.iload 8, 2) := by decide +kernel
theorem dL_act_435 : decode cL_act 435 = .ok (.aaload, 1) := by decide +kernel
theorem dL_act_436 : decode cL_act 436 = .ok (.iconst 1, 1) := by decide +kernel
theorem dL_act_437 : decode cL_act 437 = .ok (.iaload, 1) := by decide +kernel
theorem dL_act_438 : decode cL_act 438 = .ok (.iconst 1, 1) := by decide +kernel
theorem dL_act_439 : decode cL_act 439 = .ok (.if_icmp .ne 7, 3) := by decide +kernel
theorem dL_act_442 : decode cL_act 442 = .ok (.iconst 1, 1) := by decide +kernel
theorem dL_act_443 : decode cL_act 443 = .ok (.goto 4, 3) := by decide +kernel
theorem dL_act_446 : decode cL_act 446 = .ok (.iconst 0, 1) := by decide +kernel
theorem dL_act_447 : decode cL_act 447 = .ok (.if_icmp .ne 7, 3) := by decide +kernel
theorem dL_act_450 : decode cL_act 450 = .ok (.iconst 1, 1) := by decide +kernel
theorem dL_act_451 : decode cL_act 451 = .ok (.goto 4, 3) := by decide +kernel
theorem dL_act_454 : decode cL_act 454 = .ok (.iconst 0, 1) := by decide +kernel
theorem dL_act_455 : decode cL_act 455 = .ok (.ireturn, 1) := by decide +kernel
theorem dL_act_456 : decode cL_act 456 = .ok (.aload 7, 2) := by decide +kernel
theorem dL_act_458 : decode cL_act 458 = .ok (.iconst 0, 1) := by decide +kernel
theorem dL_act_459 : decode cL_act 459 = .ok (.iaload, 1) := by decide +kernel
theorem dL_act_460 : decode cL_act 460 = .ok (.ifCond .eq 11, 3) := by decide +kernel
theorem dL_act_463 : decode cL_act 463 = .ok (.iload_n 2, 1) := by decide +kernel
theorem dL_act_464 : decode cL_act 464 = .ok (.iconst 3, 1) := by decide +kernel
theorem dL_act_465 : decode cL_act 465 = .ok (.invokestatic 18, 3) := by decide +kernel
theorem dL_act_468 : decode cL_act 468 = .ok (.ifCond .le 5, 3) := by decide +kernel
theorem dL_act_471 : decode cL_act 471 = .ok (.iconst 1, 1) := by decide +kernel
theorem dL_act_472 : decode cL_act 472 = .ok (.ireturn, 1) := by decide +kernel
theorem dL_act_473 : decode cL_act 473 = .ok (.aload_n 0, 1) := by decide +kernel
theorem dL_act_474 : decode cL_act 474 = .ok (.iload 6, 2) := by decide +kernel
theorem dL_act_476 : decode cL_act 476 = .ok (.invokevirtual 55, 3) := by decide +kernel
theorem dL_act_479 : decode cL_act 479 = .ok (.aload_n 1, 1) := by decide +kernel
theorem dL_act_480 : decode cL_act 480 = .ok (.iload 6, 2) := by decide +kernel
theorem dL_act_482 : decode cL_act 482 = .ok (.invokevirtual 58, 3) := by decide +kernel
theorem dL_act_485 : decode cL_act 485 = .ok (.if_icmp .ne 7, 3) := by decide +kernel
theorem dL_act_488 : decode cL_act 488 = .ok (.iconst 1, 1) := by decide +kernel
theorem dL_act_489 : decode cL_act 489 = .ok (.goto 4, 3) := by decide +kernel
theorem dL_act_492 : decode cL_act 492 = .ok (.iconst 0, 1) := by decide +kernel
theorem dL_act_493 : decode cL_act 493 = .ok (.ireturn, 1) := by decide +kernel
theorem dL_act_494 : decode cL_act 494 = .ok (.iconst 1, 1) := by decide +kernel
theorem dL_act_495 : decode cL_act 495 = .ok (.iload_n 2, 1) := by decide +kernel
theorem dL_act_496 : decode cL_act 496 = .ok (.iconst 2, 1) := by decide +kernel
theorem dL_act_497 : decode cL_act 497 = .ok (.ishr, 1) := by decide +kernel
theorem dL_act_498 : decode cL_act 498 = .ok (.iload_n 2, 1) := by decide +kernel
theorem dL_act_499 : decode cL_act 499 = .ok (.bipush 8, 2) := by decide +kernel
theorem dL_act_501 : decode cL_act 501 = .ok (.invokestatic 18, 3) := by decide +kernel
theorem dL_act_504 : decode cL_act 504 = .ok (.ifCond .ne 8, 3) := by decide +kernel
theorem dL_act_507 : decode cL_act 507 = .ok (.bipush 30, 2) := by decide +kernel
theorem dL_act_509 : decode cL_act 509 = .ok (.goto 4, 3) := by decide +kernel
theorem dL_act_512 : decode cL_act 512 = .ok (.iconst 3, 1) := by decide +kernel
theorem dL_act_513 : decode cL_act 513 = .ok (.invokestatic 18, 3) := by decide +kernel
end
section
/-! decode rows: the law -/
theorem dL_act_516 : decode cL_act 516 = .ok (.iadd, 1) := by decide +kernel
theorem dL_act_517 : decode cL_act 517 = .ok (.istore 12, 2) := by decide +kernel
theorem dL_act_519 : decode cL_act 519 = .ok (.aload_n 0, 1) := by decide +kernel
theorem dL_act_520 : decode cL_act 520 = .ok (.iload 12, 2) := by decide +kernel
theorem dL_act_522 : decode cL_act 522 = .ok (.invokevirtual 59, 3) := by decide +kernel
theorem dL_act_525 : decode cL_act 525 = .ok (.aload_n 1, 1) := by decide +kernel
theorem dL_act_526 : decode cL_act 526 = .ok (.iload 12, 2) := by decide +kernel
theorem dL_act_528 : decode cL_act 528 = .ok (.invokevirtual 62, 3) := by decide +kernel
theorem dL_act_531 : decode cL_act 531 = .ok (.if_icmp .ne 7, 3) := by decide +kernel
theorem dL_act_534 : decode cL_act 534 = .ok (.iconst 1, 1) := by decide +kernel
theorem dL_act_535 : decode cL_act 535 = .ok (.goto 4, 3) := by decide +kernel
theorem dL_act_538 : decode cL_act 538 = .ok (.iconst 0, 1) := by decide +kernel
theorem dL_act_539 : decode cL_act 539 = .ok (.ireturn, 1) := by decide +kernel
theorem dL_act_540 : decode cL_act 540 = .ok (.iconst 1, 1) := by decide +kernel
theorem dL_act_541 : decode cL_act 541 = .ok (.iload_n 2, 1) := by decide +kernel
theorem dL_act_542 : decode cL_act 542 = .ok (.iconst 3, 1) := by decide +kernel
theorem dL_act_543 : decode cL_act 543 = .ok (.ishr, 1) := by decide +kernel
theorem dL_act_544 : decode cL_act 544 = .ok (.iload_n 2, 1) := by decide +kernel
theorem dL_act_545 : decode cL_act 545 = .ok (.iconst 3, 1) := by decide +kernel
theorem dL_act_546 : decode cL_act 546 = .ok (.invokestatic 18, 3) := by decide +kernel
theorem dL_act_549 : decode cL_act 549 = .ok (.ifCond .ne 8, 3) := by decide +kernel
theorem dL_act_552 : decode cL_act 552 = .ok (.bipush 60, 2) := by decide +kernel
theorem dL_act_554 : decode cL_act 554 = .ok (.goto 5, 3) := by decide +kernel
theorem dL_act_557 : decode cL_act 557 = .ok (.bipush 30, 2) := by decide +kernel
theorem dL_act_559 : decode cL_act 559 = .ok (.invokestatic 18, 3) := by decide +kernel
theorem dL_act_562 : decode cL_act 562 = .ok (.iadd, 1) := by decide +kernel
theorem dL_act_563 : decode cL_act 563 = .ok (.istore 13, 2) := by decide +kernel
theorem dL_act_565 : decode cL_act 565 = .ok (.aload 7, 2) := by decide +kernel
theorem dL_act_567 : decode cL_act 567 = .ok (.iconst 0, 1) := by decide +kernel
theorem dL_act_568 : decode cL_act 568 = .ok (.iaload, 1) := by decide +kernel
theorem dL_act_569 : decode cL_act 569 = .ok (.ifCond .eq 13, 3) := by decide +kernel
theorem dL_act_572 : decode cL_act 572 = .ok (.aload_n 1, 1) := by decide +kernel
theorem dL_act_573 : decode cL_act 573 = .ok (.getfield 63, 3) := by decide +kernel
theorem dL_act_576 : decode cL_act 576 = .ok (.arraylength, 1) := by decide +kernel
theorem dL_act_577 : decode cL_act 577 = .ok (.bipush 60, 2) := by decide +kernel
theorem dL_act_579 : decode cL_act 579 = .ok (.if_icmp .ne 5, 3) := by decide +kernel
theorem dL_act_582 : decode cL_act 582 = .ok (.iconst 1, 1) := by decide +kernel
theorem dL_act_583 : decode cL_act 583 = .ok (.ireturn, 1) := by decide +kernel
theorem dL_act_584 : decode cL_act 584 = .ok (.aload_n 0, 1) := by decide +kernel
theorem dL_act_585 : decode cL_act 585 = .ok (.iload 6, 2) := by decide +kernel
theorem dL_act_587 : decode cL_act 587 = .ok (.iload 13, 2) := by decide +kernel
theorem dL_act_589 : decode cL_act 589 = .ok (.invokevirtual 66, 3) := by decide +kernel
theorem dL_act_592 : decode cL_act 592 = .ok (.aload_n 1, 1) := by decide +kernel
theorem dL_act_593 : decode cL_act 593 = .ok (.iload 6, 2) := by decide +kernel
theorem dL_act_595 : decode cL_act 595 = .ok (.iload 13, 2) := by decide +kernel
theorem dL_act_597 : decode cL_act 597 = .ok (.invokevirtual 69, 3) := by decide +kernel
theorem dL_act_600 : decode cL_act 600 = .ok (.if_icmp .ne 7, 3) := by decide +kernel
theorem dL_act_603 : decode cL_act 603 = .ok (.iconst 1, 1) := by decide +kernel
theorem dL_act_604 : decode cL_act 604 = .ok (.goto 4, 3) := by decide +kernel
theorem dL_act_607 : decode cL_act 607 = .ok (.iconst 0, 1) := by decide +kernel
theorem dL_act_608 : decode cL_act 608 = .ok (.ireturn, 1) := by decide +kernel
theorem dL_build_0 : decode cL_build 0 = .ok (.new 10, 3) := by decide +kernel
theorem dL_build_3 : decode cL_build 3 = .ok (.dup, 1) := by decide +kernel
theorem dL_build_4 : decode cL_build 4 = .ok (.invokespecial 70, 3) := by decide +kernel
theorem dL_build_7 : decode cL_build 7 = .ok (.astore_n 2, 1) := by decide +kernel
theorem dL_build_8 : decode cL_build 8 = .ok (.bipush 12, 2) := by decide +kernel
theorem dL_build_10 : decode cL_build 10 = .ok (.aload_n 1, 1) := by decide +kernel
theorem dL_build_11 : decode cL_build 11 = .ok (.iconst 0, 1) := by decide +kernel
theorem dL_build_12 : decode cL_build 12 = .ok (.invokestatic 71, 3) := by decide +kernel
theorem dL_build_15 : decode cL_build 15 = .ok (.bipush 50, 2) := by decide +kernel
theorem dL_build_17 : decode cL_build 17 = .ok (.invokestatic 18, 3) := by decide +kernel
theorem dL_build_20 : decode cL_build 20 = .ok (.iadd, 1) := by decide +kernel
theorem dL_build_21 : decode cL_build 21 = .ok (.istore_n 3, 1) := by decide +kernel
theorem dL_build_22 : decode cL_build 22 = .ok (.iconst 0, 1) := by decide +kernel
theorem dL_build_23 : decode cL_build 23 = .ok (.istore 4, 2) := by decide +kernel
theorem dL_build_25 : decode cL_build 25 = .ok (.iload 4, 2) := by decide +kernel
theorem dL_build_27 : decode cL_build 27 = .ok (.iload_n 3, 1) := by decide +kernel
theorem dL_build_28 : decode cL_build 28 = .ok (.if_icmp .ge 43, 3) := by decide +kernel
theorem dL_build_31 : decode cL_build 31 = .ok (.aload_n 0, 1) := by decide +kernel
theorem dL_build_32 : decode cL_build 32 = .ok (.aload_n 2, 1) := by decide +kernel
theorem dL_build_33 : decode cL_build 33 = .ok (.aload_n 1, 1) := by decide +kernel
theorem dL_build_34 : decode cL_build 34 = .ok (.iload 4, 2) := by decide +kernel
theorem dL_build_36 : decode cL_build 36 = .ok (.bipush 16, 2) := by decide +kernel
theorem dL_build_38 : decode cL_build 38 = .ok (.irem, 1) := by decide +kernel
theorem dL_build_39 : decode cL_build 39 = .ok (.invokestatic 71, 3) := by decide +kernel
theorem dL_build_42 : decode cL_build 42 = .ok (.iload 4, 2) := by decide +kernel
theorem dL_build_44 : decode cL_build 44 = .ok (.bipush 16, 2) := by decide +kernel
theorem dL_build_46 : decode cL_build 46 = .ok (.idiv, 1) := by decide +kernel
theorem dL_build_47 : decode cL_build 47 = .ok (.iconst 3, 1) := by decide +kernel
theorem dL_build_48 : decode cL_build 48 = .ok (.imul, 1) := by decide +kernel
theorem dL_build_49 : decode cL_build 49 = .ok (.ishr, 1) := by decide +kernel
theorem dL_build_50 : decode cL_build 50 = .ok (.sipush 677, 3) := by decide +kernel
theorem dL_build_53 : decode cL_build 53 = .ok (.iload 4, 2) := by decide +kernel
theorem dL_build_55 : decode cL_build 55 = .ok (.imul, 1) := by decide +kernel
theorem dL_build_56 : decode cL_build 56 = .ok (.iadd, 1) := by decide +kernel
theorem dL_build_57 : decode cL_build 57 = .ok (.invokestatic 75, 3) := by decide +kernel
theorem dL_build_60 : decode cL_build 60 = .ok (.ifCond .ne 5, 3) := by decide +kernel
theorem dL_build_63 : decode cL_build 63 = .ok (.aconst_null, 1) := by decide +kernel
theorem dL_build_64 : decode cL_build 64 = .ok (.areturn, 1) := by decide +kernel
theorem dL_build_65 : decode cL_build 65 = .ok (.iinc 4 1, 3) := by decide +kernel
theorem dL_build_68 : decode cL_build 68 = .ok (.goto (-43), 3) := by decide +kernel
theorem dL_build_71 : decode cL_build 71 = .ok (.aload_n 2, 1) := by decide +kernel
theorem dL_build_72 : decode cL_build 72 = .ok (.areturn, 1) := by decide +kernel
theorem dL_law_0 : decode cL_law 0 = .ok (.new 29, 3) := by decide +kernel
theorem dL_law_3 : decode cL_law 3 = .ok (.dup, 1) := by decide +kernel
theorem dL_law_4 : decode cL_law 4 = .ok (.invokespecial 79, 3) := by decide +kernel
theorem dL_law_7 : decode cL_law 7 = .ok (.astore_n 1, 1) := by decide +kernel
theorem dL_law_8 : decode cL_law 8 = .ok (.aload_n 1, 1) := by decide +kernel
theorem dL_law_9 : decode cL_law 9 = .ok (.aload_n 0, 1) := by decide +kernel
theorem dL_law_10 : decode cL_law 10 = .ok (.invokestatic 80, 3) := by decide +kernel
theorem dL_law_13 : decode cL_law 13 = .ok (.astore_n 2, 1) := by decide +kernel
theorem dL_law_14 : decode cL_law 14 = .ok (.aload_n 2, 1) := by decide +kernel
theorem dL_law_15 : decode cL_law 15 = .ok (.ifnonnull 5, 3) := by decide +kernel
theorem dL_law_18 : decode cL_law 18 = .ok (.iconst 0, 1) := by decide +kernel
theorem dL_law_19 : decode cL_law 19 = .ok (.ireturn, 1) := by decide +kernel
theorem dL_law_20 : decode cL_law 20 = .ok (.bipush 10, 2) := by decide +kernel
theorem dL_law_22 : decode cL_law 22 = .ok (.newarray .boolean, 2) := by decide +kernel
theorem dL_law_24 : decode cL_law 24 = .ok (.astore_n 3, 1) := by decide +kernel
theorem dL_law_25 : decode cL_law 25 = .ok (.iconst 0, 1) := by decide +kernel
theorem dL_law_26 : decode cL_law 26 = .ok (.istore 4, 2) := by decide +kernel
theorem dL_law_28 : decode cL_law 28 = .ok (.iload 4, 2) := by decide +kernel
theorem dL_law_30 : decode cL_law 30 = .ok (.bipush 36, 2) := by decide +kernel
theorem dL_law_32 : decode cL_law 32 = .ok (.if_icmp .ge 900, 3) := by decide +kernel
theorem dL_law_35 : decode cL_law 35 = .ok (.aload_n 0, 1) := by decide +kernel
theorem dL_law_36 : decode cL_law 36 = .ok (.iload 4, 2) := by decide +kernel
theorem dL_law_38 : decode cL_law 38 = .ok (.bipush 16, 2) := by decide +kernel
theorem dL_law_40 : decode cL_law 40 = .ok (.irem, 1) := by decide +kernel
theorem dL_law_41 : decode cL_law 41 = .ok (.invokestatic 71, 3) := by decide +kernel
theorem dL_law_44 : decode cL_law 44 = .ok (.iload 4, 2) := by decide +kernel
theorem dL_law_46 : decode cL_law 46 = .ok (.bipush 16, 2) := by decide +kernel
theorem dL_law_48 : decode cL_law 48 = .ok (.idiv, 1) := by decide +kernel
theorem dL_law_49 : decode cL_law 49 = .ok (.iconst 3, 1) := by decide +kernel
theorem dL_law_50 : decode cL_law 50 = .ok (.imul, 1) := by decide +kernel
theorem dL_law_51 : decode cL_law 51 = .ok (.ishr, 1) := by decide +kernel
theorem dL_law_52 : decode cL_law 52 = .ok (.sipush 677, 3) := by decide +kernel
theorem dL_law_55 : decode cL_law 55 = .ok (.iload 4, 2) := by decide +kernel
theorem dL_law_57 : decode cL_law 57 = .ok (.imul, 1) := by decide +kernel
theorem dL_law_58 : decode cL_law 58 = .ok (.iadd, 1) := by decide +kernel
theorem dL_law_59 : decode cL_law 59 = .ok (.istore 5, 2) := by decide +kernel
theorem dL_law_61 : decode cL_law 61 = .ok (.aload_n 1, 1) := by decide +kernel
theorem dL_law_62 : decode cL_law 62 = .ok (.aload_n 2, 1) := by decide +kernel
theorem dL_law_63 : decode cL_law 63 = .ok (.iload 5, 2) := by decide +kernel
theorem dL_law_65 : decode cL_law 65 = .ok (.invokestatic 75, 3) := by decide +kernel
theorem dL_law_68 : decode cL_law 68 = .ok (.ifCond .ne 5, 3) := by decide +kernel
theorem dL_law_71 : decode cL_law 71 = .ok (.iconst 0, 1) := by decide +kernel
theorem dL_law_72 : decode cL_law 72 = .ok (.ireturn, 1) := by decide +kernel
theorem dL_law_73 : decode cL_law 73 = .ok (.aload_n 1, 1) := by decide +kernel
theorem dL_law_74 : decode cL_law 74 = .ok (.invokevirtual 84, 3) := by decide +kernel
theorem dL_law_77 : decode cL_law 77 = .ok (.istore 6, 2) := by decide +kernel
theorem dL_law_79 : decode cL_law 79 = .ok (.aload_n 1, 1) := by decide +kernel
theorem dL_law_80 : decode cL_law 80 = .ok (.invokevirtual 87, 3) := by decide +kernel
theorem dL_law_83 : decode cL_law 83 = .ok (.istore 7, 2) := by decide +kernel
theorem dL_law_85 : decode cL_law 85 = .ok (.aload_n 1, 1) := by decide +kernel
theorem dL_law_86 : decode cL_law 86 = .ok (.invokevirtual 89, 3) := by decide +kernel
theorem dL_law_89 : decode cL_law 89 = .ok (.istore 8, 2) := by decide +kernel
theorem dL_law_91 : decode cL_law 91 = .ok (.iconst 0, 1) := by decide +kernel
theorem dL_law_92 : decode cL_law 92 = .ok (.istore 9, 2) := by decide +kernel
theorem dL_law_94 : decode cL_law 94 = .ok (.iconst 0, 1) := by decide +kernel
theorem dL_law_95 : decode cL_law 95 = .ok (.istore 10, 2) := by decide +kernel
theorem dL_law_97 : decode cL_law 97 = .ok (.iconst 0, 1) := by decide +kernel
theorem dL_law_98 : decode cL_law 98 = .ok (.istore 11, 2) := by decide +kernel
theorem dL_law_100 : decode cL_law 100 = .ok (.iload 11, 2) := by decide +kernel
theorem dL_law_102 : decode cL_law 102 = .ok (.iload 6, 2) := by decide +kernel
theorem dL_law_104 : decode cL_law 104 = .ok (.if_icmp .ge 240, 3) := by decide +kernel
theorem dL_law_107 : decode cL_law 107 = .ok (.aload_n 1, 1) := by decide +kernel
theorem dL_law_108 : decode cL_law 108 = .ok (.iload 11, 2) := by decide +kernel
theorem dL_law_110 : decode cL_law 110 = .ok (.invokevirtual 91, 3) := by decide +kernel
theorem dL_law_113 : decode cL_law 113 = .ok (.istore 12, 2) := by decide +kernel
theorem dL_law_115 : decode cL_law 115 = .ok (.aload_n 1, 1) := by decide +kernel
theorem dL_law_116 : decode cL_law 116 = .ok (.iload 11, 2) := by decide +kernel
theorem dL_law_118 : decode cL_law 118 = .ok (.invokevirtual 94, 3) := by decide +kernel
theorem dL_law_121 : decode cL_law 121 = .ok (.istore 13, 2) := by decide +kernel
theorem dL_law_123 : decode cL_law 123 = .ok (.iload 9, 2) := by decide +kernel
theorem dL_law_125 : decode cL_law 125 = .ok (.iload 12, 2) := by decide +kernel
theorem dL_law_127 : decode cL_law 127 = .ok (.ifCond .eq 7, 3) := by decide +kernel
theorem dL_law_130 : decode cL_law 130 = .ok (.iconst 1, 1) := by decide +kernel
theorem dL_law_131 : decode cL_law 131 = .ok (.goto 4, 3) := by decide +kernel
theorem dL_law_134 : decode cL_law 134 = .ok (.iconst 0, 1) := by decide +kernel
theorem dL_law_135 : decode cL_law 135 = .ok (.iadd, 1) := by decide +kernel
theorem dL_law_136 : decode cL_law 136 = .ok (.istore 9, 2) := by decide +kernel
theorem dL_law_138 : decode cL_law 138 = .ok (.iload 8, 2) := by decide +kernel
theorem dL_law_140 : decode cL_law 140 = .ok (.aload_n 1, 1) := by decide +kernel
theorem dL_law_141 : decode cL_law 141 = .ok (.iload 11, 2) := by decide +kernel
theorem dL_law_143 : decode cL_law 143 = .ok (.invokevirtual 97, 3) := by decide +kernel
theorem dL_law_146 : decode cL_law 146 = .ok (.iadd, 1) := by decide +kernel
theorem dL_law_147 : decode cL_law 147 = .ok (.istore 8, 2) := by decide +kernel
theorem dL_law_149 : decode cL_law 149 = .ok (.iload 10, 2) := by decide +kernel
theorem dL_law_151 : decode cL_law 151 = .ok (.aload_n 1, 1) := by decide +kernel
theorem dL_law_152 : decode cL_law 152 = .ok (.iload 11, 2) := by decide +kernel
theorem dL_law_154 : decode cL_law 154 = .ok (.invokevirtual 100, 3) := by decide +kernel
theorem dL_law_157 : decode cL_law 157 = .ok (.iadd, 1) := by decide +kernel
theorem dL_law_158 : decode cL_law 158 = .ok (.istore 10, 2) := by decide +kernel
theorem dL_law_160 : decode cL_law 160 = .ok (.aload_n 1, 1) := by decide +kernel
theorem dL_law_161 : decode cL_law 161 = .ok (.iload 11, 2) := by decide +kernel
theorem dL_law_163 : decode cL_law 163 = .ok (.invokevirtual 103, 3) := by decide +kernel
theorem dL_law_166 : decode cL_law 166 = .ok (.ifCond .lt 156, 3) := by decide +kernel
theorem dL_law_169 : decode cL_law 169 = .ok (.aload_n 1, 1) := by decide +kernel
theorem dL_law_170 : decode cL_law 170 = .ok (.iload 11, 2) := by decide +kernel
theorem dL_law_172 : decode cL_law 172 = .ok (.invokevirtual 103, 3) := by decide +kernel
theorem dL_law_175 : decode cL_law 175 = .ok (.bipush 99, 2) := by decide +kernel
theorem dL_law_177 : decode cL_law 177 = .ok (.if_icmp .gt 145, 3) := by decide +kernel
theorem dL_law_180 : decode cL_law 180 = .ok (.aload_n 1, 1) := by decide +kernel
theorem dL_law_181 : decode cL_law 181 = .ok (.iload 11, 2) := by decide +kernel
theorem dL_law_183 : decode cL_law 183 = .ok (.invokevirtual 106, 3) := by decide +kernel
theorem dL_law_186 : decode cL_law 186 = .ok (.ifCond .lt 136, 3) := by decide +kernel
theorem dL_law_189 : decode cL_law 189 = .ok (.aload_n 1, 1) := by decide +kernel
theorem dL_law_190 : decode cL_law 190 = .ok (.iload 11, 2) := by decide +kernel
theorem dL_law_192 : decode cL_law 192 = .ok (.invokevirtual 106, 3) := by decide +kernel
theorem dL_law_195 : decode cL_law 195 = .ok (.bipush 9, 2) := by decide +kernel
theorem dL_law_197 : decode cL_law 197 = .ok (.if_icmp .gt 125, 3) := by decide +kernel
theorem dL_law_200 : decode cL_law 200 = .ok (.aload_n 1, 1) := by decide +kernel
theorem dL_law_201 : decode cL_law 201 = .ok (.iload 11, 2) := by decide +kernel
theorem dL_law_203 : decode cL_law 203 = .ok (.invokevirtual 97, 3) := by decide +kernel
theorem dL_law_206 : decode cL_law 206 = .ok (.ifCond .lt 116, 3) := by decide +kernel
theorem dL_law_209 : decode cL_law 209 = .ok (.aload_n 1, 1) := by decide +kernel
theorem dL_law_210 : decode cL_law 210 = .ok (.iload 11, 2) := by decide +kernel
theorem dL_law_212 : decode cL_law 212 = .ok (.invokevirtual 109, 3) := by decide +kernel
theorem dL_law_215 : decode cL_law 215 = .ok (.iconst 5, 1) := by decide +kernel
theorem dL_law_216 : decode cL_law 216 = .ok (.if_icmp .lt 106, 3) := by decide +kernel
theorem dL_law_219 : decode cL_law 219 = .ok (.aload_n 1, 1) := by decide +kernel
theorem dL_law_220 : decode cL_law 220 = .ok (.iload 11, 2) := by decide +kernel
theorem dL_law_222 : decode cL_law 222 = .ok (.invokevirtual 109, 3) := by decide +kernel
theorem dL_law_225 : decode cL_law 225 = .ok (.bipush 14, 2) := by decide +kernel
theorem dL_law_227 : decode cL_law 227 = .ok (.if_icmp .gt 95, 3) := by decide +kernel
theorem dL_law_230 : decode cL_law 230 = .ok (.iload 13, 2) := by decide +kernel
theorem dL_law_232 : decode cL_law 232 = .ok (.ifCond .lt 19, 3) := by decide +kernel
theorem dL_law_235 : decode cL_law 235 = .ok (.iload 13, 2) := by decide +kernel
theorem dL_law_237 : decode cL_law 237 = .ok (.iload 11, 2) := by decide +kernel
theorem dL_law_239 : decode cL_law 239 = .ok (.if_icmp .eq 83, 3) := by decide +kernel
theorem dL_law_242 : decode cL_law 242 = .ok (.aload_n 1, 1) := by decide +kernel
theorem dL_law_243 : decode cL_law 243 = .ok (.iload 13, 2) := by decide +kernel
theorem dL_law_245 : decode cL_law 245 = .ok (.invokevirtual 91, 3) := by decide +kernel
theorem dL_law_248 : decode cL_law 248 = .ok (.ifCond .eq 74, 3) := by decide +kernel
theorem dL_law_251 : decode cL_law 251 = .ok (.aload_n 1, 1) := by decide +kernel
theorem dL_law_252 : decode cL_law 252 = .ok (.iload 11, 2) := by decide +kernel
theorem dL_law_254 : decode cL_law 254 = .ok (.invokevirtual 112, 3) := by decide +kernel
theorem dL_law_257 : decode cL_law 257 = .ok (.ifCond .ge 8, 3) := by decide +kernel
theorem dL_law_260 : decode cL_law 260 = .ok (.iload 13, 2) := by decide +kernel
theorem dL_law_262 : decode cL_law 262 = .ok (.ifCond .ge 60, 3) := by decide +kernel
theorem dL_law_265 : decode cL_law 265 = .ok (.iload 12, 2) := by decide +kernel
theorem dL_law_267 : decode cL_law 267 = .ok (.ifCond .ne 21, 3) := by decide +kernel
theorem dL_law_270 : decode cL_law 270 = .ok (.aload_n 1, 1) := by decide +kernel
theorem dL_law_271 : decode cL_law 271 = .ok (.iload 11, 2) := by decide +kernel
theorem dL_law_273 : decode cL_law 273 = .ok (.invokevirtual 97, 3) := by decide +kernel
theorem dL_law_276 : decode cL_law 276 = .ok (.ifCond .gt 46, 3) := by decide +kernel
theorem dL_law_279 : decode cL_law 279 = .ok (.aload_n 1, 1) := by decide +kernel
theorem dL_law_280 : decode cL_law 280 = .ok (.iload 11, 2) := by decide +kernel
theorem dL_law_282 : decode cL_law 282 = .ok (.invokevirtual 106, 3) := by decide +kernel
theorem dL_law_285 : decode cL_law 285 = .ok (.ifCond .gt 37, 3) := by decide +kernel
theorem dL_law_288 : decode cL_law 288 = .ok (.aload_n 3, 1) := by decide +kernel
theorem dL_law_289 : decode cL_law 289 = .ok (.iload 11, 2) := by decide +kernel
theorem dL_law_291 : decode cL_law 291 = .ok (.baload, 1) := by decide +kernel
theorem dL_law_292 : decode cL_law 292 = .ok (.ifCond .eq 8, 3) := by decide +kernel
theorem dL_law_295 : decode cL_law 295 = .ok (.iload 12, 2) := by decide +kernel
theorem dL_law_297 : decode cL_law 297 = .ok (.ifCond .ne 25, 3) := by decide +kernel
theorem dL_law_300 : decode cL_law 300 = .ok (.iload 12, 2) := by decide +kernel
theorem dL_law_302 : decode cL_law 302 = .ok (.ifCond .eq 22, 3) := by decide +kernel
theorem dL_law_305 : decode cL_law 305 = .ok (.aload_n 1, 1) := by decide +kernel
theorem dL_law_306 : decode cL_law 306 = .ok (.iload 11, 2) := by decide +kernel
theorem dL_law_308 : decode cL_law 308 = .ok (.invokevirtual 103, 3) := by decide +kernel
theorem dL_law_311 : decode cL_law 311 = .ok (.aload_n 1, 1) := by decide +kernel
theorem dL_law_312 : decode cL_law 312 = .ok (.aload_n 1, 1) := by decide +kernel
theorem dL_law_313 : decode cL_law 313 = .ok (.invokevirtual 115, 3) := by decide +kernel
theorem dL_law_316 : decode cL_law 316 = .ok (.invokevirtual 103, 3) := by decide +kernel
theorem dL_law_319 : decode cL_law 319 = .ok (.if_icmp .le 5, 3) := by decide +kernel
theorem dL_law_322 : decode cL_law 322 = .ok (.iconst 0, 1) := by decide +kernel
theorem dL_law_323 : decode cL_law 323 = .ok (.ireturn, 1) := by decide +kernel
theorem dL_law_324 : decode cL_law 324 = .ok (.aload_n 3, 1) := by decide +kernel
theorem dL_law_325 : decode cL_law 325 = .ok (.iload 11, 2) := by decide +kernel
theorem dL_law_327 : decode cL_law 327 = .ok (.iload 12, 2) := by decide +kernel
theorem dL_law_329 : decode cL_law 329 = .ok (.ifCond .ne 7, 3) := by decide +kernel
theorem dL_law_332 : decode cL_law 332 = .ok (.iconst 1, 1) := by decide +kernel
theorem dL_law_333 : decode cL_law 333 = .ok (.goto 4, 3) := by decide +kernel
theorem dL_law_336 : decode cL_law 336 = .ok (.iconst 0, 1) := by decide +kernel
theorem dL_law_337 : decode cL_law 337 = .ok (.bastore, 1) := by decide +kernel
theorem dL_law_338 : decode cL_law 338 = .ok (.iinc 11 1, 3) := by decide +kernel
theorem dL_law_341 : decode cL_law 341 = .ok (.goto (-241), 3) := by decide +kernel
theorem dL_law_344 : decode cL_law 344 = .ok (.iload 8, 2) := by decide +kernel
theorem dL_law_346 : decode cL_law 346 = .ok (.bipush 100, 2) := by decide +kernel
theorem dL_law_348 : decode cL_law 348 = .ok (.iload 6, 2) := by decide +kernel
theorem dL_law_350 : decode cL_law 350 = .ok (.imul, 1) := by decide +kernel
theorem dL_law_351 : decode cL_law 351 = .ok (.if_icmp .ne 71, 3) := by decide +kernel
theorem dL_law_354 : decode cL_law 354 = .ok (.iload 9, 2) := by decide +kernel
theorem dL_law_356 : decode cL_law 356 = .ok (.aload_n 1, 1) := by decide +kernel
theorem dL_law_357 : decode cL_law 357 = .ok (.invokevirtual 118, 3) := by decide +kernel
theorem dL_law_360 : decode cL_law 360 = .ok (.if_icmp .ne 62, 3) := by decide +kernel
theorem dL_law_363 : decode cL_law 363 = .ok (.iload 10, 2) := by decide +kernel
theorem dL_law_365 : decode cL_law 365 = .ok (.aload_n 1, 1) := by decide +kernel
theorem dL_law_366 : decode cL_law 366 = .ok (.invokevirtual 121, 3) := by decide +kernel
theorem dL_law_369 : decode cL_law 369 = .ok (.if_icmp .ne 53, 3) := by decide +kernel
theorem dL_law_372 : decode cL_law 372 = .ok (.aload_n 1, 1) := by decide +kernel
theorem dL_law_373 : decode cL_law 373 = .ok (.invokevirtual 89, 3) := by decide +kernel
theorem dL_law_376 : decode cL_law 376 = .ok (.ifCond .lt 46, 3) := by decide +kernel
theorem dL_law_379 : decode cL_law 379 = .ok (.aload_n 1, 1) := by decide +kernel
theorem dL_law_380 : decode cL_law 380 = .ok (.invokevirtual 123, 3) := by decide +kernel
theorem dL_law_383 : decode cL_law 383 = .ok (.ifCond .lt 39, 3) := by decide +kernel
theorem dL_law_386 : decode cL_law 386 = .ok (.aload_n 1, 1) := by decide +kernel
theorem dL_law_387 : decode cL_law 387 = .ok (.invokevirtual 126, 3) := by decide +kernel
theorem dL_law_390 : decode cL_law 390 = .ok (.aload_n 1, 1) := by decide +kernel
theorem dL_law_391 : decode cL_law 391 = .ok (.invokevirtual 121, 3) := by decide +kernel
theorem dL_law_394 : decode cL_law 394 = .ok (.if_icmp .gt 28, 3) := by decide +kernel
theorem dL_law_397 : decode cL_law 397 = .ok (.aload_n 1, 1) := by decide +kernel
theorem dL_law_398 : decode cL_law 398 = .ok (.invokevirtual 115, 3) := by decide +kernel
theorem dL_law_401 : decode cL_law 401 = .ok (.ifCond .ge 7, 3) := by decide +kernel
theorem dL_law_404 : decode cL_law 404 = .ok (.iconst 1, 1) := by decide +kernel
theorem dL_law_405 : decode cL_law 405 = .ok (.goto 4, 3) := by decide +kernel
theorem dL_law_408 : decode cL_law 408 = .ok (.iconst 0, 1) := by decide +kernel
theorem dL_law_409 : decode cL_law 409 = .ok (.iload 9, 2) := by decide +kernel
theorem dL_law_411 : decode cL_law 411 = .ok (.ifCond .ne 7, 3) := by decide +kernel
theorem dL_law_414 : decode cL_law 414 = .ok (.iconst 1, 1) := by decide +kernel
end
section
/-! decode rows: the law -/
theorem dL_law_415 : decode cL_law 415 = .ok (.goto 4, 3) := by decide +kernel
theorem dL_law_418 : decode cL_law 418 = .ok (.iconst 0, 1) := by decide +kernel
theorem dL_law_419 : decode cL_law 419 = .ok (.if_icmp .eq 5, 3) := by decide +kernel
theorem dL_law_422 : decode cL_law 422 = .ok (.iconst 0, 1) := by decide +kernel
theorem dL_law_423 : decode cL_law 423 = .ok (.ireturn, 1) := by decide +kernel
theorem dL_law_424 : decode cL_law 424 = .ok (.iconst 1, 1) := by decide +kernel
theorem dL_law_425 : decode cL_law 425 = .ok (.iload 5, 2) := by decide +kernel
theorem dL_law_427 : decode cL_law 427 = .ok (.iconst 3, 1) := by decide +kernel
theorem dL_law_428 : decode cL_law 428 = .ok (.ishr, 1) := by decide +kernel
theorem dL_law_429 : decode cL_law 429 = .ok (.bipush 60, 2) := by decide +kernel
theorem dL_law_431 : decode cL_law 431 = .ok (.invokestatic 18, 3) := by decide +kernel
theorem dL_law_434 : decode cL_law 434 = .ok (.iadd, 1) := by decide +kernel
theorem dL_law_435 : decode cL_law 435 = .ok (.istore 11, 2) := by decide +kernel
theorem dL_law_437 : decode cL_law 437 = .ok (.bipush 99, 2) := by decide +kernel
theorem dL_law_439 : decode cL_law 439 = .ok (.istore 12, 2) := by decide +kernel
theorem dL_law_441 : decode cL_law 441 = .ok (.iconst 0, 1) := by decide +kernel
theorem dL_law_442 : decode cL_law 442 = .ok (.istore 13, 2) := by decide +kernel
theorem dL_law_444 : decode cL_law 444 = .ok (.iconst 0, 1) := by decide +kernel
theorem dL_law_445 : decode cL_law 445 = .ok (.istore 14, 2) := by decide +kernel
theorem dL_law_447 : decode cL_law 447 = .ok (.iconst 0, 1) := by decide +kernel
theorem dL_law_448 : decode cL_law 448 = .ok (.istore 15, 2) := by decide +kernel
theorem dL_law_450 : decode cL_law 450 = .ok (.iload 15, 2) := by decide +kernel
theorem dL_law_452 : decode cL_law 452 = .ok (.iload 7, 2) := by decide +kernel
theorem dL_law_454 : decode cL_law 454 = .ok (.if_icmp .ge 221, 3) := by decide +kernel
theorem dL_law_457 : decode cL_law 457 = .ok (.aload_n 1, 1) := by decide +kernel
theorem dL_law_458 : decode cL_law 458 = .ok (.iload 15, 2) := by decide +kernel
theorem dL_law_460 : decode cL_law 460 = .ok (.iload 11, 2) := by decide +kernel
theorem dL_law_462 : decode cL_law 462 = .ok (.invokevirtual 129, 3) := by decide +kernel
theorem dL_law_465 : decode cL_law 465 = .ok (.istore 16, 2) := by decide +kernel
theorem dL_law_467 : decode cL_law 467 = .ok (.aload_n 1, 1) := by decide +kernel
theorem dL_law_468 : decode cL_law 468 = .ok (.iload 15, 2) := by decide +kernel
theorem dL_law_470 : decode cL_law 470 = .ok (.invokevirtual 132, 3) := by decide +kernel
theorem dL_law_473 : decode cL_law 473 = .ok (.iconst 3, 1) := by decide +kernel
theorem dL_law_474 : decode cL_law 474 = .ok (.if_icmp .ge 7, 3) := by decide +kernel
theorem dL_law_477 : decode cL_law 477 = .ok (.iconst 1, 1) := by decide +kernel
theorem dL_law_478 : decode cL_law 478 = .ok (.goto 4, 3) := by decide +kernel
theorem dL_law_481 : decode cL_law 481 = .ok (.iconst 0, 1) := by decide +kernel
theorem dL_law_482 : decode cL_law 482 = .ok (.istore 17, 2) := by decide +kernel
theorem dL_law_484 : decode cL_law 484 = .ok (.iload 14, 2) := by decide +kernel
theorem dL_law_486 : decode cL_law 486 = .ok (.iload 17, 2) := by decide +kernel
theorem dL_law_488 : decode cL_law 488 = .ok (.ifCond .eq 7, 3) := by decide +kernel
theorem dL_law_491 : decode cL_law 491 = .ok (.iconst 1, 1) := by decide +kernel
theorem dL_law_492 : decode cL_law 492 = .ok (.goto 4, 3) := by decide +kernel
theorem dL_law_495 : decode cL_law 495 = .ok (.iconst 0, 1) := by decide +kernel
theorem dL_law_496 : decode cL_law 496 = .ok (.iadd, 1) := by decide +kernel
theorem dL_law_497 : decode cL_law 497 = .ok (.istore 14, 2) := by decide +kernel
theorem dL_law_499 : decode cL_law 499 = .ok (.aload_n 1, 1) := by decide +kernel
theorem dL_law_500 : decode cL_law 500 = .ok (.iload 15, 2) := by decide +kernel
theorem dL_law_502 : decode cL_law 502 = .ok (.invokevirtual 132, 3) := by decide +kernel
theorem dL_law_505 : decode cL_law 505 = .ok (.ifCond .lt 76, 3) := by decide +kernel
theorem dL_law_508 : decode cL_law 508 = .ok (.aload_n 1, 1) := by decide +kernel
theorem dL_law_509 : decode cL_law 509 = .ok (.iload 15, 2) := by decide +kernel
theorem dL_law_511 : decode cL_law 511 = .ok (.invokevirtual 132, 3) := by decide +kernel
theorem dL_law_514 : decode cL_law 514 = .ok (.bipush 9, 2) := by decide +kernel
theorem dL_law_516 : decode cL_law 516 = .ok (.if_icmp .gt 65, 3) := by decide +kernel
theorem dL_law_519 : decode cL_law 519 = .ok (.iload 16, 2) := by decide +kernel
theorem dL_law_521 : decode cL_law 521 = .ok (.ifCond .ne 7, 3) := by decide +kernel
theorem dL_law_524 : decode cL_law 524 = .ok (.iconst 1, 1) := by decide +kernel
theorem dL_law_525 : decode cL_law 525 = .ok (.goto 4, 3) := by decide +kernel
theorem dL_law_528 : decode cL_law 528 = .ok (.iconst 0, 1) := by decide +kernel
theorem dL_law_529 : decode cL_law 529 = .ok (.iload 17, 2) := by decide +kernel
theorem dL_law_531 : decode cL_law 531 = .ok (.if_icmp .ne 50, 3) := by decide +kernel
theorem dL_law_534 : decode cL_law 534 = .ok (.iload 16, 2) := by decide +kernel
theorem dL_law_536 : decode cL_law 536 = .ok (.iload 11, 2) := by decide +kernel
theorem dL_law_538 : decode cL_law 538 = .ok (.if_icmp .gt 43, 3) := by decide +kernel
theorem dL_law_541 : decode cL_law 541 = .ok (.iload 17, 2) := by decide +kernel
theorem dL_law_543 : decode cL_law 543 = .ok (.ifCond .ne 12, 3) := by decide +kernel
theorem dL_law_546 : decode cL_law 546 = .ok (.iload 16, 2) := by decide +kernel
theorem dL_law_548 : decode cL_law 548 = .ok (.iload 11, 2) := by decide +kernel
theorem dL_law_550 : decode cL_law 550 = .ok (.iconst 3, 1) := by decide +kernel
theorem dL_law_551 : decode cL_law 551 = .ok (.isub, 1) := by decide +kernel
theorem dL_law_552 : decode cL_law 552 = .ok (.if_icmp .lt 29, 3) := by decide +kernel
theorem dL_law_555 : decode cL_law 555 = .ok (.aload_n 1, 1) := by decide +kernel
theorem dL_law_556 : decode cL_law 556 = .ok (.iload 15, 2) := by decide +kernel
theorem dL_law_558 : decode cL_law 558 = .ok (.invokevirtual 135, 3) := by decide +kernel
theorem dL_law_561 : decode cL_law 561 = .ok (.ifCond .eq 22, 3) := by decide +kernel
theorem dL_law_564 : decode cL_law 564 = .ok (.aload_n 1, 1) := by decide +kernel
theorem dL_law_565 : decode cL_law 565 = .ok (.iload 15, 2) := by decide +kernel
theorem dL_law_567 : decode cL_law 567 = .ok (.invokevirtual 132, 3) := by decide +kernel
theorem dL_law_570 : decode cL_law 570 = .ok (.aload_n 1, 1) := by decide +kernel
theorem dL_law_571 : decode cL_law 571 = .ok (.aload_n 1, 1) := by decide +kernel
theorem dL_law_572 : decode cL_law 572 = .ok (.invokevirtual 138, 3) := by decide +kernel
theorem dL_law_575 : decode cL_law 575 = .ok (.invokevirtual 132, 3) := by decide +kernel
theorem dL_law_578 : decode cL_law 578 = .ok (.if_icmp .le 5, 3) := by decide +kernel
theorem dL_law_581 : decode cL_law 581 = .ok (.iconst 0, 1) := by decide +kernel
theorem dL_law_582 : decode cL_law 582 = .ok (.ireturn, 1) := by decide +kernel
theorem dL_law_583 : decode cL_law 583 = .ok (.iconst 0, 1) := by decide +kernel
theorem dL_law_584 : decode cL_law 584 = .ok (.istore 18, 2) := by decide +kernel
theorem dL_law_586 : decode cL_law 586 = .ok (.iload 18, 2) := by decide +kernel
theorem dL_law_588 : decode cL_law 588 = .ok (.iload 7, 2) := by decide +kernel
theorem dL_law_590 : decode cL_law 590 = .ok (.if_icmp .ge 44, 3) := by decide +kernel
theorem dL_law_593 : decode cL_law 593 = .ok (.iload 17, 2) := by decide +kernel
theorem dL_law_595 : decode cL_law 595 = .ok (.ifCond .ne 33, 3) := by decide +kernel
theorem dL_law_598 : decode cL_law 598 = .ok (.aload_n 1, 1) := by decide +kernel
theorem dL_law_599 : decode cL_law 599 = .ok (.iload 18, 2) := by decide +kernel
theorem dL_law_601 : decode cL_law 601 = .ok (.invokevirtual 132, 3) := by decide +kernel
theorem dL_law_604 : decode cL_law 604 = .ok (.aload_n 1, 1) := by decide +kernel
theorem dL_law_605 : decode cL_law 605 = .ok (.iload 15, 2) := by decide +kernel
theorem dL_law_607 : decode cL_law 607 = .ok (.invokevirtual 132, 3) := by decide +kernel
theorem dL_law_610 : decode cL_law 610 = .ok (.if_icmp .lt 18, 3) := by decide +kernel
theorem dL_law_613 : decode cL_law 613 = .ok (.aload_n 1, 1) := by decide +kernel
theorem dL_law_614 : decode cL_law 614 = .ok (.iload 18, 2) := by decide +kernel
theorem dL_law_616 : decode cL_law 616 = .ok (.iload 11, 2) := by decide +kernel
theorem dL_law_618 : decode cL_law 618 = .ok (.invokevirtual 129, 3) := by decide +kernel
theorem dL_law_621 : decode cL_law 621 = .ok (.iload 16, 2) := by decide +kernel
theorem dL_law_623 : decode cL_law 623 = .ok (.if_icmp .ge 5, 3) := by decide +kernel
theorem dL_law_626 : decode cL_law 626 = .ok (.iconst 0, 1) := by decide +kernel
theorem dL_law_627 : decode cL_law 627 = .ok (.ireturn, 1) := by decide +kernel
theorem dL_law_628 : decode cL_law 628 = .ok (.iinc 18 1, 3) := by decide +kernel
theorem dL_law_631 : decode cL_law 631 = .ok (.goto (-45), 3) := by decide +kernel
theorem dL_law_634 : decode cL_law 634 = .ok (.aload_n 1, 1) := by decide +kernel
theorem dL_law_635 : decode cL_law 635 = .ok (.iload 15, 2) := by decide +kernel
theorem dL_law_637 : decode cL_law 637 = .ok (.invokevirtual 135, 3) := by decide +kernel
theorem dL_law_640 : decode cL_law 640 = .ok (.ifCond .eq 29, 3) := by decide +kernel
theorem dL_law_643 : decode cL_law 643 = .ok (.iload 17, 2) := by decide +kernel
theorem dL_law_645 : decode cL_law 645 = .ok (.ifCond .eq 6, 3) := by decide +kernel
theorem dL_law_648 : decode cL_law 648 = .ok (.goto 21, 3) := by decide +kernel
theorem dL_law_651 : decode cL_law 651 = .ok (.iload 12, 2) := by decide +kernel
theorem dL_law_653 : decode cL_law 653 = .ok (.iload 16, 2) := by decide +kernel
theorem dL_law_655 : decode cL_law 655 = .ok (.invokestatic 141, 3) := by decide +kernel
theorem dL_law_658 : decode cL_law 658 = .ok (.istore 12, 2) := by decide +kernel
theorem dL_law_660 : decode cL_law 660 = .ok (.iload 13, 2) := by decide +kernel
theorem dL_law_662 : decode cL_law 662 = .ok (.iload 16, 2) := by decide +kernel
theorem dL_law_664 : decode cL_law 664 = .ok (.invokestatic 146, 3) := by decide +kernel
theorem dL_law_667 : decode cL_law 667 = .ok (.istore 13, 2) := by decide +kernel
theorem dL_law_669 : decode cL_law 669 = .ok (.iinc 15 1, 3) := by decide +kernel
theorem dL_law_672 : decode cL_law 672 = .ok (.goto (-222), 3) := by decide +kernel
theorem dL_law_675 : decode cL_law 675 = .ok (.aload_n 1, 1) := by decide +kernel
theorem dL_law_676 : decode cL_law 676 = .ok (.iload 11, 2) := by decide +kernel
theorem dL_law_678 : decode cL_law 678 = .ok (.invokevirtual 149, 3) := by decide +kernel
theorem dL_law_681 : decode cL_law 681 = .ok (.istore 15, 2) := by decide +kernel
theorem dL_law_683 : decode cL_law 683 = .ok (.iload 14, 2) := by decide +kernel
theorem dL_law_685 : decode cL_law 685 = .ok (.aload_n 1, 1) := by decide +kernel
theorem dL_law_686 : decode cL_law 686 = .ok (.invokevirtual 152, 3) := by decide +kernel
theorem dL_law_689 : decode cL_law 689 = .ok (.if_icmp .ne 84, 3) := by decide +kernel
theorem dL_law_692 : decode cL_law 692 = .ok (.iload 13, 2) := by decide +kernel
theorem dL_law_694 : decode cL_law 694 = .ok (.ifCond .ne 8, 3) := by decide +kernel
theorem dL_law_697 : decode cL_law 697 = .ok (.iload 15, 2) := by decide +kernel
theorem dL_law_699 : decode cL_law 699 = .ok (.ifCond .ne 74, 3) := by decide +kernel
theorem dL_law_702 : decode cL_law 702 = .ok (.iload 13, 2) := by decide +kernel
theorem dL_law_704 : decode cL_law 704 = .ok (.ifCond .le 17, 3) := by decide +kernel
theorem dL_law_707 : decode cL_law 707 = .ok (.iload 15, 2) := by decide +kernel
theorem dL_law_709 : decode cL_law 709 = .ok (.iload 12, 2) := by decide +kernel
theorem dL_law_711 : decode cL_law 711 = .ok (.if_icmp .lt 62, 3) := by decide +kernel
theorem dL_law_714 : decode cL_law 714 = .ok (.iload 15, 2) := by decide +kernel
theorem dL_law_716 : decode cL_law 716 = .ok (.iload 13, 2) := by decide +kernel
theorem dL_law_718 : decode cL_law 718 = .ok (.if_icmp .gt 55, 3) := by decide +kernel
theorem dL_law_721 : decode cL_law 721 = .ok (.aload_n 1, 1) := by decide +kernel
theorem dL_law_722 : decode cL_law 722 = .ok (.iload 11, 2) := by decide +kernel
theorem dL_law_724 : decode cL_law 724 = .ok (.invokevirtual 155, 3) := by decide +kernel
theorem dL_law_727 : decode cL_law 727 = .ok (.ifCond .ne 7, 3) := by decide +kernel
theorem dL_law_730 : decode cL_law 730 = .ok (.iconst 1, 1) := by decide +kernel
theorem dL_law_731 : decode cL_law 731 = .ok (.goto 4, 3) := by decide +kernel
theorem dL_law_734 : decode cL_law 734 = .ok (.iconst 0, 1) := by decide +kernel
theorem dL_law_735 : decode cL_law 735 = .ok (.iload 13, 2) := by decide +kernel
theorem dL_law_737 : decode cL_law 737 = .ok (.ifCond .ne 7, 3) := by decide +kernel
theorem dL_law_740 : decode cL_law 740 = .ok (.iconst 1, 1) := by decide +kernel
theorem dL_law_741 : decode cL_law 741 = .ok (.goto 4, 3) := by decide +kernel
theorem dL_law_744 : decode cL_law 744 = .ok (.iconst 0, 1) := by decide +kernel
theorem dL_law_745 : decode cL_law 745 = .ok (.if_icmp .ne 28, 3) := by decide +kernel
theorem dL_law_748 : decode cL_law 748 = .ok (.aload_n 1, 1) := by decide +kernel
theorem dL_law_749 : decode cL_law 749 = .ok (.invokevirtual 158, 3) := by decide +kernel
theorem dL_law_752 : decode cL_law 752 = .ok (.ifCond .ne 7, 3) := by decide +kernel
theorem dL_law_755 : decode cL_law 755 = .ok (.iconst 1, 1) := by decide +kernel
theorem dL_law_756 : decode cL_law 756 = .ok (.goto 4, 3) := by decide +kernel
theorem dL_law_759 : decode cL_law 759 = .ok (.iconst 0, 1) := by decide +kernel
theorem dL_law_760 : decode cL_law 760 = .ok (.iload 14, 2) := by decide +kernel
theorem dL_law_762 : decode cL_law 762 = .ok (.ifCond .ne 7, 3) := by decide +kernel
theorem dL_law_765 : decode cL_law 765 = .ok (.iconst 1, 1) := by decide +kernel
theorem dL_law_766 : decode cL_law 766 = .ok (.goto 4, 3) := by decide +kernel
theorem dL_law_769 : decode cL_law 769 = .ok (.iconst 0, 1) := by decide +kernel
theorem dL_law_770 : decode cL_law 770 = .ok (.if_icmp .eq 5, 3) := by decide +kernel
theorem dL_law_773 : decode cL_law 773 = .ok (.iconst 0, 1) := by decide +kernel
theorem dL_law_774 : decode cL_law 774 = .ok (.ireturn, 1) := by decide +kernel
theorem dL_law_775 : decode cL_law 775 = .ok (.iconst 0, 1) := by decide +kernel
theorem dL_law_776 : decode cL_law 776 = .ok (.istore 16, 2) := by decide +kernel
theorem dL_law_778 : decode cL_law 778 = .ok (.iconst 0, 1) := by decide +kernel
theorem dL_law_779 : decode cL_law 779 = .ok (.istore 17, 2) := by decide +kernel
theorem dL_law_781 : decode cL_law 781 = .ok (.iload 17, 2) := by decide +kernel
theorem dL_law_783 : decode cL_law 783 = .ok (.aload_n 1, 1) := by decide +kernel
theorem dL_law_784 : decode cL_law 784 = .ok (.invokevirtual 121, 3) := by decide +kernel
theorem dL_law_787 : decode cL_law 787 = .ok (.if_icmp .ge 128, 3) := by decide +kernel
theorem dL_law_790 : decode cL_law 790 = .ok (.iload 16, 2) := by decide +kernel
theorem dL_law_792 : decode cL_law 792 = .ok (.aload_n 1, 1) := by decide +kernel
theorem dL_law_793 : decode cL_law 793 = .ok (.iload 17, 2) := by decide +kernel
theorem dL_law_795 : decode cL_law 795 = .ok (.invokevirtual 161, 3) := by decide +kernel
theorem dL_law_798 : decode cL_law 798 = .ok (.ifCond .le 7, 3) := by decide +kernel
theorem dL_law_801 : decode cL_law 801 = .ok (.iconst 1, 1) := by decide +kernel
theorem dL_law_802 : decode cL_law 802 = .ok (.goto 4, 3) := by decide +kernel
theorem dL_law_805 : decode cL_law 805 = .ok (.iconst 0, 1) := by decide +kernel
theorem dL_law_806 : decode cL_law 806 = .ok (.iadd, 1) := by decide +kernel
theorem dL_law_807 : decode cL_law 807 = .ok (.istore 16, 2) := by decide +kernel
theorem dL_law_809 : decode cL_law 809 = .ok (.aload_n 1, 1) := by decide +kernel
theorem dL_law_810 : decode cL_law 810 = .ok (.iload 17, 2) := by decide +kernel
theorem dL_law_812 : decode cL_law 812 = .ok (.invokevirtual 161, 3) := by decide +kernel
theorem dL_law_815 : decode cL_law 815 = .ok (.ifCond .lt 34, 3) := by decide +kernel
theorem dL_law_818 : decode cL_law 818 = .ok (.aload_n 1, 1) := by decide +kernel
theorem dL_law_819 : decode cL_law 819 = .ok (.iload 17, 2) := by decide +kernel
theorem dL_law_821 : decode cL_law 821 = .ok (.invokevirtual 161, 3) := by decide +kernel
theorem dL_law_824 : decode cL_law 824 = .ok (.bipush 60, 2) := by decide +kernel
theorem dL_law_826 : decode cL_law 826 = .ok (.if_icmp .gt 23, 3) := by decide +kernel
theorem dL_law_829 : decode cL_law 829 = .ok (.aload_n 1, 1) := by decide +kernel
theorem dL_law_830 : decode cL_law 830 = .ok (.iload 17, 2) := by decide +kernel
theorem dL_law_832 : decode cL_law 832 = .ok (.invokevirtual 164, 3) := by decide +kernel
theorem dL_law_835 : decode cL_law 835 = .ok (.ifCond .lt 14, 3) := by decide +kernel
theorem dL_law_838 : decode cL_law 838 = .ok (.aload_n 1, 1) := by decide +kernel
theorem dL_law_839 : decode cL_law 839 = .ok (.iload 17, 2) := by decide +kernel
theorem dL_law_841 : decode cL_law 841 = .ok (.invokevirtual 164, 3) := by decide +kernel
theorem dL_law_844 : decode cL_law 844 = .ok (.iload 6, 2) := by decide +kernel
theorem dL_law_846 : decode cL_law 846 = .ok (.if_icmp .lt 5, 3) := by decide +kernel
theorem dL_law_849 : decode cL_law 849 = .ok (.iconst 0, 1) := by decide +kernel
theorem dL_law_850 : decode cL_law 850 = .ok (.ireturn, 1) := by decide +kernel
theorem dL_law_851 : decode cL_law 851 = .ok (.iload 17, 2) := by decide +kernel
theorem dL_law_853 : decode cL_law 853 = .ok (.ifCond .le 56, 3) := by decide +kernel
theorem dL_law_856 : decode cL_law 856 = .ok (.aload_n 1, 1) := by decide +kernel
theorem dL_law_857 : decode cL_law 857 = .ok (.iload 17, 2) := by decide +kernel
theorem dL_law_859 : decode cL_law 859 = .ok (.invokevirtual 161, 3) := by decide +kernel
theorem dL_law_862 : decode cL_law 862 = .ok (.aload_n 1, 1) := by decide +kernel
theorem dL_law_863 : decode cL_law 863 = .ok (.iload 17, 2) := by decide +kernel
theorem dL_law_865 : decode cL_law 865 = .ok (.iconst 1, 1) := by decide +kernel
theorem dL_law_866 : decode cL_law 866 = .ok (.isub, 1) := by decide +kernel
theorem dL_law_867 : decode cL_law 867 = .ok (.invokevirtual 161, 3) := by decide +kernel
theorem dL_law_870 : decode cL_law 870 = .ok (.if_icmp .ne 39, 3) := by decide +kernel
theorem dL_law_873 : decode cL_law 873 = .ok (.aload_n 1, 1) := by decide +kernel
theorem dL_law_874 : decode cL_law 874 = .ok (.iload 17, 2) := by decide +kernel
theorem dL_law_876 : decode cL_law 876 = .ok (.invokevirtual 164, 3) := by decide +kernel
theorem dL_law_879 : decode cL_law 879 = .ok (.aload_n 1, 1) := by decide +kernel
theorem dL_law_880 : decode cL_law 880 = .ok (.iload 17, 2) := by decide +kernel
theorem dL_law_882 : decode cL_law 882 = .ok (.iconst 1, 1) := by decide +kernel
theorem dL_law_883 : decode cL_law 883 = .ok (.isub, 1) := by decide +kernel
theorem dL_law_884 : decode cL_law 884 = .ok (.invokevirtual 164, 3) := by decide +kernel
theorem dL_law_887 : decode cL_law 887 = .ok (.if_icmp .ne 22, 3) := by decide +kernel
theorem dL_law_890 : decode cL_law 890 = .ok (.aload_n 1, 1) := by decide +kernel
theorem dL_law_891 : decode cL_law 891 = .ok (.iload 17, 2) := by decide +kernel
theorem dL_law_893 : decode cL_law 893 = .ok (.invokevirtual 167, 3) := by decide +kernel
theorem dL_law_896 : decode cL_law 896 = .ok (.aload_n 1, 1) := by decide +kernel
theorem dL_law_897 : decode cL_law 897 = .ok (.iload 17, 2) := by decide +kernel
theorem dL_law_899 : decode cL_law 899 = .ok (.iconst 1, 1) := by decide +kernel
theorem dL_law_900 : decode cL_law 900 = .ok (.isub, 1) := by decide +kernel
theorem dL_law_901 : decode cL_law 901 = .ok (.invokevirtual 167, 3) := by decide +kernel
theorem dL_law_904 : decode cL_law 904 = .ok (.if_icmp .eq 5, 3) := by decide +kernel
theorem dL_law_907 : decode cL_law 907 = .ok (.iconst 0, 1) := by decide +kernel
theorem dL_law_908 : decode cL_law 908 = .ok (.ireturn, 1) := by decide +kernel
theorem dL_law_909 : decode cL_law 909 = .ok (.iinc 17 1, 3) := by decide +kernel
theorem dL_law_912 : decode cL_law 912 = .ok (.goto (-131), 3) := by decide +kernel
theorem dL_law_915 : decode cL_law 915 = .ok (.iload 16, 2) := by decide +kernel
theorem dL_law_917 : decode cL_law 917 = .ok (.aload_n 1, 1) := by decide +kernel
theorem dL_law_918 : decode cL_law 918 = .ok (.invokevirtual 126, 3) := by decide +kernel
theorem dL_law_921 : decode cL_law 921 = .ok (.if_icmp .eq 5, 3) := by decide +kernel
theorem dL_law_924 : decode cL_law 924 = .ok (.iconst 0, 1) := by decide +kernel
theorem dL_law_925 : decode cL_law 925 = .ok (.ireturn, 1) := by decide +kernel
theorem dL_law_926 : decode cL_law 926 = .ok (.iinc 4 1, 3) := by decide +kernel
theorem dL_law_929 : decode cL_law 929 = .ok (.goto (-901), 3) := by decide +kernel
theorem dL_law_932 : decode cL_law 932 = .ok (.aload_n 2, 1) := by decide +kernel
theorem dL_law_933 : decode cL_law 933 = .ok (.aload_n 1, 1) := by decide +kernel
theorem dL_law_934 : decode cL_law 934 = .ok (.invokevirtual 170, 3) := by decide +kernel
theorem dL_law_937 : decode cL_law 937 = .ok (.ireturn, 1) := by decide +kernel
end
section
/-! the words: one list for every method: all that the tables alone decide -/
def lw_all : List Cond := lw_tbl.filter goodWord
theorem lw_in {w : Cond} (i : Nat) (h : lw_tbl[i]? = some w) (g : goodWord w = true) : w ∈ lw_all := List.mem_filter.mpr ⟨List.mem_of_getElem? h, g⟩
theorem lw_all_tbl {w : Cond} (h : w ∈ lw_all) : w ∈ lw_tbl := (List.mem_filter.mp h).1
theorem lw_good {w : Cond} (h : w ∈ lw_all) : goodWord w = true := (List.mem_filter.mp h).2
theorem lw_gall : GoodIn lw_all lw_all := fun w h => ⟨h, good_of_word (lw_good h)⟩
abbrev ws_ (y : MethodName) (c : ByteArray) (n : Nat) (r : Option FieldType) : List Cond := Cond.code y c n r :: lw_all
abbrev wsH_ (y : MethodName) (c : ByteArray) (n : Nat) (r : Option FieldType) (hh : List (Nat × Nat × Nat × Nat)) : List Cond := Cond.codeWith y c n r hh :: lw_all
theorem gi_cons {c : Cond} (h : c ∈ lw_all) : GoodIn lw_all (c :: lw_all) := fun w hw => (List.mem_cons.mp hw).elim (fun e => by rw [e]; exact ⟨h, good_of_word (lw_good h)⟩) (lw_gall w)
theorem gi_V {own C : String} {idx : Nat} {y : MethodName} {c : Cond} (h1 : Cond.methodLink own idx y ∈ lw_all) (h2 : Cond.instanceMethod y ∈ lw_all) (h3 : Cond.selects C y y ∈ lw_all) (h4 : Cond.initialized C ∈ lw_all) (h5 : c ∈ lw_all) : GoodIn lw_all (wsV own idx C y (c :: lw_all)) := by
  intro w hw
  have hm : w ∈ lw_all := by
    rcases List.mem_append.mp (show w ∈ ([.methodLink own idx y, .instanceMethod y, .selects C y y, .initialized C] : List Cond) ++ (c :: lw_all) from hw) with h | h
    · simp only [List.mem_cons, List.not_mem_nil, or_false] at h
      rcases h with rfl | rfl | rfl | rfl <;> assumption
    · exact (gi_cons h5 w h).1
  exact ⟨hm, good_of_word (lw_good hm)⟩
theorem gi_S {own : String} {idx : Nat} {y : MethodName} {c : Cond} (h1 : Cond.methodLink own idx y ∈ lw_all) (h2 : Cond.static y ∈ lw_all) (h4 : Cond.initialized y.cls ∈ lw_all) (h5 : c ∈ lw_all) : GoodIn lw_all (va_wsS own idx y (c :: lw_all)) := by
  intro w hw
  have hm : w ∈ lw_all := by
    rcases List.mem_append.mp (show w ∈ ([.methodLink own idx y, .static y, .initialized y.cls] : List Cond) ++ (c :: lw_all) from hw) with h | h
    · simp only [List.mem_cons, List.not_mem_nil, or_false] at h
      rcases h with rfl | rfl | rfl <;> assumption
    · exact (gi_cons h5 w h).1
  exact ⟨hm, good_of_word (lw_good hm)⟩
abbrev wsX00_ : List Cond := u_ws RX0 TX0 16
abbrev wsX10_ : List Cond := u_ws RX1 TX1 6
abbrev wsJ00_ : List Cond := u_ws RJ0 TJ0 4
abbrev wsJ40_ : List Cond := u_ws RJ4 TJ4 4
theorem lays_X0 : ∀ w ∈ wsX00_, w ∈ lw_all := fun w hw => have g := goodIn_r (big := lw_tbl) wsX00_ [64, 66, 68, 70, 72, 74, 76, 78, 80, 82, 84, 86, 88, 90, 92, 94] (by decide +kernel) (by decide +kernel); List.mem_filter.mpr ⟨(g w hw).1, List.all_eq_true.mp (show wsX00_.all goodWord = true by decide +kernel) w hw⟩
theorem lays_X1 : ∀ w ∈ wsX10_, w ∈ lw_all := fun w hw => have g := goodIn_r (big := lw_tbl) wsX10_ [831, 833, 835, 837, 839, 841] (by decide +kernel) (by decide +kernel); List.mem_filter.mpr ⟨(g w hw).1, List.all_eq_true.mp (show wsX10_.all goodWord = true by decide +kernel) w hw⟩
theorem lays_J0 : ∀ w ∈ wsJ00_, w ∈ lw_all := fun w hw => have g := goodIn_r (big := lw_tbl) wsJ00_ [646, 648, 650, 652] (by decide +kernel) (by decide +kernel); List.mem_filter.mpr ⟨(g w hw).1, List.all_eq_true.mp (show wsJ00_.all goodWord = true by decide +kernel) w hw⟩
theorem lays_J4 : ∀ w ∈ wsJ40_, w ∈ lw_all := fun w hw => have g := goodIn_r (big := lw_tbl) wsJ40_ [461, 463, 465, 467] (by decide +kernel) (by decide +kernel); List.mem_filter.mpr ⟨(g w hw).1, List.all_eq_true.mp (show wsJ40_.all goodWord = true by decide +kernel) w hw⟩
theorem mS_X0_isShaken : (Cond.selects RX0 yX0_isShaken yX0_isShaken) ∈ lw_all := lw_in 0 (by decide +kernel) (by decide +kernel)
theorem mS_X0_requirePerson : (Cond.selects RX0 yX0_requirePerson yX0_requirePerson) ∈ lw_all := lw_in 1 (by decide +kernel) (by decide +kernel)
theorem mS_X0_isPerson : (Cond.selects RX0 yX0_isPerson yX0_isPerson) ∈ lw_all := lw_in 2 (by decide +kernel) (by decide +kernel)
theorem mS_java_lang_Throwable_fillInStackTrace_I_Ljava_lang_Throwable : (Cond.selects "java/lang/Throwable" ⟨"java/lang/Throwable", "fillInStackTrace", "(I)Ljava/lang/Throwable;"⟩ ⟨"java/lang/Throwable", "fillInStackTrace", "(I)Ljava/lang/Throwable;"⟩) ∈ lw_all := lw_in 3 (by decide +kernel) (by decide +kernel)
theorem mS_X0_findLastHeir : (Cond.selects RX0 yX0_findLastHeir yX0_findLastHeir) ∈ lw_all := lw_in 4 (by decide +kernel) (by decide +kernel)
theorem mS_X0_fatePrice : (Cond.selects RX0 yX0_fatePrice yX0_fatePrice) ∈ lw_all := lw_in 5 (by decide +kernel) (by decide +kernel)
theorem mS_X0_requireWitness : (Cond.selects RX0 yX0_requireWitness yX0_requireWitness) ∈ lw_all := lw_in 6 (by decide +kernel) (by decide +kernel)
theorem mS_X0_isWitness : (Cond.selects RX0 yX0_isWitness yX0_isWitness) ∈ lw_all := lw_in 7 (by decide +kernel) (by decide +kernel)
theorem mS_X0_requireInches : (Cond.selects RX0 yX0_requireInches yX0_requireInches) ∈ lw_all := lw_in 8 (by decide +kernel) (by decide +kernel)
theorem mS_X0_tale : (Cond.selects RX0 yX0_tale yX0_tale) ∈ lw_all := lw_in 9 (by decide +kernel) (by decide +kernel)
theorem mS_X0_requireMiss : (Cond.selects RX0 yX0_requireMiss yX0_requireMiss) ∈ lw_all := lw_in 10 (by decide +kernel) (by decide +kernel)
theorem mS_X0_middleTale : (Cond.selects RX0 yX0_middleTale yX0_middleTale) ∈ lw_all := lw_in 11 (by decide +kernel) (by decide +kernel)
theorem mS_X0_insertTale : (Cond.selects RX0 yX0_insertTale yX0_insertTale) ∈ lw_all := lw_in 12 (by decide +kernel) (by decide +kernel)
theorem mS_X0_nightsToCalm : (Cond.selects RX0 yX0_nightsToCalm yX0_nightsToCalm) ∈ lw_all := lw_in 13 (by decide +kernel) (by decide +kernel)
theorem mS_X0_requireAlive : (Cond.selects RX0 yX0_requireAlive yX0_requireAlive) ∈ lw_all := lw_in 14 (by decide +kernel) (by decide +kernel)
theorem mS_X0_passOneNight : (Cond.selects RX0 yX0_passOneNight yX0_passOneNight) ∈ lw_all := lw_in 15 (by decide +kernel) (by decide +kernel)
theorem mS_X0_refundFate : (Cond.selects RX0 yX0_refundFate yX0_refundFate) ∈ lw_all := lw_in 16 (by decide +kernel) (by decide +kernel)
theorem mS_X0_usesFate : (Cond.selects RX0 yX0_usesFate yX0_usesFate) ∈ lw_all := lw_in 17 (by decide +kernel) (by decide +kernel)
theorem mS_X0_refundCoins : (Cond.selects RX0 yX0_refundCoins yX0_refundCoins) ∈ lw_all := lw_in 18 (by decide +kernel) (by decide +kernel)
theorem mS_X0_frightenWitnesses : (Cond.selects RX0 yX0_frightenWitnesses yX0_frightenWitnesses) ∈ lw_all := lw_in 19 (by decide +kernel) (by decide +kernel)
theorem mI_MissRegistryLaw : (Cond.initialized RL) ∈ lw_all := lw_in 20 (by decide +kernel) (by decide +kernel)
theorem mI_MissRegistry : (Cond.initialized RX0) ∈ lw_all := lw_in 21 (by decide +kernel) (by decide +kernel)
theorem mI_Sim : (Cond.initialized RX1) ∈ lw_all := lw_in 22 (by decide +kernel) (by decide +kernel)
theorem mI_Throwable : (Cond.initialized "java/lang/Throwable") ∈ lw_all := lw_in 23 (by decide +kernel) (by decide +kernel)
theorem mI_Exception : (Cond.initialized "java/lang/Exception") ∈ lw_all := lw_in 24 (by decide +kernel) (by decide +kernel)
theorem mI_RuntimeException : (Cond.initialized "java/lang/RuntimeException") ∈ lw_all := lw_in 25 (by decide +kernel) (by decide +kernel)
theorem mI_IllegalArgumentException : (Cond.initialized "java/lang/IllegalArgumentException") ∈ lw_all := lw_in 26 (by decide +kernel) (by decide +kernel)
theorem mI_IllegalStateException : (Cond.initialized "java/lang/IllegalStateException") ∈ lw_all := lw_in 27 (by decide +kernel) (by decide +kernel)
theorem mI_IndexOutOfBoundsException : (Cond.initialized "java/lang/IndexOutOfBoundsException") ∈ lw_all := lw_in 28 (by decide +kernel) (by decide +kernel)
theorem mI_Math : (Cond.initialized "java/lang/Math") ∈ lw_all := lw_in 29 (by decide +kernel) (by decide +kernel)
theorem mI_String : (Cond.initialized RJ0) ∈ lw_all := lw_in 30 (by decide +kernel) (by decide +kernel)
theorem mI_StringLatin1 : (Cond.initialized RJ1) ∈ lw_all := lw_in 31 (by decide +kernel) (by decide +kernel)
theorem mI_Preconditions : (Cond.initialized RJ3) ∈ lw_all := lw_in 32 (by decide +kernel) (by decide +kernel)
theorem mI_StringUTF16 : (Cond.initialized RJ2) ∈ lw_all := lw_in 33 (by decide +kernel) (by decide +kernel)
theorem mI_AbstractStringBuilder : (Cond.initialized RJ5) ∈ lw_all := lw_in 34 (by decide +kernel) (by decide +kernel)
theorem mI_StringBuilder : (Cond.initialized RJ4) ∈ lw_all := lw_in 35 (by decide +kernel) (by decide +kernel)
theorem mI_ArraysSupport : (Cond.initialized RJ8) ∈ lw_all := lw_in 36 (by decide +kernel) (by decide +kernel)
theorem mI_Arrays : (Cond.initialized RJ7) ∈ lw_all := lw_in 37 (by decide +kernel) (by decide +kernel)
theorem mI_System : (Cond.initialized RJ10) ∈ lw_all := lw_in 38 (by decide +kernel) (by decide +kernel)
theorem mI_Integer : (Cond.initialized RJ6) ∈ lw_all := lw_in 39 (by decide +kernel) (by decide +kernel)
theorem mK_L_29 : (Cond.classLink RL 29 RX0) ∈ lw_all := lw_in 40 (by decide +kernel) (by decide +kernel)
theorem mB_MissRegistry : (Cond.instantiable RX0 16) ∈ lw_all := lw_in 41 (by decide +kernel) (by decide +kernel)
theorem mM_L_79 : (Cond.methodLink RL 79 yX0_init) ∈ lw_all := lw_in 42 (by decide +kernel) (by decide +kernel)
theorem mV_X0_init : (Cond.instanceMethod yX0_init) ∈ lw_all := lw_in 43 (by decide +kernel) (by decide +kernel)
theorem mC_X0_init : (Cond.code yX0_init cX0_init 1 none) ∈ lw_all := lw_in 44 (by decide +kernel) (by decide +kernel)
theorem mM_X0_1 : (Cond.methodLink RX0 1 objectInit) ∈ lw_all := lw_in 45 (by decide +kernel) (by decide +kernel)
theorem mV_obj : (Cond.instanceMethod objectInit) ∈ lw_all := lw_in 46 (by decide +kernel) (by decide +kernel)
theorem mC_obj : (Cond.code objectInit ⟨#[0xb1]⟩ 1 none) ∈ lw_all := lw_in 47 (by decide +kernel) (by decide +kernel)
theorem mF_X0_9 : (Cond.fieldLink RX0 9 "MissRegistry" "living" "[Z") ∈ lw_all := lw_in 48 (by decide +kernel) (by decide +kernel)
theorem mF_X0_13 : (Cond.fieldLink RX0 13 "MissRegistry" "luck" "[I") ∈ lw_all := lw_in 49 (by decide +kernel) (by decide +kernel)
theorem mF_X0_17 : (Cond.fieldLink RX0 17 "MissRegistry" "purse" "[I") ∈ lw_all := lw_in 50 (by decide +kernel) (by decide +kernel)
theorem mF_X0_20 : (Cond.fieldLink RX0 20 "MissRegistry" "fates" "[I") ∈ lw_all := lw_in 51 (by decide +kernel) (by decide +kernel)
theorem mF_X0_23 : (Cond.fieldLink RX0 23 "MissRegistry" "heirs" "[I") ∈ lw_all := lw_in 52 (by decide +kernel) (by decide +kernel)
theorem mF_X0_48 : (Cond.fieldLink RX0 48 "MissRegistry" "personCount" "I") ∈ lw_all := lw_in 53 (by decide +kernel) (by decide +kernel)
theorem mF_X0_26 : (Cond.fieldLink RX0 26 "MissRegistry" "nerve" "[I") ∈ lw_all := lw_in 54 (by decide +kernel) (by decide +kernel)
theorem mF_X0_29 : (Cond.fieldLink RX0 29 "MissRegistry" "onDuty" "[Z") ∈ lw_all := lw_in 55 (by decide +kernel) (by decide +kernel)
theorem mF_X0_32 : (Cond.fieldLink RX0 32 "MissRegistry" "tales" "[I") ∈ lw_all := lw_in 56 (by decide +kernel) (by decide +kernel)
theorem mF_X0_59 : (Cond.fieldLink RX0 59 "MissRegistry" "witnessCount" "I") ∈ lw_all := lw_in 57 (by decide +kernel) (by decide +kernel)
theorem mF_X0_35 : (Cond.fieldLink RX0 35 "MissRegistry" "missPerson" "[I") ∈ lw_all := lw_in 58 (by decide +kernel) (by decide +kernel)
theorem mF_X0_38 : (Cond.fieldLink RX0 38 "MissRegistry" "missInches" "[I") ∈ lw_all := lw_in 59 (by decide +kernel) (by decide +kernel)
theorem mF_X0_90 : (Cond.fieldLink RX0 90 "MissRegistry" "missCount" "I") ∈ lw_all := lw_in 60 (by decide +kernel) (by decide +kernel)
theorem mF_X0_133 : (Cond.fieldLink RX0 133 "MissRegistry" "nightCount" "I") ∈ lw_all := lw_in 61 (by decide +kernel) (by decide +kernel)
theorem mF_X0_81 : (Cond.fieldLink RX0 81 "MissRegistry" "fundCoins" "I") ∈ lw_all := lw_in 62 (by decide +kernel) (by decide +kernel)
theorem mF_X0_139 : (Cond.fieldLink RX0 139 "MissRegistry" "refundedCoins" "I") ∈ lw_all := lw_in 63 (by decide +kernel) (by decide +kernel)
theorem mP_MissRegistry__Object : (Cond.superclass RX0 "java/lang/Object") ∈ lw_all := lw_in 96 (by decide +kernel) (by decide +kernel)
theorem mA_boolean : (Cond.arrayClass .boolean) ∈ lw_all := lw_in 97 (by decide +kernel) (by decide +kernel)
theorem mA_int : (Cond.arrayClass .int) ∈ lw_all := lw_in 98 (by decide +kernel) (by decide +kernel)
theorem mM_L_84 : (Cond.methodLink RL 84 yX0_persons) ∈ lw_all := lw_in 99 (by decide +kernel) (by decide +kernel)
theorem mV_X0_persons : (Cond.instanceMethod yX0_persons) ∈ lw_all := lw_in 100 (by decide +kernel) (by decide +kernel)
theorem mS_X0_persons : (Cond.selects RX0 yX0_persons yX0_persons) ∈ lw_all := lw_in 101 (by decide +kernel) (by decide +kernel)
theorem mC_X0_persons : (Cond.code yX0_persons cX0_persons 1 (some .int)) ∈ lw_all := lw_in 102 (by decide +kernel) (by decide +kernel)
theorem mM_L_118 : (Cond.methodLink RL 118 yX0_alive) ∈ lw_all := lw_in 103 (by decide +kernel) (by decide +kernel)
theorem mV_X0_alive : (Cond.instanceMethod yX0_alive) ∈ lw_all := lw_in 104 (by decide +kernel) (by decide +kernel)
theorem mS_X0_alive : (Cond.selects RX0 yX0_alive yX0_alive) ∈ lw_all := lw_in 105 (by decide +kernel) (by decide +kernel)
theorem mC_X0_alive : (Cond.code yX0_alive cX0_alive 3 (some .int)) ∈ lw_all := lw_in 106 (by decide +kernel) (by decide +kernel)
theorem mM_L_87 : (Cond.methodLink RL 87 yX0_witnesses) ∈ lw_all := lw_in 107 (by decide +kernel) (by decide +kernel)
theorem mV_X0_witnesses : (Cond.instanceMethod yX0_witnesses) ∈ lw_all := lw_in 108 (by decide +kernel) (by decide +kernel)
theorem mS_X0_witnesses : (Cond.selects RX0 yX0_witnesses yX0_witnesses) ∈ lw_all := lw_in 109 (by decide +kernel) (by decide +kernel)
theorem mC_X0_witnesses : (Cond.code yX0_witnesses cX0_witnesses 1 (some .int)) ∈ lw_all := lw_in 110 (by decide +kernel) (by decide +kernel)
theorem mM_L_152 : (Cond.methodLink RL 152 yX0_shaken) ∈ lw_all := lw_in 111 (by decide +kernel) (by decide +kernel)
theorem mV_X0_shaken : (Cond.instanceMethod yX0_shaken) ∈ lw_all := lw_in 112 (by decide +kernel) (by decide +kernel)
theorem mS_X0_shaken : (Cond.selects RX0 yX0_shaken yX0_shaken) ∈ lw_all := lw_in 113 (by decide +kernel) (by decide +kernel)
theorem mC_X0_shaken : (Cond.code yX0_shaken cX0_shaken 3 (some .int)) ∈ lw_all := lw_in 114 (by decide +kernel) (by decide +kernel)
theorem mM_X0_136 : (Cond.methodLink RX0 136 yX0_isShaken) ∈ lw_all := lw_in 115 (by decide +kernel) (by decide +kernel)
theorem mV_X0_isShaken : (Cond.instanceMethod yX0_isShaken) ∈ lw_all := lw_in 117 (by decide +kernel) (by decide +kernel)
theorem mC_X0_isShaken : (Cond.code yX0_isShaken cX0_isShaken 2 (some .boolean)) ∈ lw_all := lw_in 118 (by decide +kernel) (by decide +kernel)
theorem mM_L_89 : (Cond.methodLink RL 89 yX0_fund) ∈ lw_all := lw_in 119 (by decide +kernel) (by decide +kernel)
theorem mV_X0_fund : (Cond.instanceMethod yX0_fund) ∈ lw_all := lw_in 120 (by decide +kernel) (by decide +kernel)
theorem mS_X0_fund : (Cond.selects RX0 yX0_fund yX0_fund) ∈ lw_all := lw_in 121 (by decide +kernel) (by decide +kernel)
theorem mC_X0_fund : (Cond.code yX0_fund cX0_fund 1 (some .int)) ∈ lw_all := lw_in 122 (by decide +kernel) (by decide +kernel)
theorem mM_L_123 : (Cond.methodLink RL 123 yX0_refunded) ∈ lw_all := lw_in 123 (by decide +kernel) (by decide +kernel)
theorem mV_X0_refunded : (Cond.instanceMethod yX0_refunded) ∈ lw_all := lw_in 124 (by decide +kernel) (by decide +kernel)
theorem mS_X0_refunded : (Cond.selects RX0 yX0_refunded yX0_refunded) ∈ lw_all := lw_in 125 (by decide +kernel) (by decide +kernel)
theorem mC_X0_refunded : (Cond.code yX0_refunded cX0_refunded 1 (some .int)) ∈ lw_all := lw_in 126 (by decide +kernel) (by decide +kernel)
theorem mM_L_121 : (Cond.methodLink RL 121 yX0_misses) ∈ lw_all := lw_in 127 (by decide +kernel) (by decide +kernel)
theorem mV_X0_misses : (Cond.instanceMethod yX0_misses) ∈ lw_all := lw_in 128 (by decide +kernel) (by decide +kernel)
theorem mS_X0_misses : (Cond.selects RX0 yX0_misses yX0_misses) ∈ lw_all := lw_in 129 (by decide +kernel) (by decide +kernel)
theorem mC_X0_misses : (Cond.code yX0_misses cX0_misses 1 (some .int)) ∈ lw_all := lw_in 130 (by decide +kernel) (by decide +kernel)
theorem mM_L_126 : (Cond.methodLink RL 126 yX0_certified) ∈ lw_all := lw_in 131 (by decide +kernel) (by decide +kernel)
theorem mV_X0_certified : (Cond.instanceMethod yX0_certified) ∈ lw_all := lw_in 132 (by decide +kernel) (by decide +kernel)
theorem mS_X0_certified : (Cond.selects RX0 yX0_certified yX0_certified) ∈ lw_all := lw_in 133 (by decide +kernel) (by decide +kernel)
theorem mC_X0_certified : (Cond.code yX0_certified cX0_certified 3 (some .int)) ∈ lw_all := lw_in 134 (by decide +kernel) (by decide +kernel)
theorem mM_L_91 : (Cond.methodLink RL 91 yX0_isAlive) ∈ lw_all := lw_in 135 (by decide +kernel) (by decide +kernel)
theorem mV_X0_isAlive : (Cond.instanceMethod yX0_isAlive) ∈ lw_all := lw_in 136 (by decide +kernel) (by decide +kernel)
theorem mS_X0_isAlive : (Cond.selects RX0 yX0_isAlive yX0_isAlive) ∈ lw_all := lw_in 137 (by decide +kernel) (by decide +kernel)
theorem mC_X0_isAlive : (Cond.code yX0_isAlive cX0_isAlive 2 (some .boolean)) ∈ lw_all := lw_in 138 (by decide +kernel) (by decide +kernel)
theorem mM_X0_64 : (Cond.methodLink RX0 64 yX0_requirePerson) ∈ lw_all := lw_in 139 (by decide +kernel) (by decide +kernel)
theorem mV_X0_requirePerson : (Cond.instanceMethod yX0_requirePerson) ∈ lw_all := lw_in 141 (by decide +kernel) (by decide +kernel)
theorem mC_X0_requirePerson : (Cond.code yX0_requirePerson cX0_requirePerson 2 none) ∈ lw_all := lw_in 142 (by decide +kernel) (by decide +kernel)
theorem mM_X0_117 : (Cond.methodLink RX0 117 yX0_isPerson) ∈ lw_all := lw_in 143 (by decide +kernel) (by decide +kernel)
theorem mV_X0_isPerson : (Cond.instanceMethod yX0_isPerson) ∈ lw_all := lw_in 145 (by decide +kernel) (by decide +kernel)
theorem mC_X0_isPerson : (Cond.code yX0_isPerson cX0_isPerson 2 (some .boolean)) ∈ lw_all := lw_in 146 (by decide +kernel) (by decide +kernel)
theorem mK_X0_184 : (Cond.classLink RX0 184 "java/lang/IndexOutOfBoundsException") ∈ lw_all := lw_in 147 (by decide +kernel) (by decide +kernel)
theorem mB_IndexOutOfBoundsException : (Cond.instantiable "java/lang/IndexOutOfBoundsException" 6) ∈ lw_all := lw_in 148 (by decide +kernel) (by decide +kernel)
theorem mS_java_lang_Throwable_fillInStackTrace_I_Ljava_lang_Throwable_IndexOutOfBoundsException : (Cond.selects "java/lang/IndexOutOfBoundsException" ⟨"java/lang/Throwable", "fillInStackTrace", "(I)Ljava/lang/Throwable;"⟩ ⟨"java/lang/Throwable", "fillInStackTrace", "(I)Ljava/lang/Throwable;"⟩) ∈ lw_all := lw_in 156 (by decide +kernel) (by decide +kernel)
theorem mS_java_lang_Throwable_fillInStackTrace_Ljava_lang_Throwable_IndexOutOfBoundsException : (Cond.selects "java/lang/IndexOutOfBoundsException" ⟨"java/lang/Throwable", "fillInStackTrace", "()Ljava/lang/Throwable;"⟩ ⟨"java/lang/Throwable", "fillInStackTrace", "()Ljava/lang/Throwable;"⟩) ∈ lw_all := lw_in 157 (by decide +kernel) (by decide +kernel)
theorem mF_java_lang_Throwable_198 : (Cond.fieldLink "java/lang/Throwable" 198 "java/lang/Throwable" "backtrace" "Ljava/lang/Object;") ∈ lw_all := lw_in 168 (by decide +kernel) (by decide +kernel)
theorem mP_Throwable__Object : (Cond.superclass "java/lang/Throwable" "java/lang/Object") ∈ lw_all := lw_in 169 (by decide +kernel) (by decide +kernel)
theorem mV_java_lang_Throwable_init_V : (Cond.instanceMethod ⟨"java/lang/Throwable", "<init>", "()V"⟩) ∈ lw_all := lw_in 170 (by decide +kernel) (by decide +kernel)
theorem mC_java_lang_Throwable_init_V : (Cond.code ⟨"java/lang/Throwable", "<init>", "()V"⟩ prog_19_method_1_code 1 none) ∈ lw_all := lw_in 171 (by decide +kernel) (by decide +kernel)
theorem mM_java_lang_Throwable_1 : (Cond.methodLink "java/lang/Throwable" 1 objectInit) ∈ lw_all := lw_in 172 (by decide +kernel) (by decide +kernel)
theorem mF_java_lang_Throwable_13 : (Cond.fieldLink "java/lang/Throwable" 13 "java/lang/Throwable" "UNASSIGNED_STACK" "[Ljava/lang/StackTraceElement;") ∈ lw_all := lw_in 173 (by decide +kernel) (by decide +kernel)
theorem mF_java_lang_Throwable_20 : (Cond.fieldLink "java/lang/Throwable" 20 "java/lang/Throwable" "SUPPRESSED_SENTINEL" "Ljava/util/List;") ∈ lw_all := lw_in 175 (by decide +kernel) (by decide +kernel)
theorem mM_java_lang_Throwable_27 : (Cond.methodLink "java/lang/Throwable" 27 ⟨"java/lang/Throwable", "fillInStackTrace", "()Ljava/lang/Throwable;"⟩) ∈ lw_all := lw_in 177 (by decide +kernel) (by decide +kernel)
theorem mV_java_lang_Throwable_fillInStackTrace_Ljava_lang_Throwable : (Cond.instanceMethod ⟨"java/lang/Throwable", "fillInStackTrace", "()Ljava/lang/Throwable;"⟩) ∈ lw_all := lw_in 178 (by decide +kernel) (by decide +kernel)
theorem mE_Throwable___fillInStackTrace___Ljava_lang_Throwable : (Cond.sameMethod "java/lang/Throwable" "java/lang/Throwable" "fillInStackTrace" "()Ljava/lang/Throwable;") ∈ lw_all := lw_in 179 (by decide +kernel) (by decide +kernel)
theorem mS_java_lang_Throwable_fillInStackTrace_Ljava_lang_Throwable_IllegalArgumentException : (Cond.selects "java/lang/IllegalArgumentException" ⟨"java/lang/Throwable", "fillInStackTrace", "()Ljava/lang/Throwable;"⟩ ⟨"java/lang/Throwable", "fillInStackTrace", "()Ljava/lang/Throwable;"⟩) ∈ lw_all := lw_in 180 (by decide +kernel) (by decide +kernel)
theorem mS_java_lang_Throwable_fillInStackTrace_Ljava_lang_Throwable_IllegalStateException : (Cond.selects "java/lang/IllegalStateException" ⟨"java/lang/Throwable", "fillInStackTrace", "()Ljava/lang/Throwable;"⟩ ⟨"java/lang/Throwable", "fillInStackTrace", "()Ljava/lang/Throwable;"⟩) ∈ lw_all := lw_in 181 (by decide +kernel) (by decide +kernel)
theorem mC_java_lang_Throwable_fillInStackTrace_Ljava_lang_Throwable : (Cond.codeSync ⟨"java/lang/Throwable", "fillInStackTrace", "()Ljava/lang/Throwable;"⟩ prog_19_method_18_code 1 (some (.object "java/lang/Throwable"))) ∈ lw_all := lw_in 182 (by decide +kernel) (by decide +kernel)
theorem mM_java_lang_Throwable_202 : (Cond.methodLink "java/lang/Throwable" 202 ⟨"java/lang/Throwable", "fillInStackTrace", "(I)Ljava/lang/Throwable;"⟩) ∈ lw_all := lw_in 183 (by decide +kernel) (by decide +kernel)
theorem mV_java_lang_Throwable_fillInStackTrace_I_Ljava_lang_Throwable : (Cond.instanceMethod ⟨"java/lang/Throwable", "fillInStackTrace", "(I)Ljava/lang/Throwable;"⟩) ∈ lw_all := lw_in 185 (by decide +kernel) (by decide +kernel)
theorem mB_Throwable : (Cond.instantiable "java/lang/Throwable" 6) ∈ lw_all := lw_in 186 (by decide +kernel) (by decide +kernel)
theorem mN_java_lang_Throwable_fillInStackTrace_I_Ljava_lang_Throwable : (Cond.native ⟨"java/lang/Throwable", "fillInStackTrace", "(I)Ljava/lang/Throwable;"⟩) ∈ lw_all := lw_in 187 (by decide +kernel) (by decide +kernel)
theorem mM_X0_188 : (Cond.methodLink RX0 188 ⟨"java/lang/IndexOutOfBoundsException", "<init>", "(Ljava/lang/String;)V"⟩) ∈ lw_all := lw_in 189 (by decide +kernel) (by decide +kernel)
theorem mV_java_lang_IndexOutOfBoundsException_init_Ljava_lang_String_V : (Cond.instanceMethod ⟨"java/lang/IndexOutOfBoundsException", "<init>", "(Ljava/lang/String;)V"⟩) ∈ lw_all := lw_in 190 (by decide +kernel) (by decide +kernel)
theorem mC_java_lang_IndexOutOfBoundsException_init_Ljava_lang_String_V : (Cond.code ⟨"java/lang/IndexOutOfBoundsException", "<init>", "(Ljava/lang/String;)V"⟩ prog_10_method_2_code 2 none) ∈ lw_all := lw_in 191 (by decide +kernel) (by decide +kernel)
theorem mM_java_lang_IndexOutOfBoundsException_7 : (Cond.methodLink "java/lang/IndexOutOfBoundsException" 7 ⟨"java/lang/RuntimeException", "<init>", "(Ljava/lang/String;)V"⟩) ∈ lw_all := lw_in 192 (by decide +kernel) (by decide +kernel)
theorem mV_java_lang_RuntimeException_init_Ljava_lang_String_V : (Cond.instanceMethod ⟨"java/lang/RuntimeException", "<init>", "(Ljava/lang/String;)V"⟩) ∈ lw_all := lw_in 193 (by decide +kernel) (by decide +kernel)
theorem mC_java_lang_RuntimeException_init_Ljava_lang_String_V : (Cond.code ⟨"java/lang/RuntimeException", "<init>", "(Ljava/lang/String;)V"⟩ prog_13_method_2_code 2 none) ∈ lw_all := lw_in 194 (by decide +kernel) (by decide +kernel)
theorem mM_java_lang_RuntimeException_7 : (Cond.methodLink "java/lang/RuntimeException" 7 ⟨"java/lang/Exception", "<init>", "(Ljava/lang/String;)V"⟩) ∈ lw_all := lw_in 195 (by decide +kernel) (by decide +kernel)
theorem mV_java_lang_Exception_init_Ljava_lang_String_V : (Cond.instanceMethod ⟨"java/lang/Exception", "<init>", "(Ljava/lang/String;)V"⟩) ∈ lw_all := lw_in 196 (by decide +kernel) (by decide +kernel)
theorem mC_java_lang_Exception_init_Ljava_lang_String_V : (Cond.code ⟨"java/lang/Exception", "<init>", "(Ljava/lang/String;)V"⟩ prog_7_method_2_code 2 none) ∈ lw_all := lw_in 197 (by decide +kernel) (by decide +kernel)
theorem mM_java_lang_Exception_7 : (Cond.methodLink "java/lang/Exception" 7 ⟨"java/lang/Throwable", "<init>", "(Ljava/lang/String;)V"⟩) ∈ lw_all := lw_in 198 (by decide +kernel) (by decide +kernel)
theorem mV_java_lang_Throwable_init_Ljava_lang_String_V : (Cond.instanceMethod ⟨"java/lang/Throwable", "<init>", "(Ljava/lang/String;)V"⟩) ∈ lw_all := lw_in 199 (by decide +kernel) (by decide +kernel)
theorem mC_java_lang_Throwable_init_Ljava_lang_String_V : (Cond.code ⟨"java/lang/Throwable", "<init>", "(Ljava/lang/String;)V"⟩ prog_19_method_2_code 2 none) ∈ lw_all := lw_in 200 (by decide +kernel) (by decide +kernel)
theorem mF_java_lang_Throwable_31 : (Cond.fieldLink "java/lang/Throwable" 31 "java/lang/Throwable" "detailMessage" "Ljava/lang/String;") ∈ lw_all := lw_in 202 (by decide +kernel) (by decide +kernel)
theorem mF_java_lang_Throwable_7 : (Cond.fieldLink "java/lang/Throwable" 7 "java/lang/Throwable" "cause" "Ljava/lang/Throwable;") ∈ lw_all := lw_in 203 (by decide +kernel) (by decide +kernel)
theorem mF_java_lang_Throwable_17 : (Cond.fieldLink "java/lang/Throwable" 17 "java/lang/Throwable" "stackTrace" "[Ljava/lang/StackTraceElement;") ∈ lw_all := lw_in 204 (by decide +kernel) (by decide +kernel)
theorem mF_java_lang_Throwable_24 : (Cond.fieldLink "java/lang/Throwable" 24 "java/lang/Throwable" "suppressedExceptions" "Ljava/util/List;") ∈ lw_all := lw_in 205 (by decide +kernel) (by decide +kernel)
theorem mP_IndexOutOfBoundsException__RuntimeException : (Cond.superclass "java/lang/IndexOutOfBoundsException" "java/lang/RuntimeException") ∈ lw_all := lw_in 213 (by decide +kernel) (by decide +kernel)
theorem mA_byte : (Cond.arrayClass .byte) ∈ lw_all := lw_in 214 (by decide +kernel) (by decide +kernel)
theorem mM_L_103 : (Cond.methodLink RL 103 yX0_luckOf) ∈ lw_all := lw_in 215 (by decide +kernel) (by decide +kernel)
theorem mV_X0_luckOf : (Cond.instanceMethod yX0_luckOf) ∈ lw_all := lw_in 216 (by decide +kernel) (by decide +kernel)
theorem mS_X0_luckOf : (Cond.selects RX0 yX0_luckOf yX0_luckOf) ∈ lw_all := lw_in 217 (by decide +kernel) (by decide +kernel)
theorem mC_X0_luckOf : (Cond.code yX0_luckOf cX0_luckOf 2 (some .int)) ∈ lw_all := lw_in 218 (by decide +kernel) (by decide +kernel)
theorem mM_L_97 : (Cond.methodLink RL 97 yX0_purseOf) ∈ lw_all := lw_in 219 (by decide +kernel) (by decide +kernel)
theorem mV_X0_purseOf : (Cond.instanceMethod yX0_purseOf) ∈ lw_all := lw_in 220 (by decide +kernel) (by decide +kernel)
theorem mS_X0_purseOf : (Cond.selects RX0 yX0_purseOf yX0_purseOf) ∈ lw_all := lw_in 221 (by decide +kernel) (by decide +kernel)
theorem mC_X0_purseOf : (Cond.code yX0_purseOf cX0_purseOf 2 (some .int)) ∈ lw_all := lw_in 222 (by decide +kernel) (by decide +kernel)
theorem mM_L_106 : (Cond.methodLink RL 106 yX0_fatesOf) ∈ lw_all := lw_in 223 (by decide +kernel) (by decide +kernel)
theorem mV_X0_fatesOf : (Cond.instanceMethod yX0_fatesOf) ∈ lw_all := lw_in 224 (by decide +kernel) (by decide +kernel)
theorem mS_X0_fatesOf : (Cond.selects RX0 yX0_fatesOf yX0_fatesOf) ∈ lw_all := lw_in 225 (by decide +kernel) (by decide +kernel)
theorem mC_X0_fatesOf : (Cond.code yX0_fatesOf cX0_fatesOf 2 (some .int)) ∈ lw_all := lw_in 226 (by decide +kernel) (by decide +kernel)
theorem mM_L_112 : (Cond.methodLink RL 112 yX0_heirOf) ∈ lw_all := lw_in 227 (by decide +kernel) (by decide +kernel)
theorem mV_X0_heirOf : (Cond.instanceMethod yX0_heirOf) ∈ lw_all := lw_in 228 (by decide +kernel) (by decide +kernel)
theorem mS_X0_heirOf : (Cond.selects RX0 yX0_heirOf yX0_heirOf) ∈ lw_all := lw_in 229 (by decide +kernel) (by decide +kernel)
theorem mC_X0_heirOf : (Cond.code yX0_heirOf cX0_heirOf 2 (some .int)) ∈ lw_all := lw_in 230 (by decide +kernel) (by decide +kernel)
theorem mM_L_94 : (Cond.methodLink RL 94 yX0_lastHeirOf) ∈ lw_all := lw_in 231 (by decide +kernel) (by decide +kernel)
theorem mV_X0_lastHeirOf : (Cond.instanceMethod yX0_lastHeirOf) ∈ lw_all := lw_in 232 (by decide +kernel) (by decide +kernel)
theorem mS_X0_lastHeirOf : (Cond.selects RX0 yX0_lastHeirOf yX0_lastHeirOf) ∈ lw_all := lw_in 233 (by decide +kernel) (by decide +kernel)
theorem mC_X0_lastHeirOf : (Cond.code yX0_lastHeirOf cX0_lastHeirOf 2 (some .int)) ∈ lw_all := lw_in 234 (by decide +kernel) (by decide +kernel)
theorem mM_X0_114 : (Cond.methodLink RX0 114 yX0_findLastHeir) ∈ lw_all := lw_in 235 (by decide +kernel) (by decide +kernel)
theorem mV_X0_findLastHeir : (Cond.instanceMethod yX0_findLastHeir) ∈ lw_all := lw_in 237 (by decide +kernel) (by decide +kernel)
theorem mC_X0_findLastHeir : (Cond.code yX0_findLastHeir cX0_findLastHeir 4 (some .int)) ∈ lw_all := lw_in 238 (by decide +kernel) (by decide +kernel)
theorem mM_L_109 : (Cond.methodLink RL 109 yX0_priceFor) ∈ lw_all := lw_in 239 (by decide +kernel) (by decide +kernel)
theorem mV_X0_priceFor : (Cond.instanceMethod yX0_priceFor) ∈ lw_all := lw_in 240 (by decide +kernel) (by decide +kernel)
theorem mS_X0_priceFor : (Cond.selects RX0 yX0_priceFor yX0_priceFor) ∈ lw_all := lw_in 241 (by decide +kernel) (by decide +kernel)
theorem mC_X0_priceFor : (Cond.code yX0_priceFor cX0_priceFor 2 (some .int)) ∈ lw_all := lw_in 242 (by decide +kernel) (by decide +kernel)
theorem mM_X0_75 : (Cond.methodLink RX0 75 yX0_fatePrice) ∈ lw_all := lw_in 243 (by decide +kernel) (by decide +kernel)
theorem mV_X0_fatePrice : (Cond.instanceMethod yX0_fatePrice) ∈ lw_all := lw_in 245 (by decide +kernel) (by decide +kernel)
theorem mC_X0_fatePrice : (Cond.code yX0_fatePrice cX0_fatePrice 2 (some .int)) ∈ lw_all := lw_in 246 (by decide +kernel) (by decide +kernel)
theorem mM_L_100 : (Cond.methodLink RL 100 yX0_missesOf) ∈ lw_all := lw_in 247 (by decide +kernel) (by decide +kernel)
theorem mV_X0_missesOf : (Cond.instanceMethod yX0_missesOf) ∈ lw_all := lw_in 248 (by decide +kernel) (by decide +kernel)
theorem mS_X0_missesOf : (Cond.selects RX0 yX0_missesOf yX0_missesOf) ∈ lw_all := lw_in 249 (by decide +kernel) (by decide +kernel)
theorem mC_X0_missesOf : (Cond.code yX0_missesOf cX0_missesOf 4 (some .int)) ∈ lw_all := lw_in 250 (by decide +kernel) (by decide +kernel)
theorem mM_L_132 : (Cond.methodLink RL 132 yX0_nerveOf) ∈ lw_all := lw_in 251 (by decide +kernel) (by decide +kernel)
theorem mV_X0_nerveOf : (Cond.instanceMethod yX0_nerveOf) ∈ lw_all := lw_in 252 (by decide +kernel) (by decide +kernel)
theorem mS_X0_nerveOf : (Cond.selects RX0 yX0_nerveOf yX0_nerveOf) ∈ lw_all := lw_in 253 (by decide +kernel) (by decide +kernel)
theorem mC_X0_nerveOf : (Cond.code yX0_nerveOf cX0_nerveOf 2 (some .int)) ∈ lw_all := lw_in 254 (by decide +kernel) (by decide +kernel)
theorem mM_X0_84 : (Cond.methodLink RX0 84 yX0_requireWitness) ∈ lw_all := lw_in 255 (by decide +kernel) (by decide +kernel)
theorem mV_X0_requireWitness : (Cond.instanceMethod yX0_requireWitness) ∈ lw_all := lw_in 257 (by decide +kernel) (by decide +kernel)
theorem mC_X0_requireWitness : (Cond.code yX0_requireWitness cX0_requireWitness 2 none) ∈ lw_all := lw_in 258 (by decide +kernel) (by decide +kernel)
theorem mM_X0_157 : (Cond.methodLink RX0 157 yX0_isWitness) ∈ lw_all := lw_in 259 (by decide +kernel) (by decide +kernel)
theorem mV_X0_isWitness : (Cond.instanceMethod yX0_isWitness) ∈ lw_all := lw_in 261 (by decide +kernel) (by decide +kernel)
theorem mC_X0_isWitness : (Cond.code yX0_isWitness cX0_isWitness 2 (some .boolean)) ∈ lw_all := lw_in 262 (by decide +kernel) (by decide +kernel)
theorem mM_L_135 : (Cond.methodLink RL 135 yX0_isOnDuty) ∈ lw_all := lw_in 264 (by decide +kernel) (by decide +kernel)
theorem mV_X0_isOnDuty : (Cond.instanceMethod yX0_isOnDuty) ∈ lw_all := lw_in 265 (by decide +kernel) (by decide +kernel)
theorem mS_X0_isOnDuty : (Cond.selects RX0 yX0_isOnDuty yX0_isOnDuty) ∈ lw_all := lw_in 266 (by decide +kernel) (by decide +kernel)
theorem mC_X0_isOnDuty : (Cond.code yX0_isOnDuty cX0_isOnDuty 2 (some .boolean)) ∈ lw_all := lw_in 267 (by decide +kernel) (by decide +kernel)
theorem mM_L_129 : (Cond.methodLink RL 129 yX0_wouldTell) ∈ lw_all := lw_in 268 (by decide +kernel) (by decide +kernel)
theorem mV_X0_wouldTell : (Cond.instanceMethod yX0_wouldTell) ∈ lw_all := lw_in 269 (by decide +kernel) (by decide +kernel)
theorem mS_X0_wouldTell : (Cond.selects RX0 yX0_wouldTell yX0_wouldTell) ∈ lw_all := lw_in 270 (by decide +kernel) (by decide +kernel)
theorem mC_X0_wouldTell : (Cond.code yX0_wouldTell cX0_wouldTell 3 (some .int)) ∈ lw_all := lw_in 271 (by decide +kernel) (by decide +kernel)
theorem mM_X0_87 : (Cond.methodLink RX0 87 yX0_requireInches) ∈ lw_all := lw_in 272 (by decide +kernel) (by decide +kernel)
theorem mV_X0_requireInches : (Cond.instanceMethod yX0_requireInches) ∈ lw_all := lw_in 274 (by decide +kernel) (by decide +kernel)
theorem mC_X0_requireInches : (Cond.code yX0_requireInches cX0_requireInches 2 none) ∈ lw_all := lw_in 275 (by decide +kernel) (by decide +kernel)
theorem mK_X0_41 : (Cond.classLink RX0 41 "java/lang/IllegalArgumentException") ∈ lw_all := lw_in 276 (by decide +kernel) (by decide +kernel)
theorem mB_IllegalArgumentException : (Cond.instantiable "java/lang/IllegalArgumentException" 6) ∈ lw_all := lw_in 277 (by decide +kernel) (by decide +kernel)
theorem mS_java_lang_Throwable_fillInStackTrace_I_Ljava_lang_Throwable_IllegalArgumentException : (Cond.selects "java/lang/IllegalArgumentException" ⟨"java/lang/Throwable", "fillInStackTrace", "(I)Ljava/lang/Throwable;"⟩ ⟨"java/lang/Throwable", "fillInStackTrace", "(I)Ljava/lang/Throwable;"⟩) ∈ lw_all := lw_in 279 (by decide +kernel) (by decide +kernel)
theorem mM_X0_45 : (Cond.methodLink RX0 45 ⟨"java/lang/IllegalArgumentException", "<init>", "(Ljava/lang/String;)V"⟩) ∈ lw_all := lw_in 286 (by decide +kernel) (by decide +kernel)
theorem mV_java_lang_IllegalArgumentException_init_Ljava_lang_String_V : (Cond.instanceMethod ⟨"java/lang/IllegalArgumentException", "<init>", "(Ljava/lang/String;)V"⟩) ∈ lw_all := lw_in 287 (by decide +kernel) (by decide +kernel)
theorem mC_java_lang_IllegalArgumentException_init_Ljava_lang_String_V : (Cond.code ⟨"java/lang/IllegalArgumentException", "<init>", "(Ljava/lang/String;)V"⟩ prog_8_method_2_code 2 none) ∈ lw_all := lw_in 288 (by decide +kernel) (by decide +kernel)
theorem mM_java_lang_IllegalArgumentException_7 : (Cond.methodLink "java/lang/IllegalArgumentException" 7 ⟨"java/lang/RuntimeException", "<init>", "(Ljava/lang/String;)V"⟩) ∈ lw_all := lw_in 289 (by decide +kernel) (by decide +kernel)
theorem mP_IllegalArgumentException__RuntimeException : (Cond.superclass "java/lang/IllegalArgumentException" "java/lang/RuntimeException") ∈ lw_all := lw_in 291 (by decide +kernel) (by decide +kernel)
theorem mM_X0_142 : (Cond.methodLink RX0 142 yX0_tale) ∈ lw_all := lw_in 292 (by decide +kernel) (by decide +kernel)
theorem mV_X0_tale : (Cond.instanceMethod yX0_tale) ∈ lw_all := lw_in 294 (by decide +kernel) (by decide +kernel)
theorem mC_X0_tale : (Cond.code yX0_tale cX0_tale 3 (some .int)) ∈ lw_all := lw_in 295 (by decide +kernel) (by decide +kernel)
theorem mM_X0_102 : (Cond.methodLink RX0 102 Lib.Math.max.name) ∈ lw_all := lw_in 296 (by decide +kernel) (by decide +kernel)
theorem mT_max : (Cond.static Lib.Math.max.name) ∈ lw_all := lw_in 297 (by decide +kernel) (by decide +kernel)
theorem mC_max : (Cond.code Lib.Math.max.name Lib.Math.max.code 2 (some .int)) ∈ lw_all := lw_in 298 (by decide +kernel) (by decide +kernel)
theorem mM_L_164 : (Cond.methodLink RL 164 yX0_personOf) ∈ lw_all := lw_in 299 (by decide +kernel) (by decide +kernel)
theorem mV_X0_personOf : (Cond.instanceMethod yX0_personOf) ∈ lw_all := lw_in 300 (by decide +kernel) (by decide +kernel)
theorem mS_X0_personOf : (Cond.selects RX0 yX0_personOf yX0_personOf) ∈ lw_all := lw_in 301 (by decide +kernel) (by decide +kernel)
theorem mC_X0_personOf : (Cond.code yX0_personOf cX0_personOf 2 (some .int)) ∈ lw_all := lw_in 302 (by decide +kernel) (by decide +kernel)
theorem mM_X0_145 : (Cond.methodLink RX0 145 yX0_requireMiss) ∈ lw_all := lw_in 303 (by decide +kernel) (by decide +kernel)
theorem mV_X0_requireMiss : (Cond.instanceMethod yX0_requireMiss) ∈ lw_all := lw_in 305 (by decide +kernel) (by decide +kernel)
theorem mC_X0_requireMiss : (Cond.code yX0_requireMiss cX0_requireMiss 2 none) ∈ lw_all := lw_in 306 (by decide +kernel) (by decide +kernel)
theorem mM_L_161 : (Cond.methodLink RL 161 yX0_inchesOf) ∈ lw_all := lw_in 308 (by decide +kernel) (by decide +kernel)
theorem mV_X0_inchesOf : (Cond.instanceMethod yX0_inchesOf) ∈ lw_all := lw_in 309 (by decide +kernel) (by decide +kernel)
theorem mS_X0_inchesOf : (Cond.selects RX0 yX0_inchesOf yX0_inchesOf) ∈ lw_all := lw_in 310 (by decide +kernel) (by decide +kernel)
theorem mC_X0_inchesOf : (Cond.code yX0_inchesOf cX0_inchesOf 2 (some .int)) ∈ lw_all := lw_in 311 (by decide +kernel) (by decide +kernel)
theorem mM_L_167 : (Cond.methodLink RL 167 yX0_sealOf) ∈ lw_all := lw_in 312 (by decide +kernel) (by decide +kernel)
theorem mV_X0_sealOf : (Cond.instanceMethod yX0_sealOf) ∈ lw_all := lw_in 313 (by decide +kernel) (by decide +kernel)
theorem mS_X0_sealOf : (Cond.selects RX0 yX0_sealOf yX0_sealOf) ∈ lw_all := lw_in 314 (by decide +kernel) (by decide +kernel)
theorem mC_X0_sealOf : (Cond.code yX0_sealOf cX0_sealOf 2 (some .int)) ∈ lw_all := lw_in 315 (by decide +kernel) (by decide +kernel)
theorem mM_X0_148 : (Cond.methodLink RX0 148 yX0_certificateSeal) ∈ lw_all := lw_in 316 (by decide +kernel) (by decide +kernel)
theorem mT_X0_certificateSeal : (Cond.static yX0_certificateSeal) ∈ lw_all := lw_in 317 (by decide +kernel) (by decide +kernel)
theorem mC_X0_certificateSeal : (Cond.code yX0_certificateSeal cX0_certificateSeal 3 (some .int)) ∈ lw_all := lw_in 318 (by decide +kernel) (by decide +kernel)
theorem mM_X0_209 : (Cond.methodLink RX0 209 yX0_sealText) ∈ lw_all := lw_in 320 (by decide +kernel) (by decide +kernel)
theorem mT_X0_sealText : (Cond.static yX0_sealText) ∈ lw_all := lw_in 321 (by decide +kernel) (by decide +kernel)
theorem mC_X0_sealText : (Cond.code yX0_sealText cX0_sealText 3 (some .int)) ∈ lw_all := lw_in 322 (by decide +kernel) (by decide +kernel)
theorem mM_X0_222 : (Cond.methodLink RX0 222 yJ0_length_8abf5) ∈ lw_all := lw_in 323 (by decide +kernel) (by decide +kernel)
theorem mV_J0_length_8abf5 : (Cond.instanceMethod yJ0_length_8abf5) ∈ lw_all := lw_in 324 (by decide +kernel) (by decide +kernel)
theorem mS_J0_length_8abf5 : (Cond.selects RJ0 yJ0_length_8abf5 yJ0_length_8abf5) ∈ lw_all := lw_in 325 (by decide +kernel) (by decide +kernel)
theorem mC_J0_length_8abf5 : (Cond.code yJ0_length_8abf5 cJ0_length_8abf5 1 (some .int)) ∈ lw_all := lw_in 326 (by decide +kernel) (by decide +kernel)
theorem mM_J0_335 : (Cond.methodLink RJ0 335 yJ0_coder_7d493) ∈ lw_all := lw_in 327 (by decide +kernel) (by decide +kernel)
theorem mV_J0_coder_7d493 : (Cond.instanceMethod yJ0_coder_7d493) ∈ lw_all := lw_in 328 (by decide +kernel) (by decide +kernel)
theorem mS_J0_coder_7d493 : (Cond.selects RJ0 yJ0_coder_7d493 yJ0_coder_7d493) ∈ lw_all := lw_in 329 (by decide +kernel) (by decide +kernel)
theorem mC_J0_coder_7d493 : (Cond.code yJ0_coder_7d493 cJ0_coder_7d493 1 (some .byte)) ∈ lw_all := lw_in 330 (by decide +kernel) (by decide +kernel)
theorem mF_J0_38 : (Cond.fieldLink RJ0 38 "java/lang/String" "COMPACT_STRINGS" "Z") ∈ lw_all := lw_in 331 (by decide +kernel) (by decide +kernel)
theorem mM_X0_227 : (Cond.methodLink RX0 227 yJ0_charAt_5068e) ∈ lw_all := lw_in 333 (by decide +kernel) (by decide +kernel)
theorem mV_J0_charAt_5068e : (Cond.instanceMethod yJ0_charAt_5068e) ∈ lw_all := lw_in 334 (by decide +kernel) (by decide +kernel)
theorem mS_J0_charAt_5068e : (Cond.selects RJ0 yJ0_charAt_5068e yJ0_charAt_5068e) ∈ lw_all := lw_in 335 (by decide +kernel) (by decide +kernel)
theorem mC_J0_charAt_5068e : (Cond.code yJ0_charAt_5068e cJ0_charAt_5068e 2 (some .char)) ∈ lw_all := lw_in 336 (by decide +kernel) (by decide +kernel)
theorem mM_J0_492 : (Cond.methodLink RJ0 492 yJ0_isLatin1_aae02) ∈ lw_all := lw_in 337 (by decide +kernel) (by decide +kernel)
theorem mV_J0_isLatin1_aae02 : (Cond.instanceMethod yJ0_isLatin1_aae02) ∈ lw_all := lw_in 338 (by decide +kernel) (by decide +kernel)
theorem mS_J0_isLatin1_aae02 : (Cond.selects RJ0 yJ0_isLatin1_aae02 yJ0_isLatin1_aae02) ∈ lw_all := lw_in 339 (by decide +kernel) (by decide +kernel)
theorem mC_J0_isLatin1_aae02 : (Cond.code yJ0_isLatin1_aae02 cJ0_isLatin1_aae02 1 (some .boolean)) ∈ lw_all := lw_in 340 (by decide +kernel) (by decide +kernel)
theorem mM_J0_495 : (Cond.methodLink RJ0 495 yJ1_charAt_3b067) ∈ lw_all := lw_in 341 (by decide +kernel) (by decide +kernel)
theorem mT_J1_charAt_3b067 : (Cond.static yJ1_charAt_3b067) ∈ lw_all := lw_in 342 (by decide +kernel) (by decide +kernel)
theorem mC_J1_charAt_3b067 : (Cond.code yJ1_charAt_3b067 cJ1_charAt_3b067 2 (some .char)) ∈ lw_all := lw_in 343 (by decide +kernel) (by decide +kernel)
theorem mM_J1_9 : (Cond.methodLink RJ1 9 yJ0_checkIndex_df160) ∈ lw_all := lw_in 344 (by decide +kernel) (by decide +kernel)
theorem mT_J0_checkIndex_df160 : (Cond.static yJ0_checkIndex_df160) ∈ lw_all := lw_in 345 (by decide +kernel) (by decide +kernel)
theorem mC_J0_checkIndex_df160 : (Cond.code yJ0_checkIndex_df160 cJ0_checkIndex_df160 2 none) ∈ lw_all := lw_in 346 (by decide +kernel) (by decide +kernel)
theorem mF_J0_1053 : (Cond.fieldLink RJ0 1053 "jdk/internal/util/Preconditions" "SIOOBE_FORMATTER" "Ljava/util/function/BiFunction;") ∈ lw_all := lw_in 347 (by decide +kernel) (by decide +kernel)
theorem mM_J0_1059 : (Cond.methodLink RJ0 1059 yJ3_checkIndex_8e157) ∈ lw_all := lw_in 349 (by decide +kernel) (by decide +kernel)
theorem mT_J3_checkIndex_8e157 : (Cond.static yJ3_checkIndex_8e157) ∈ lw_all := lw_in 350 (by decide +kernel) (by decide +kernel)
theorem mC_J3_checkIndex_8e157 : (Cond.code yJ3_checkIndex_8e157 cJ3_checkIndex_8e157 3 (some .int)) ∈ lw_all := lw_in 351 (by decide +kernel) (by decide +kernel)
theorem mM_J0_498 : (Cond.methodLink RJ0 498 yJ2_charAt_3b067) ∈ lw_all := lw_in 352 (by decide +kernel) (by decide +kernel)
theorem mT_J2_charAt_3b067 : (Cond.static yJ2_charAt_3b067) ∈ lw_all := lw_in 353 (by decide +kernel) (by decide +kernel)
theorem mC_J2_charAt_3b067 : (Cond.code yJ2_charAt_3b067 cJ2_charAt_3b067 2 (some .char)) ∈ lw_all := lw_in 354 (by decide +kernel) (by decide +kernel)
theorem mM_J2_67 : (Cond.methodLink RJ2 67 yJ2_checkIndex_2214a) ∈ lw_all := lw_in 355 (by decide +kernel) (by decide +kernel)
theorem mT_J2_checkIndex_2214a : (Cond.static yJ2_checkIndex_2214a) ∈ lw_all := lw_in 356 (by decide +kernel) (by decide +kernel)
theorem mC_J2_checkIndex_2214a : (Cond.code yJ2_checkIndex_2214a cJ2_checkIndex_2214a 2 none) ∈ lw_all := lw_in 357 (by decide +kernel) (by decide +kernel)
theorem mM_J2_48 : (Cond.methodLink RJ2 48 yJ2_length_9d52b) ∈ lw_all := lw_in 358 (by decide +kernel) (by decide +kernel)
theorem mT_J2_length_9d52b : (Cond.static yJ2_length_9d52b) ∈ lw_all := lw_in 359 (by decide +kernel) (by decide +kernel)
theorem mC_J2_length_9d52b : (Cond.code yJ2_length_9d52b cJ2_length_9d52b 1 (some .int)) ∈ lw_all := lw_in 360 (by decide +kernel) (by decide +kernel)
theorem mM_J2_414 : (Cond.methodLink RJ2 414 yJ0_checkIndex_df160) ∈ lw_all := lw_in 361 (by decide +kernel) (by decide +kernel)
theorem mM_J2_71 : (Cond.methodLink RJ2 71 yJ2_getChar_3b067) ∈ lw_all := lw_in 362 (by decide +kernel) (by decide +kernel)
theorem mT_J2_getChar_3b067 : (Cond.static yJ2_getChar_3b067) ∈ lw_all := lw_in 363 (by decide +kernel) (by decide +kernel)
theorem mC_J2_getChar_3b067 : (Cond.code yJ2_getChar_3b067 cJ2_getChar_3b067 2 (some .char)) ∈ lw_all := lw_in 364 (by decide +kernel) (by decide +kernel)
theorem mF_J2_44 : (Cond.fieldLink RJ2 44 "java/lang/StringUTF16" "$assertionsDisabled" "Z") ∈ lw_all := lw_in 365 (by decide +kernel) (by decide +kernel)
theorem mF_J2_59 : (Cond.fieldLink RJ2 59 "java/lang/StringUTF16" "HI_BYTE_SHIFT" "I") ∈ lw_all := lw_in 367 (by decide +kernel) (by decide +kernel)
theorem mF_J2_63 : (Cond.fieldLink RJ2 63 "java/lang/StringUTF16" "LO_BYTE_SHIFT" "I") ∈ lw_all := lw_in 369 (by decide +kernel) (by decide +kernel)
theorem mM_X0_213 : (Cond.methodLink RX0 213 yX0_sealNumber) ∈ lw_all := lw_in 371 (by decide +kernel) (by decide +kernel)
theorem mT_X0_sealNumber : (Cond.static yX0_sealNumber) ∈ lw_all := lw_in 372 (by decide +kernel) (by decide +kernel)
theorem mC_X0_sealNumber : (Cond.code yX0_sealNumber cX0_sealNumber 2 (some .int)) ∈ lw_all := lw_in 373 (by decide +kernel) (by decide +kernel)
theorem mM_L_149 : (Cond.methodLink RL 149 yX0_wouldCertify) ∈ lw_all := lw_in 377 (by decide +kernel) (by decide +kernel)
theorem mV_X0_wouldCertify : (Cond.instanceMethod yX0_wouldCertify) ∈ lw_all := lw_in 378 (by decide +kernel) (by decide +kernel)
theorem mS_X0_wouldCertify : (Cond.selects RX0 yX0_wouldCertify yX0_wouldCertify) ∈ lw_all := lw_in 379 (by decide +kernel) (by decide +kernel)
theorem mC_X0_wouldCertify : (Cond.code yX0_wouldCertify cX0_wouldCertify 2 (some .int)) ∈ lw_all := lw_in 380 (by decide +kernel) (by decide +kernel)
theorem mM_X0_95 : (Cond.methodLink RX0 95 yX0_middleTale) ∈ lw_all := lw_in 381 (by decide +kernel) (by decide +kernel)
theorem mV_X0_middleTale : (Cond.instanceMethod yX0_middleTale) ∈ lw_all := lw_in 383 (by decide +kernel) (by decide +kernel)
theorem mC_X0_middleTale : (Cond.code yX0_middleTale cX0_middleTale 4 (some .int)) ∈ lw_all := lw_in 384 (by decide +kernel) (by decide +kernel)
theorem mM_X0_197 : (Cond.methodLink RX0 197 yX0_insertTale) ∈ lw_all := lw_in 385 (by decide +kernel) (by decide +kernel)
theorem mV_X0_insertTale : (Cond.instanceMethod yX0_insertTale) ∈ lw_all := lw_in 387 (by decide +kernel) (by decide +kernel)
theorem mC_X0_insertTale : (Cond.code yX0_insertTale cX0_insertTale 4 none) ∈ lw_all := lw_in 388 (by decide +kernel) (by decide +kernel)
theorem mM_L_155 : (Cond.methodLink RL 155 yX0_missesUntilShaken) ∈ lw_all := lw_in 389 (by decide +kernel) (by decide +kernel)
theorem mV_X0_missesUntilShaken : (Cond.instanceMethod yX0_missesUntilShaken) ∈ lw_all := lw_in 390 (by decide +kernel) (by decide +kernel)
theorem mS_X0_missesUntilShaken : (Cond.selects RX0 yX0_missesUntilShaken yX0_missesUntilShaken) ∈ lw_all := lw_in 391 (by decide +kernel) (by decide +kernel)
theorem mC_X0_missesUntilShaken : (Cond.code yX0_missesUntilShaken cX0_missesUntilShaken 5 (some .int)) ∈ lw_all := lw_in 392 (by decide +kernel) (by decide +kernel)
theorem mM_X0_154 : (Cond.methodLink RX0 154 yX0_steadiest) ∈ lw_all := lw_in 393 (by decide +kernel) (by decide +kernel)
theorem mV_X0_steadiest : (Cond.instanceMethod yX0_steadiest) ∈ lw_all := lw_in 394 (by decide +kernel) (by decide +kernel)
theorem mS_X0_steadiest : (Cond.selects RX0 yX0_steadiest yX0_steadiest) ∈ lw_all := lw_in 395 (by decide +kernel) (by decide +kernel)
theorem mC_X0_steadiest : (Cond.code yX0_steadiest cX0_steadiest 4 (some .int)) ∈ lw_all := lw_in 396 (by decide +kernel) (by decide +kernel)
theorem mM_X0_108 : (Cond.methodLink RX0 108 yX0_nerveLoss) ∈ lw_all := lw_in 397 (by decide +kernel) (by decide +kernel)
theorem mT_X0_nerveLoss : (Cond.static yX0_nerveLoss) ∈ lw_all := lw_in 398 (by decide +kernel) (by decide +kernel)
theorem mC_X0_nerveLoss : (Cond.code yX0_nerveLoss cX0_nerveLoss 1 (some .int)) ∈ lw_all := lw_in 399 (by decide +kernel) (by decide +kernel)
theorem mM_L_158 : (Cond.methodLink RL 158 yX0_nightsUntilCalm) ∈ lw_all := lw_in 400 (by decide +kernel) (by decide +kernel)
theorem mV_X0_nightsUntilCalm : (Cond.instanceMethod yX0_nightsUntilCalm) ∈ lw_all := lw_in 401 (by decide +kernel) (by decide +kernel)
theorem mS_X0_nightsUntilCalm : (Cond.selects RX0 yX0_nightsUntilCalm yX0_nightsUntilCalm) ∈ lw_all := lw_in 402 (by decide +kernel) (by decide +kernel)
theorem mC_X0_nightsUntilCalm : (Cond.code yX0_nightsUntilCalm cX0_nightsUntilCalm 3 (some .int)) ∈ lw_all := lw_in 403 (by decide +kernel) (by decide +kernel)
theorem mM_X0_160 : (Cond.methodLink RX0 160 yX0_nightsToCalm) ∈ lw_all := lw_in 404 (by decide +kernel) (by decide +kernel)
theorem mV_X0_nightsToCalm : (Cond.instanceMethod yX0_nightsToCalm) ∈ lw_all := lw_in 406 (by decide +kernel) (by decide +kernel)
theorem mC_X0_nightsToCalm : (Cond.code yX0_nightsToCalm cX0_nightsToCalm 4 (some .int)) ∈ lw_all := lw_in 407 (by decide +kernel) (by decide +kernel)
theorem mM_X0_204 : (Cond.methodLink RX0 204 yX0_nerveGain) ∈ lw_all := lw_in 408 (by decide +kernel) (by decide +kernel)
theorem mT_X0_nerveGain : (Cond.static yX0_nerveGain) ∈ lw_all := lw_in 409 (by decide +kernel) (by decide +kernel)
theorem mC_X0_nerveGain : (Cond.code yX0_nerveGain cX0_nerveGain 1 (some .int)) ∈ lw_all := lw_in 410 (by decide +kernel) (by decide +kernel)
theorem mM_L_138 : (Cond.methodLink RL 138 yX0_steadiest) ∈ lw_all := lw_in 411 (by decide +kernel) (by decide +kernel)
theorem mM_L_115 : (Cond.methodLink RL 115 yX0_luckiest) ∈ lw_all := lw_in 412 (by decide +kernel) (by decide +kernel)
theorem mV_X0_luckiest : (Cond.instanceMethod yX0_luckiest) ∈ lw_all := lw_in 413 (by decide +kernel) (by decide +kernel)
theorem mS_X0_luckiest : (Cond.selects RX0 yX0_luckiest yX0_luckiest) ∈ lw_all := lw_in 414 (by decide +kernel) (by decide +kernel)
theorem mC_X0_luckiest : (Cond.code yX0_luckiest cX0_luckiest 4 (some .int)) ∈ lw_all := lw_in 415 (by decide +kernel) (by decide +kernel)
theorem mM_L_170 : (Cond.methodLink RL 170 yX1_isSame) ∈ lw_all := lw_in 416 (by decide +kernel) (by decide +kernel)
theorem mV_X1_isSame : (Cond.instanceMethod yX1_isSame) ∈ lw_all := lw_in 417 (by decide +kernel) (by decide +kernel)
theorem mS_X1_isSame : (Cond.selects RX1 yX1_isSame yX1_isSame) ∈ lw_all := lw_in 418 (by decide +kernel) (by decide +kernel)
set_option maxRecDepth 100000 in
theorem mC_X1_isSame : (Cond.code yX1_isSame cX1_isSame 12 (some .boolean)) ∈ lw_all := lw_in 419 rfl (by decide +kernel)
theorem mM_X1_102 : (Cond.methodLink RX1 102 yX0_night) ∈ lw_all := lw_in 420 (by decide +kernel) (by decide +kernel)
theorem mV_X0_night : (Cond.instanceMethod yX0_night) ∈ lw_all := lw_in 421 (by decide +kernel) (by decide +kernel)
theorem mS_X0_night : (Cond.selects RX0 yX0_night yX0_night) ∈ lw_all := lw_in 422 (by decide +kernel) (by decide +kernel)
theorem mC_X0_night : (Cond.code yX0_night cX0_night 1 (some .int)) ∈ lw_all := lw_in 423 (by decide +kernel) (by decide +kernel)
theorem mM_X1_106 : (Cond.methodLink RX1 106 yX0_persons) ∈ lw_all := lw_in 424 (by decide +kernel) (by decide +kernel)
theorem mM_X1_108 : (Cond.methodLink RX1 108 yX0_witnesses) ∈ lw_all := lw_in 425 (by decide +kernel) (by decide +kernel)
theorem mM_X1_110 : (Cond.methodLink RX1 110 yX0_shaken) ∈ lw_all := lw_in 426 (by decide +kernel) (by decide +kernel)
theorem mM_X1_62 : (Cond.methodLink RX1 62 yX1_shaken) ∈ lw_all := lw_in 427 (by decide +kernel) (by decide +kernel)
theorem mV_X1_shaken : (Cond.instanceMethod yX1_shaken) ∈ lw_all := lw_in 428 (by decide +kernel) (by decide +kernel)
theorem mS_X1_shaken : (Cond.selects RX1 yX1_shaken yX1_shaken) ∈ lw_all := lw_in 429 (by decide +kernel) (by decide +kernel)
theorem mC_X1_shaken : (Cond.code yX1_shaken cX1_shaken 6 (some .int)) ∈ lw_all := lw_in 430 (by decide +kernel) (by decide +kernel)
theorem mM_X1_111 : (Cond.methodLink RX1 111 yX0_fund) ∈ lw_all := lw_in 431 (by decide +kernel) (by decide +kernel)
theorem mM_X1_113 : (Cond.methodLink RX1 113 yX0_refunded) ∈ lw_all := lw_in 432 (by decide +kernel) (by decide +kernel)
theorem mM_X1_115 : (Cond.methodLink RX1 115 yX0_misses) ∈ lw_all := lw_in 433 (by decide +kernel) (by decide +kernel)
theorem mM_X1_117 : (Cond.methodLink RX1 117 yX0_personOf) ∈ lw_all := lw_in 434 (by decide +kernel) (by decide +kernel)
theorem mM_X1_120 : (Cond.methodLink RX1 120 yX0_inchesOf) ∈ lw_all := lw_in 435 (by decide +kernel) (by decide +kernel)
theorem mM_X1_123 : (Cond.methodLink RX1 123 yX0_sealOf) ∈ lw_all := lw_in 436 (by decide +kernel) (by decide +kernel)
theorem mM_X1_126 : (Cond.methodLink RX1 126 yX1_seal) ∈ lw_all := lw_in 437 (by decide +kernel) (by decide +kernel)
theorem mT_X1_seal : (Cond.static yX1_seal) ∈ lw_all := lw_in 438 (by decide +kernel) (by decide +kernel)
theorem mC_X1_seal : (Cond.code yX1_seal cX1_seal 4 (some .int)) ∈ lw_all := lw_in 439 (by decide +kernel) (by decide +kernel)
theorem mK_X1_66 : (Cond.classLink RX1 66 "java/lang/StringBuilder") ∈ lw_all := lw_in 440 (by decide +kernel) (by decide +kernel)
theorem mB_StringBuilder : (Cond.instantiable RJ4 4) ∈ lw_all := lw_in 441 (by decide +kernel) (by decide +kernel)
theorem mM_X1_68 : (Cond.methodLink RX1 68 yJ4_init_da8c8) ∈ lw_all := lw_in 442 (by decide +kernel) (by decide +kernel)
theorem mV_J4_init_da8c8 : (Cond.instanceMethod yJ4_init_da8c8) ∈ lw_all := lw_in 443 (by decide +kernel) (by decide +kernel)
theorem mC_J4_init_da8c8 : (Cond.code yJ4_init_da8c8 cJ4_init_da8c8 1 none) ∈ lw_all := lw_in 444 (by decide +kernel) (by decide +kernel)
theorem mM_J4_1 : (Cond.methodLink RJ4 1 yJ5_init_d00df) ∈ lw_all := lw_in 445 (by decide +kernel) (by decide +kernel)
theorem mV_J5_init_d00df : (Cond.instanceMethod yJ5_init_d00df) ∈ lw_all := lw_in 446 (by decide +kernel) (by decide +kernel)
theorem mC_J5_init_d00df : (Cond.code yJ5_init_d00df cJ5_init_d00df 2 none) ∈ lw_all := lw_in 447 (by decide +kernel) (by decide +kernel)
theorem mM_J5_3 : (Cond.methodLink RJ5 3 objectInit) ∈ lw_all := lw_in 448 (by decide +kernel) (by decide +kernel)
theorem mF_J5_18 : (Cond.fieldLink RJ5 18 "java/lang/String" "COMPACT_STRINGS" "Z") ∈ lw_all := lw_in 449 (by decide +kernel) (by decide +kernel)
theorem mM_J5_26 : (Cond.methodLink RJ5 26 yJ2_newBytesFor_77867) ∈ lw_all := lw_in 450 (by decide +kernel) (by decide +kernel)
theorem mT_J2_newBytesFor_77867 : (Cond.static yJ2_newBytesFor_77867) ∈ lw_all := lw_in 451 (by decide +kernel) (by decide +kernel)
theorem mC_J2_newBytesFor_77867 : (Cond.code yJ2_newBytesFor_77867 cJ2_newBytesFor_77867 1 (some (.array .byte))) ∈ lw_all := lw_in 452 (by decide +kernel) (by decide +kernel)
theorem mM_J2_11 : (Cond.methodLink RJ2 11 yJ2_newBytesLength_0f7a4) ∈ lw_all := lw_in 453 (by decide +kernel) (by decide +kernel)
theorem mT_J2_newBytesLength_0f7a4 : (Cond.static yJ2_newBytesLength_0f7a4) ∈ lw_all := lw_in 454 (by decide +kernel) (by decide +kernel)
theorem mC_J2_newBytesLength_0f7a4 : (Cond.code yJ2_newBytesLength_0f7a4 cJ2_newBytesLength_0f7a4 1 (some .int)) ∈ lw_all := lw_in 455 (by decide +kernel) (by decide +kernel)
theorem mL_RJ2_20 : (Cond.constant RJ2 20 1073741823) ∈ lw_all := lw_in 456 (by decide +kernel) (by decide +kernel)
theorem mF_J5_15 : (Cond.fieldLink RJ5 15 "java/lang/AbstractStringBuilder" "value" "[B") ∈ lw_all := lw_in 457 (by decide +kernel) (by decide +kernel)
theorem mF_J5_22 : (Cond.fieldLink RJ5 22 "java/lang/AbstractStringBuilder" "coder" "B") ∈ lw_all := lw_in 458 (by decide +kernel) (by decide +kernel)
theorem mF_J0_1048 : (Cond.fieldLink RJ0 1048 "java/lang/AbstractStringBuilder" "maybeLatin1" "Z") ∈ lw_all := lw_in 459 (by decide +kernel) (by decide +kernel)
theorem mF_J5_79 : (Cond.fieldLink RJ5 79 "java/lang/AbstractStringBuilder" "count" "I") ∈ lw_all := lw_in 460 (by decide +kernel) (by decide +kernel)
theorem mP_StringBuilder__AbstractStringBuilder : (Cond.superclass RJ4 RJ5) ∈ lw_all := lw_in 469 (by decide +kernel) (by decide +kernel)
theorem mM_X1_71 : (Cond.methodLink RX1 71 yJ4_append_15ec4) ∈ lw_all := lw_in 471 (by decide +kernel) (by decide +kernel)
theorem mV_J4_append_15ec4 : (Cond.instanceMethod yJ4_append_15ec4) ∈ lw_all := lw_in 472 (by decide +kernel) (by decide +kernel)
theorem mS_J4_append_15ec4 : (Cond.selects RJ4 yJ4_append_15ec4 yJ4_append_15ec4) ∈ lw_all := lw_in 473 (by decide +kernel) (by decide +kernel)
theorem mC_J4_append_15ec4 : (Cond.code yJ4_append_15ec4 cJ4_append_15ec4 2 (some (.object "java/lang/StringBuilder"))) ∈ lw_all := lw_in 474 (by decide +kernel) (by decide +kernel)
theorem mM_J4_29 : (Cond.methodLink RJ4 29 yJ5_append_cf1ce) ∈ lw_all := lw_in 475 (by decide +kernel) (by decide +kernel)
theorem mV_J5_append_cf1ce : (Cond.instanceMethod yJ5_append_cf1ce) ∈ lw_all := lw_in 476 (by decide +kernel) (by decide +kernel)
theorem mC_J5_append_cf1ce : (Cond.code yJ5_append_cf1ce cJ5_append_cf1ce 3 (some (.object "java/lang/AbstractStringBuilder"))) ∈ lw_all := lw_in 477 (by decide +kernel) (by decide +kernel)
theorem mM_J5_204 : (Cond.methodLink RJ5 204 yJ5_appendNull_278bc) ∈ lw_all := lw_in 478 (by decide +kernel) (by decide +kernel)
theorem mV_J5_appendNull_278bc : (Cond.instanceMethod yJ5_appendNull_278bc) ∈ lw_all := lw_in 480 (by decide +kernel) (by decide +kernel)
theorem mC_J5_appendNull_278bc : (Cond.code yJ5_appendNull_278bc cJ5_appendNull_278bc 3 (some (.object "java/lang/AbstractStringBuilder"))) ∈ lw_all := lw_in 481 (by decide +kernel) (by decide +kernel)
theorem mM_J5_100 : (Cond.methodLink RJ5 100 yJ5_ensureCapacityInternal_d00df) ∈ lw_all := lw_in 482 (by decide +kernel) (by decide +kernel)
theorem mV_J5_ensureCapacityInternal_d00df : (Cond.instanceMethod yJ5_ensureCapacityInternal_d00df) ∈ lw_all := lw_in 484 (by decide +kernel) (by decide +kernel)
theorem mC_J5_ensureCapacityInternal_d00df : (Cond.code yJ5_ensureCapacityInternal_d00df cJ5_ensureCapacityInternal_d00df 3 none) ∈ lw_all := lw_in 485 (by decide +kernel) (by decide +kernel)
theorem mM_J5_104 : (Cond.methodLink RJ5 104 yJ5_newCapacity_0f7a4) ∈ lw_all := lw_in 486 (by decide +kernel) (by decide +kernel)
theorem mV_J5_newCapacity_0f7a4 : (Cond.instanceMethod yJ5_newCapacity_0f7a4) ∈ lw_all := lw_in 488 (by decide +kernel) (by decide +kernel)
theorem mC_J5_newCapacity_0f7a4 : (Cond.code yJ5_newCapacity_0f7a4 cJ5_newCapacity_0f7a4 6 (some .int)) ∈ lw_all := lw_in 489 (by decide +kernel) (by decide +kernel)
theorem mM_J5_114 : (Cond.methodLink RJ5 114 yJ8_newLength_cabcc) ∈ lw_all := lw_in 490 (by decide +kernel) (by decide +kernel)
theorem mT_J8_newLength_cabcc : (Cond.static yJ8_newLength_cabcc) ∈ lw_all := lw_in 491 (by decide +kernel) (by decide +kernel)
theorem mC_J8_newLength_cabcc : (Cond.code yJ8_newLength_cabcc cJ8_newLength_cabcc 4 (some .int)) ∈ lw_all := lw_in 492 (by decide +kernel) (by decide +kernel)
theorem mM_J8_194 : (Cond.methodLink RJ8 194 Lib.Math.max.name) ∈ lw_all := lw_in 493 (by decide +kernel) (by decide +kernel)
theorem mL_RJ8_200 : (Cond.constant RJ8 200 2147483639) ∈ lw_all := lw_in 494 (by decide +kernel) (by decide +kernel)
theorem mM_J8_201 : (Cond.methodLink RJ8 201 yJ8_hugeLength_7cf53) ∈ lw_all := lw_in 495 (by decide +kernel) (by decide +kernel)
theorem mT_J8_hugeLength_7cf53 : (Cond.static yJ8_hugeLength_7cf53) ∈ lw_all := lw_in 496 (by decide +kernel) (by decide +kernel)
theorem mC_J8_hugeLength_7cf53 : (Cond.code yJ8_hugeLength_7cf53 cJ8_hugeLength_7cf53 3 (some .int)) ∈ lw_all := lw_in 497 (by decide +kernel) (by decide +kernel)
theorem mL_RJ5_39 : (Cond.constant RJ5 39 2147483647) ∈ lw_all := lw_in 498 (by decide +kernel) (by decide +kernel)
theorem mM_J5_108 : (Cond.methodLink RJ5 108 yJ7_copyOf_9075b) ∈ lw_all := lw_in 499 (by decide +kernel) (by decide +kernel)
theorem mT_J7_copyOf_9075b : (Cond.static yJ7_copyOf_9075b) ∈ lw_all := lw_in 500 (by decide +kernel) (by decide +kernel)
theorem mC_J7_copyOf_9075b : (Cond.code yJ7_copyOf_9075b cJ7_copyOf_9075b 3 (some (.array .byte))) ∈ lw_all := lw_in 501 (by decide +kernel) (by decide +kernel)
theorem mM_J7_310 : (Cond.methodLink RJ7 310 ⟨"[B", "clone", "()Ljava/lang/Object;"⟩) ∈ lw_all := lw_in 502 (by decide +kernel) (by decide +kernel)
theorem mE_B___clone___Ljava_lang_Object : (Cond.sameMethod "[B" "java/lang/Object" "clone" "()Ljava/lang/Object;") ∈ lw_all := lw_in 503 (by decide +kernel) (by decide +kernel)
theorem mN_java_lang_Object_clone_Ljava_lang_Object : (Cond.native ⟨"java/lang/Object", "clone", "()Ljava/lang/Object;"⟩) ∈ lw_all := lw_in 504 (by decide +kernel) (by decide +kernel)
theorem mV_java_lang_Object_clone_Ljava_lang_Object : (Cond.instanceMethod ⟨"java/lang/Object", "clone", "()Ljava/lang/Object;"⟩) ∈ lw_all := lw_in 505 (by decide +kernel) (by decide +kernel)
theorem mS_B_clone_Ljava_lang_Object : (Cond.selects "[B" ⟨"[B", "clone", "()Ljava/lang/Object;"⟩ ⟨"java/lang/Object", "clone", "()Ljava/lang/Object;"⟩) ∈ lw_all := lw_in 506 (by decide +kernel) (by decide +kernel)
theorem mK_RJ7_311 : (Cond.classLink RJ7 311 "[B") ∈ lw_all := lw_in 508 (by decide +kernel) (by decide +kernel)
theorem mM_J7_304 : (Cond.methodLink RJ7 304 Lib.Math.min.name) ∈ lw_all := lw_in 509 (by decide +kernel) (by decide +kernel)
theorem mT_min : (Cond.static Lib.Math.min.name) ∈ lw_all := lw_in 510 (by decide +kernel) (by decide +kernel)
theorem mC_min : (Cond.code Lib.Math.min.name Lib.Math.min.code 2 (some .int)) ∈ lw_all := lw_in 511 (by decide +kernel) (by decide +kernel)
theorem mM_J7_150 : (Cond.methodLink RJ7 150 ⟨"java/lang/System", "arraycopy", "(Ljava/lang/Object;ILjava/lang/Object;II)V"⟩) ∈ lw_all := lw_in 512 (by decide +kernel) (by decide +kernel)
theorem mT_java_lang_System_arraycopy_Ljava_lang_Object_ILjava_lang_Object_II_V : (Cond.static ⟨"java/lang/System", "arraycopy", "(Ljava/lang/Object;ILjava/lang/Object;II)V"⟩) ∈ lw_all := lw_in 513 (by decide +kernel) (by decide +kernel)
theorem mN_java_lang_System_arraycopy_Ljava_lang_Object_ILjava_lang_Object_II_V : (Cond.native ⟨"java/lang/System", "arraycopy", "(Ljava/lang/Object;ILjava/lang/Object;II)V"⟩) ∈ lw_all := lw_in 514 (by decide +kernel) (by decide +kernel)
theorem mM_J5_83 : (Cond.methodLink RJ5 83 yJ5_isLatin1_aae02) ∈ lw_all := lw_in 515 (by decide +kernel) (by decide +kernel)
theorem mV_J5_isLatin1_aae02 : (Cond.instanceMethod yJ5_isLatin1_aae02) ∈ lw_all := lw_in 516 (by decide +kernel) (by decide +kernel)
theorem mE_AbstractStringBuilder___isLatin1___Z : (Cond.sameMethod RJ5 RJ5 "isLatin1" "()Z") ∈ lw_all := lw_in 517 (by decide +kernel) (by decide +kernel)
theorem mS_J5_isLatin1_aae02_StringBuilder : (Cond.selects RJ4 yJ5_isLatin1_aae02 yJ5_isLatin1_aae02) ∈ lw_all := lw_in 518 (by decide +kernel) (by decide +kernel)
theorem mC_J5_isLatin1_aae02 : (Cond.code yJ5_isLatin1_aae02 cJ5_isLatin1_aae02 1 (some .boolean)) ∈ lw_all := lw_in 519 (by decide +kernel) (by decide +kernel)
theorem mM_J5_226 : (Cond.methodLink RJ5 226 yJ2_putCharsAt_cd4e5) ∈ lw_all := lw_in 520 (by decide +kernel) (by decide +kernel)
theorem mT_J2_putCharsAt_cd4e5 : (Cond.static yJ2_putCharsAt_cd4e5) ∈ lw_all := lw_in 521 (by decide +kernel) (by decide +kernel)
theorem mC_J2_putCharsAt_cd4e5 : (Cond.code yJ2_putCharsAt_cd4e5 cJ2_putCharsAt_cd4e5 7 (some .int)) ∈ lw_all := lw_in 522 (by decide +kernel) (by decide +kernel)
theorem mM_J2_96 : (Cond.methodLink RJ2 96 yJ2_checkBoundsBeginEnd_d044e) ∈ lw_all := lw_in 523 (by decide +kernel) (by decide +kernel)
theorem mT_J2_checkBoundsBeginEnd_d044e : (Cond.static yJ2_checkBoundsBeginEnd_d044e) ∈ lw_all := lw_in 524 (by decide +kernel) (by decide +kernel)
theorem mC_J2_checkBoundsBeginEnd_d044e : (Cond.code yJ2_checkBoundsBeginEnd_d044e cJ2_checkBoundsBeginEnd_d044e 3 none) ∈ lw_all := lw_in 525 (by decide +kernel) (by decide +kernel)
theorem mM_J2_241 : (Cond.methodLink RJ2 241 yJ0_checkBoundsBeginEnd_23922) ∈ lw_all := lw_in 526 (by decide +kernel) (by decide +kernel)
theorem mT_J0_checkBoundsBeginEnd_23922 : (Cond.static yJ0_checkBoundsBeginEnd_23922) ∈ lw_all := lw_in 527 (by decide +kernel) (by decide +kernel)
theorem mC_J0_checkBoundsBeginEnd_23922 : (Cond.code yJ0_checkBoundsBeginEnd_23922 cJ0_checkBoundsBeginEnd_23922 3 none) ∈ lw_all := lw_in 528 (by decide +kernel) (by decide +kernel)
theorem mM_J0_1062 : (Cond.methodLink RJ0 1062 yJ3_checkFromToIndex_8c36e) ∈ lw_all := lw_in 529 (by decide +kernel) (by decide +kernel)
theorem mT_J3_checkFromToIndex_8c36e : (Cond.static yJ3_checkFromToIndex_8c36e) ∈ lw_all := lw_in 530 (by decide +kernel) (by decide +kernel)
theorem mC_J3_checkFromToIndex_8c36e : (Cond.code yJ3_checkFromToIndex_8c36e cJ3_checkFromToIndex_8c36e 4 (some .int)) ∈ lw_all := lw_in 531 (by decide +kernel) (by decide +kernel)
theorem mM_J2_111 : (Cond.methodLink RJ2 111 yJ2_putChar_b72d1) ∈ lw_all := lw_in 532 (by decide +kernel) (by decide +kernel)
theorem mT_J2_putChar_b72d1 : (Cond.static yJ2_putChar_b72d1) ∈ lw_all := lw_in 533 (by decide +kernel) (by decide +kernel)
theorem mC_J2_putChar_b72d1 : (Cond.code yJ2_putChar_b72d1 cJ2_putChar_b72d1 3 none) ∈ lw_all := lw_in 534 (by decide +kernel) (by decide +kernel)
theorem mM_J5_32 : (Cond.methodLink RJ5 32 yJ0_length_8abf5) ∈ lw_all := lw_in 535 (by decide +kernel) (by decide +kernel)
theorem mM_J5_208 : (Cond.methodLink RJ5 208 yJ5_putStringAt_47b60) ∈ lw_all := lw_in 536 (by decide +kernel) (by decide +kernel)
theorem mV_J5_putStringAt_47b60 : (Cond.instanceMethod yJ5_putStringAt_47b60) ∈ lw_all := lw_in 538 (by decide +kernel) (by decide +kernel)
theorem mC_J5_putStringAt_47b60 : (Cond.code yJ5_putStringAt_47b60 cJ5_putStringAt_47b60 3 none) ∈ lw_all := lw_in 539 (by decide +kernel) (by decide +kernel)
theorem mM_J5_397 : (Cond.methodLink RJ5 397 yJ5_inflateIfNeededFor_a7421) ∈ lw_all := lw_in 540 (by decide +kernel) (by decide +kernel)
theorem mV_J5_inflateIfNeededFor_a7421 : (Cond.instanceMethod yJ5_inflateIfNeededFor_a7421) ∈ lw_all := lw_in 542 (by decide +kernel) (by decide +kernel)
theorem mC_J5_inflateIfNeededFor_a7421 : (Cond.code yJ5_inflateIfNeededFor_a7421 cJ5_inflateIfNeededFor_a7421 2 none) ∈ lw_all := lw_in 543 (by decide +kernel) (by decide +kernel)
theorem mM_J5_40 : (Cond.methodLink RJ5 40 yJ0_coder_7d493) ∈ lw_all := lw_in 544 (by decide +kernel) (by decide +kernel)
theorem mM_J5_195 : (Cond.methodLink RJ5 195 yJ5_inflate_da8c8) ∈ lw_all := lw_in 545 (by decide +kernel) (by decide +kernel)
theorem mV_J5_inflate_da8c8 : (Cond.instanceMethod yJ5_inflate_da8c8) ∈ lw_all := lw_in 547 (by decide +kernel) (by decide +kernel)
theorem mC_J5_inflate_da8c8 : (Cond.code yJ5_inflate_da8c8 cJ5_inflate_da8c8 2 none) ∈ lw_all := lw_in 548 (by decide +kernel) (by decide +kernel)
theorem mM_J5_125 : (Cond.methodLink RJ5 125 yJ1_inflate_0e8fd) ∈ lw_all := lw_in 549 (by decide +kernel) (by decide +kernel)
theorem mT_J1_inflate_0e8fd : (Cond.static yJ1_inflate_0e8fd) ∈ lw_all := lw_in 550 (by decide +kernel) (by decide +kernel)
theorem mC_J1_inflate_0e8fd : (Cond.code yJ1_inflate_0e8fd cJ1_inflate_0e8fd 5 none) ∈ lw_all := lw_in 551 (by decide +kernel) (by decide +kernel)
theorem mM_J1_240 : (Cond.methodLink RJ1 240 yJ2_inflate_0e8fd) ∈ lw_all := lw_in 552 (by decide +kernel) (by decide +kernel)
theorem mT_J2_inflate_0e8fd : (Cond.static yJ2_inflate_0e8fd) ∈ lw_all := lw_in 553 (by decide +kernel) (by decide +kernel)
theorem mC_J2_inflate_0e8fd : (Cond.code yJ2_inflate_0e8fd cJ2_inflate_0e8fd 6 none) ∈ lw_all := lw_in 554 (by decide +kernel) (by decide +kernel)
theorem mM_J2_173 : (Cond.methodLink RJ2 173 yJ2_checkBoundsOffCount_d044e) ∈ lw_all := lw_in 555 (by decide +kernel) (by decide +kernel)
theorem mT_J2_checkBoundsOffCount_d044e : (Cond.static yJ2_checkBoundsOffCount_d044e) ∈ lw_all := lw_in 556 (by decide +kernel) (by decide +kernel)
theorem mC_J2_checkBoundsOffCount_d044e : (Cond.code yJ2_checkBoundsOffCount_d044e cJ2_checkBoundsOffCount_d044e 3 none) ∈ lw_all := lw_in 557 (by decide +kernel) (by decide +kernel)
theorem mM_J2_419 : (Cond.methodLink RJ2 419 yJ0_checkBoundsOffCount_cabcc) ∈ lw_all := lw_in 558 (by decide +kernel) (by decide +kernel)
theorem mT_J0_checkBoundsOffCount_cabcc : (Cond.static yJ0_checkBoundsOffCount_cabcc) ∈ lw_all := lw_in 559 (by decide +kernel) (by decide +kernel)
theorem mC_J0_checkBoundsOffCount_cabcc : (Cond.code yJ0_checkBoundsOffCount_cabcc cJ0_checkBoundsOffCount_cabcc 3 (some .int)) ∈ lw_all := lw_in 560 (by decide +kernel) (by decide +kernel)
theorem mM_J0_1065 : (Cond.methodLink RJ0 1065 yJ3_checkFromIndexSize_8c36e) ∈ lw_all := lw_in 561 (by decide +kernel) (by decide +kernel)
theorem mT_J3_checkFromIndexSize_8c36e : (Cond.static yJ3_checkFromIndexSize_8c36e) ∈ lw_all := lw_in 562 (by decide +kernel) (by decide +kernel)
theorem mC_J3_checkFromIndexSize_8c36e : (Cond.code yJ3_checkFromIndexSize_8c36e cJ3_checkFromIndexSize_8c36e 4 (some .int)) ∈ lw_all := lw_in 563 (by decide +kernel) (by decide +kernel)
theorem mM_J5_399 : (Cond.methodLink RJ5 399 yJ0_getBytes_840e7) ∈ lw_all := lw_in 564 (by decide +kernel) (by decide +kernel)
theorem mV_J0_getBytes_840e7 : (Cond.instanceMethod yJ0_getBytes_840e7) ∈ lw_all := lw_in 565 (by decide +kernel) (by decide +kernel)
theorem mS_J0_getBytes_840e7 : (Cond.selects RJ0 yJ0_getBytes_840e7 yJ0_getBytes_840e7) ∈ lw_all := lw_in 566 (by decide +kernel) (by decide +kernel)
theorem mC_J0_getBytes_840e7 : (Cond.code yJ0_getBytes_840e7 cJ0_getBytes_840e7 4 none) ∈ lw_all := lw_in 567 (by decide +kernel) (by decide +kernel)
theorem mM_J0_212 : (Cond.methodLink RJ0 212 ⟨"java/lang/System", "arraycopy", "(Ljava/lang/Object;ILjava/lang/Object;II)V"⟩) ∈ lw_all := lw_in 568 (by decide +kernel) (by decide +kernel)
theorem mM_J0_106 : (Cond.methodLink RJ0 106 yJ1_inflate_0e8fd) ∈ lw_all := lw_in 569 (by decide +kernel) (by decide +kernel)
theorem mM_X1_75 : (Cond.methodLink RX1 75 yJ4_append_bf812) ∈ lw_all := lw_in 570 (by decide +kernel) (by decide +kernel)
theorem mV_J4_append_bf812 : (Cond.instanceMethod yJ4_append_bf812) ∈ lw_all := lw_in 571 (by decide +kernel) (by decide +kernel)
theorem mS_J4_append_bf812 : (Cond.selects RJ4 yJ4_append_bf812 yJ4_append_bf812) ∈ lw_all := lw_in 572 (by decide +kernel) (by decide +kernel)
theorem mC_J4_append_bf812 : (Cond.code yJ4_append_bf812 cJ4_append_bf812 2 (some (.object "java/lang/StringBuilder"))) ∈ lw_all := lw_in 573 (by decide +kernel) (by decide +kernel)
theorem mM_J4_53 : (Cond.methodLink RJ4 53 yJ5_append_c97b9) ∈ lw_all := lw_in 574 (by decide +kernel) (by decide +kernel)
theorem mV_J5_append_c97b9 : (Cond.instanceMethod yJ5_append_c97b9) ∈ lw_all := lw_in 575 (by decide +kernel) (by decide +kernel)
theorem mC_J5_append_c97b9 : (Cond.code yJ5_append_c97b9 cJ5_append_c97b9 4 (some (.object "java/lang/AbstractStringBuilder"))) ∈ lw_all := lw_in 576 (by decide +kernel) (by decide +kernel)
theorem mM_J5_245 : (Cond.methodLink RJ5 245 yJ6_stringSize_0f7a4) ∈ lw_all := lw_in 577 (by decide +kernel) (by decide +kernel)
theorem mT_J6_stringSize_0f7a4 : (Cond.static yJ6_stringSize_0f7a4) ∈ lw_all := lw_in 578 (by decide +kernel) (by decide +kernel)
theorem mC_J6_stringSize_0f7a4 : (Cond.code yJ6_stringSize_0f7a4 cJ6_stringSize_0f7a4 4 (some .int)) ∈ lw_all := lw_in 579 (by decide +kernel) (by decide +kernel)
theorem mM_J5_248 : (Cond.methodLink RJ5 248 yJ6_getChars_ba4f3) ∈ lw_all := lw_in 580 (by decide +kernel) (by decide +kernel)
theorem mT_J6_getChars_ba4f3 : (Cond.static yJ6_getChars_ba4f3) ∈ lw_all := lw_in 581 (by decide +kernel) (by decide +kernel)
theorem mC_J6_getChars_ba4f3 : (Cond.code yJ6_getChars_ba4f3 cJ6_getChars_ba4f3 7 (some .int)) ∈ lw_all := lw_in 582 (by decide +kernel) (by decide +kernel)
theorem mF_J6_83 : (Cond.fieldLink RJ6 83 "java/lang/Integer" "DigitOnes" "[B") ∈ lw_all := lw_in 583 (by decide +kernel) (by decide +kernel)
theorem mF_J6_87 : (Cond.fieldLink RJ6 87 "java/lang/Integer" "DigitTens" "[B") ∈ lw_all := lw_in 585 (by decide +kernel) (by decide +kernel)
theorem mM_J5_251 : (Cond.methodLink RJ5 251 yJ2_getChars_46870) ∈ lw_all := lw_in 587 (by decide +kernel) (by decide +kernel)
theorem mT_J2_getChars_46870 : (Cond.static yJ2_getChars_46870) ∈ lw_all := lw_in 588 (by decide +kernel) (by decide +kernel)
theorem mC_J2_getChars_46870 : (Cond.code yJ2_getChars_46870 cJ2_getChars_46870 5 (some .int)) ∈ lw_all := lw_in 589 (by decide +kernel) (by decide +kernel)
theorem mM_J2_393 : (Cond.methodLink RJ2 393 yJ2_getChars_ba4f3) ∈ lw_all := lw_in 590 (by decide +kernel) (by decide +kernel)
theorem mT_J2_getChars_ba4f3 : (Cond.static yJ2_getChars_ba4f3) ∈ lw_all := lw_in 591 (by decide +kernel) (by decide +kernel)
theorem mC_J2_getChars_ba4f3 : (Cond.code yJ2_getChars_ba4f3 cJ2_getChars_ba4f3 7 (some .int)) ∈ lw_all := lw_in 592 (by decide +kernel) (by decide +kernel)
theorem mF_J2_403 : (Cond.fieldLink RJ2 403 "java/lang/Integer" "DigitOnes" "[B") ∈ lw_all := lw_in 593 (by decide +kernel) (by decide +kernel)
theorem mF_J2_407 : (Cond.fieldLink RJ2 407 "java/lang/Integer" "DigitTens" "[B") ∈ lw_all := lw_in 594 (by decide +kernel) (by decide +kernel)
theorem mM_X1_84 : (Cond.methodLink RX1 84 yJ4_toString_0e30d) ∈ lw_all := lw_in 598 (by decide +kernel) (by decide +kernel)
theorem mV_J4_toString_0e30d : (Cond.instanceMethod yJ4_toString_0e30d) ∈ lw_all := lw_in 599 (by decide +kernel) (by decide +kernel)
theorem mS_J4_toString_0e30d : (Cond.selects RJ4 yJ4_toString_0e30d yJ4_toString_0e30d) ∈ lw_all := lw_in 600 (by decide +kernel) (by decide +kernel)
theorem mC_J4_toString_0e30d : (Cond.code yJ4_toString_0e30d cJ4_toString_0e30d 1 (some (.object "java/lang/String"))) ∈ lw_all := lw_in 601 (by decide +kernel) (by decide +kernel)
theorem mK_RJ4_18 : (Cond.classLink RJ4 18 "java/lang/String") ∈ lw_all := lw_in 602 (by decide +kernel) (by decide +kernel)
theorem mB_String : (Cond.instantiable RJ0 4) ∈ lw_all := lw_in 603 (by decide +kernel) (by decide +kernel)
theorem mM_J4_137 : (Cond.methodLink RJ4 137 yJ0_init_81219) ∈ lw_all := lw_in 604 (by decide +kernel) (by decide +kernel)
theorem mV_J0_init_81219 : (Cond.instanceMethod yJ0_init_81219) ∈ lw_all := lw_in 605 (by decide +kernel) (by decide +kernel)
theorem mC_J0_init_81219 : (Cond.code yJ0_init_81219 cJ0_init_81219 2 none) ∈ lw_all := lw_in 606 (by decide +kernel) (by decide +kernel)
theorem mM_J0_489 : (Cond.methodLink RJ0 489 yJ0_init_db425) ∈ lw_all := lw_in 607 (by decide +kernel) (by decide +kernel)
theorem mV_J0_init_db425 : (Cond.instanceMethod yJ0_init_db425) ∈ lw_all := lw_in 608 (by decide +kernel) (by decide +kernel)
theorem mC_J0_init_db425 : (Cond.code yJ0_init_db425 cJ0_init_db425 5 none) ∈ lw_all := lw_in 609 (by decide +kernel) (by decide +kernel)
theorem mM_J0_1 : (Cond.methodLink RJ0 1 objectInit) ∈ lw_all := lw_in 610 (by decide +kernel) (by decide +kernel)
theorem mM_J0_552 : (Cond.methodLink RJ0 552 yJ5_getValue_6d5f1) ∈ lw_all := lw_in 611 (by decide +kernel) (by decide +kernel)
theorem mV_J5_getValue_6d5f1 : (Cond.instanceMethod yJ5_getValue_6d5f1) ∈ lw_all := lw_in 612 (by decide +kernel) (by decide +kernel)
theorem mE_AbstractStringBuilder___getValue___B : (Cond.sameMethod RJ5 RJ5 "getValue" "()[B") ∈ lw_all := lw_in 613 (by decide +kernel) (by decide +kernel)
theorem mS_J5_getValue_6d5f1_StringBuilder : (Cond.selects RJ4 yJ5_getValue_6d5f1 yJ5_getValue_6d5f1) ∈ lw_all := lw_in 614 (by decide +kernel) (by decide +kernel)
theorem mC_J5_getValue_6d5f1 : (Cond.code yJ5_getValue_6d5f1 cJ5_getValue_6d5f1 1 (some (.array .byte))) ∈ lw_all := lw_in 615 (by decide +kernel) (by decide +kernel)
theorem mM_J0_549 : (Cond.methodLink RJ0 549 yJ5_length_8abf5) ∈ lw_all := lw_in 616 (by decide +kernel) (by decide +kernel)
theorem mV_J5_length_8abf5 : (Cond.instanceMethod yJ5_length_8abf5) ∈ lw_all := lw_in 617 (by decide +kernel) (by decide +kernel)
theorem mE_AbstractStringBuilder___length___I : (Cond.sameMethod RJ5 RJ5 "length" "()I") ∈ lw_all := lw_in 618 (by decide +kernel) (by decide +kernel)
theorem mS_J5_length_8abf5_StringBuilder : (Cond.selects RJ4 yJ5_length_8abf5 yJ4_length_8abf5) ∈ lw_all := lw_in 619 (by decide +kernel) (by decide +kernel)
theorem mV_J4_length_8abf5 : (Cond.instanceMethod yJ4_length_8abf5) ∈ lw_all := lw_in 620 (by decide +kernel) (by decide +kernel)
theorem mC_J4_length_8abf5 : (Cond.code yJ4_length_8abf5 cJ4_length_8abf5 1 (some .int)) ∈ lw_all := lw_in 621 (by decide +kernel) (by decide +kernel)
theorem mM_J4_343 : (Cond.methodLink RJ4 343 yJ5_length_8abf5) ∈ lw_all := lw_in 622 (by decide +kernel) (by decide +kernel)
theorem mC_J5_length_8abf5 : (Cond.code yJ5_length_8abf5 cJ5_length_8abf5 1 (some .int)) ∈ lw_all := lw_in 623 (by decide +kernel) (by decide +kernel)
theorem mM_J0_1047 : (Cond.methodLink RJ0 1047 yJ5_isLatin1_aae02) ∈ lw_all := lw_in 624 (by decide +kernel) (by decide +kernel)
theorem mM_J0_54 : (Cond.methodLink RJ0 54 yJ7_copyOfRange_39247) ∈ lw_all := lw_in 625 (by decide +kernel) (by decide +kernel)
theorem mT_J7_copyOfRange_39247 : (Cond.static yJ7_copyOfRange_39247) ∈ lw_all := lw_in 626 (by decide +kernel) (by decide +kernel)
theorem mC_J7_copyOfRange_39247 : (Cond.code yJ7_copyOfRange_39247 cJ7_copyOfRange_39247 3 (some (.array .byte))) ∈ lw_all := lw_in 627 (by decide +kernel) (by decide +kernel)
theorem mM_J7_339 : (Cond.methodLink RJ7 339 yJ7_copyOfRangeByte_39247) ∈ lw_all := lw_in 628 (by decide +kernel) (by decide +kernel)
theorem mT_J7_copyOfRangeByte_39247 : (Cond.static yJ7_copyOfRangeByte_39247) ∈ lw_all := lw_in 629 (by decide +kernel) (by decide +kernel)
theorem mC_J7_copyOfRangeByte_39247 : (Cond.code yJ7_copyOfRangeByte_39247 cJ7_copyOfRangeByte_39247 5 (some (.array .byte))) ∈ lw_all := lw_in 630 (by decide +kernel) (by decide +kernel)
theorem mM_J7_343 : (Cond.methodLink RJ7 343 yJ7_checkLength_df160) ∈ lw_all := lw_in 631 (by decide +kernel) (by decide +kernel)
theorem mT_J7_checkLength_df160 : (Cond.static yJ7_checkLength_df160) ∈ lw_all := lw_in 632 (by decide +kernel) (by decide +kernel)
theorem mC_J7_checkLength_df160 : (Cond.code yJ7_checkLength_df160 cJ7_checkLength_df160 2 none) ∈ lw_all := lw_in 633 (by decide +kernel) (by decide +kernel)
theorem mM_J0_1051 : (Cond.methodLink RJ0 1051 yJ2_compress_39247) ∈ lw_all := lw_in 634 (by decide +kernel) (by decide +kernel)
theorem mT_J2_compress_39247 : (Cond.static yJ2_compress_39247) ∈ lw_all := lw_in 635 (by decide +kernel) (by decide +kernel)
theorem mC_J2_compress_39247 : (Cond.code yJ2_compress_39247 cJ2_compress_39247 6 (some (.array .byte))) ∈ lw_all := lw_in 636 (by decide +kernel) (by decide +kernel)
theorem mM_J2_123 : (Cond.methodLink RJ2 123 yJ2_compress_5af95) ∈ lw_all := lw_in 637 (by decide +kernel) (by decide +kernel)
theorem mT_J2_compress_5af95 : (Cond.static yJ2_compress_5af95) ∈ lw_all := lw_in 638 (by decide +kernel) (by decide +kernel)
theorem mC_J2_compress_5af95 : (Cond.code yJ2_compress_5af95 cJ2_compress_5af95 7 (some .int)) ∈ lw_all := lw_in 639 (by decide +kernel) (by decide +kernel)
theorem mM_J2_126 : (Cond.methodLink RJ2 126 yJ7_copyOfRange_39247) ∈ lw_all := lw_in 640 (by decide +kernel) (by decide +kernel)
theorem mM_J0_47 : (Cond.methodLink RJ0 47 yJ2_coderFromArrayLen_85cad) ∈ lw_all := lw_in 641 (by decide +kernel) (by decide +kernel)
theorem mT_J2_coderFromArrayLen_85cad : (Cond.static yJ2_coderFromArrayLen_85cad) ∈ lw_all := lw_in 642 (by decide +kernel) (by decide +kernel)
theorem mC_J2_coderFromArrayLen_85cad : (Cond.code yJ2_coderFromArrayLen_85cad cJ2_coderFromArrayLen_85cad 2 (some .byte)) ∈ lw_all := lw_in 643 (by decide +kernel) (by decide +kernel)
theorem mF_J0_9 : (Cond.fieldLink RJ0 9 "java/lang/String" "value" "[B") ∈ lw_all := lw_in 644 (by decide +kernel) (by decide +kernel)
theorem mF_J0_15 : (Cond.fieldLink RJ0 15 "java/lang/String" "coder" "B") ∈ lw_all := lw_in 645 (by decide +kernel) (by decide +kernel)
theorem mP_String__Object : (Cond.superclass RJ0 "java/lang/Object") ∈ lw_all := lw_in 654 (by decide +kernel) (by decide +kernel)
theorem mM_X1_88 : (Cond.methodLink RX1 88 yJ0_length_8abf5) ∈ lw_all := lw_in 655 (by decide +kernel) (by decide +kernel)
theorem mM_X1_93 : (Cond.methodLink RX1 93 yJ0_charAt_5068e) ∈ lw_all := lw_in 656 (by decide +kernel) (by decide +kernel)
theorem mM_X1_129 : (Cond.methodLink RX1 129 yX0_isAlive) ∈ lw_all := lw_in 657 (by decide +kernel) (by decide +kernel)
theorem mM_X1_133 : (Cond.methodLink RX1 133 yX0_luckOf) ∈ lw_all := lw_in 658 (by decide +kernel) (by decide +kernel)
theorem mM_X1_136 : (Cond.methodLink RX1 136 yX0_purseOf) ∈ lw_all := lw_in 659 (by decide +kernel) (by decide +kernel)
theorem mM_X1_139 : (Cond.methodLink RX1 139 yX0_fatesOf) ∈ lw_all := lw_in 660 (by decide +kernel) (by decide +kernel)
theorem mM_X1_142 : (Cond.methodLink RX1 142 yX0_heirOf) ∈ lw_all := lw_in 661 (by decide +kernel) (by decide +kernel)
theorem mM_X1_145 : (Cond.methodLink RX1 145 yX0_lastHeirOf) ∈ lw_all := lw_in 662 (by decide +kernel) (by decide +kernel)
theorem mM_X1_53 : (Cond.methodLink RX1 53 yX1_lastHeir) ∈ lw_all := lw_in 663 (by decide +kernel) (by decide +kernel)
theorem mV_X1_lastHeir : (Cond.instanceMethod yX1_lastHeir) ∈ lw_all := lw_in 664 (by decide +kernel) (by decide +kernel)
theorem mS_X1_lastHeir : (Cond.selects RX1 yX1_lastHeir yX1_lastHeir) ∈ lw_all := lw_in 665 (by decide +kernel) (by decide +kernel)
theorem mC_X1_lastHeir : (Cond.code yX1_lastHeir cX1_lastHeir 4 (some .int)) ∈ lw_all := lw_in 666 (by decide +kernel) (by decide +kernel)
theorem mM_X1_148 : (Cond.methodLink RX1 148 yX0_priceFor) ∈ lw_all := lw_in 667 (by decide +kernel) (by decide +kernel)
theorem mM_X1_25 : (Cond.methodLink RX1 25 yX1_price) ∈ lw_all := lw_in 668 (by decide +kernel) (by decide +kernel)
theorem mT_X1_price : (Cond.static yX1_price) ∈ lw_all := lw_in 669 (by decide +kernel) (by decide +kernel)
theorem mC_X1_price : (Cond.code yX1_price cX1_price 1 (some .int)) ∈ lw_all := lw_in 670 (by decide +kernel) (by decide +kernel)
theorem mM_X1_151 : (Cond.methodLink RX1 151 yX0_missesOf) ∈ lw_all := lw_in 671 (by decide +kernel) (by decide +kernel)
theorem mM_X1_154 : (Cond.methodLink RX1 154 yX0_closestOf) ∈ lw_all := lw_in 672 (by decide +kernel) (by decide +kernel)
theorem mV_X0_closestOf : (Cond.instanceMethod yX0_closestOf) ∈ lw_all := lw_in 673 (by decide +kernel) (by decide +kernel)
theorem mS_X0_closestOf : (Cond.selects RX0 yX0_closestOf yX0_closestOf) ∈ lw_all := lw_in 674 (by decide +kernel) (by decide +kernel)
theorem mC_X0_closestOf : (Cond.code yX0_closestOf cX0_closestOf 5 (some .int)) ∈ lw_all := lw_in 675 (by decide +kernel) (by decide +kernel)
theorem mM_X1_157 : (Cond.methodLink RX1 157 yX0_nerveOf) ∈ lw_all := lw_in 676 (by decide +kernel) (by decide +kernel)
theorem mM_X1_160 : (Cond.methodLink RX1 160 yX0_isOnDuty) ∈ lw_all := lw_in 677 (by decide +kernel) (by decide +kernel)
theorem mM_X1_163 : (Cond.methodLink RX1 163 yX0_alive) ∈ lw_all := lw_in 678 (by decide +kernel) (by decide +kernel)
theorem mM_X1_166 : (Cond.methodLink RX1 166 yX0_certified) ∈ lw_all := lw_in 679 (by decide +kernel) (by decide +kernel)
theorem mM_X1_169 : (Cond.methodLink RX1 169 yX0_steadiest) ∈ lw_all := lw_in 680 (by decide +kernel) (by decide +kernel)
theorem mM_X1_172 : (Cond.methodLink RX1 172 yX0_luckiest) ∈ lw_all := lw_in 681 (by decide +kernel) (by decide +kernel)
theorem mM_X1_175 : (Cond.methodLink RX1 175 yX0_meanLuck) ∈ lw_all := lw_in 682 (by decide +kernel) (by decide +kernel)
theorem mV_X0_meanLuck : (Cond.instanceMethod yX0_meanLuck) ∈ lw_all := lw_in 683 (by decide +kernel) (by decide +kernel)
theorem mS_X0_meanLuck : (Cond.selects RX0 yX0_meanLuck yX0_meanLuck) ∈ lw_all := lw_in 684 (by decide +kernel) (by decide +kernel)
theorem mC_X0_meanLuck : (Cond.code yX0_meanLuck cX0_meanLuck 4 (some .double)) ∈ lw_all := lw_in 685 (by decide +kernel) (by decide +kernel)
theorem mM_L_18 : (Cond.methodLink RL 18 yL_below) ∈ lw_all := lw_in 686 (by decide +kernel) (by decide +kernel)
theorem mT_L_below : (Cond.static yL_below) ∈ lw_all := lw_in 687 (by decide +kernel) (by decide +kernel)
theorem mC_L_below : (Cond.code yL_below cL_below 2 (some .int)) ∈ lw_all := lw_in 688 (by decide +kernel) (by decide +kernel)
theorem mL_RL_7 : (Cond.constant RL 7 2147483647) ∈ lw_all := lw_in 689 (by decide +kernel) (by decide +kernel)
theorem mM_L_71 : (Cond.methodLink RL 71 yL_cell) ∈ lw_all := lw_in 690 (by decide +kernel) (by decide +kernel)
theorem mT_L_cell : (Cond.static yL_cell) ∈ lw_all := lw_in 691 (by decide +kernel) (by decide +kernel)
theorem mC_L_cell : (Cond.code yL_cell cL_cell 2 (some .int)) ∈ lw_all := lw_in 692 (by decide +kernel) (by decide +kernel)
theorem mL_RL_8 : (Cond.constant RL 8 790386105) ∈ lw_all := lw_in 693 (by decide +kernel) (by decide +kernel)
theorem mM_L_75 : (Cond.methodLink RL 75 yL_act) ∈ lw_all := lw_in 694 (by decide +kernel) (by decide +kernel)
theorem mT_L_act : (Cond.static yL_act) ∈ lw_all := lw_in 695 (by decide +kernel) (by decide +kernel)
set_option maxRecDepth 100000 in
theorem mC_L_act : (Cond.code yL_act cL_act 14 (some .boolean)) ∈ lw_all := lw_in 696 rfl (by decide +kernel)
theorem mM_L_24 : (Cond.methodLink RL 24 yX1_with) ∈ lw_all := lw_in 697 (by decide +kernel) (by decide +kernel)
theorem mT_X1_with : (Cond.static yX1_with) ∈ lw_all := lw_in 698 (by decide +kernel) (by decide +kernel)
theorem mC_X1_with : (Cond.code yX1_with cX1_with 4 (some (.array (.array .int)))) ∈ lw_all := lw_in 699 (by decide +kernel) (by decide +kernel)
theorem mK_X1_7 : (Cond.classLink RX1 7 "[I") ∈ lw_all := lw_in 700 (by decide +kernel) (by decide +kernel)
theorem mM_L_28 : (Cond.methodLink RL 28 yX0_addPerson) ∈ lw_all := lw_in 702 (by decide +kernel) (by decide +kernel)
theorem mV_X0_addPerson : (Cond.instanceMethod yX0_addPerson) ∈ lw_all := lw_in 703 (by decide +kernel) (by decide +kernel)
theorem mS_X0_addPerson : (Cond.selects RX0 yX0_addPerson yX0_addPerson) ∈ lw_all := lw_in 704 (by decide +kernel) (by decide +kernel)
theorem mC_X0_addPerson : (Cond.code yX0_addPerson cX0_addPerson 3 (some .int)) ∈ lw_all := lw_in 705 (by decide +kernel) (by decide +kernel)
theorem mK_X0_52 : (Cond.classLink RX0 52 "java/lang/IllegalStateException") ∈ lw_all := lw_in 707 (by decide +kernel) (by decide +kernel)
theorem mB_IllegalStateException : (Cond.instantiable "java/lang/IllegalStateException" 6) ∈ lw_all := lw_in 708 (by decide +kernel) (by decide +kernel)
theorem mS_java_lang_Throwable_fillInStackTrace_I_Ljava_lang_Throwable_IllegalStateException : (Cond.selects "java/lang/IllegalStateException" ⟨"java/lang/Throwable", "fillInStackTrace", "(I)Ljava/lang/Throwable;"⟩ ⟨"java/lang/Throwable", "fillInStackTrace", "(I)Ljava/lang/Throwable;"⟩) ∈ lw_all := lw_in 710 (by decide +kernel) (by decide +kernel)
theorem mM_X0_56 : (Cond.methodLink RX0 56 ⟨"java/lang/IllegalStateException", "<init>", "(Ljava/lang/String;)V"⟩) ∈ lw_all := lw_in 717 (by decide +kernel) (by decide +kernel)
theorem mV_java_lang_IllegalStateException_init_Ljava_lang_String_V : (Cond.instanceMethod ⟨"java/lang/IllegalStateException", "<init>", "(Ljava/lang/String;)V"⟩) ∈ lw_all := lw_in 718 (by decide +kernel) (by decide +kernel)
theorem mC_java_lang_IllegalStateException_init_Ljava_lang_String_V : (Cond.code ⟨"java/lang/IllegalStateException", "<init>", "(Ljava/lang/String;)V"⟩ prog_9_method_2_code 2 none) ∈ lw_all := lw_in 719 (by decide +kernel) (by decide +kernel)
theorem mM_java_lang_IllegalStateException_7 : (Cond.methodLink "java/lang/IllegalStateException" 7 ⟨"java/lang/RuntimeException", "<init>", "(Ljava/lang/String;)V"⟩) ∈ lw_all := lw_in 720 (by decide +kernel) (by decide +kernel)
theorem mP_IllegalStateException__RuntimeException : (Cond.superclass "java/lang/IllegalStateException" "java/lang/RuntimeException") ∈ lw_all := lw_in 722 (by decide +kernel) (by decide +kernel)
theorem mM_L_34 : (Cond.methodLink RL 34 yX0_addWitness) ∈ lw_all := lw_in 723 (by decide +kernel) (by decide +kernel)
theorem mV_X0_addWitness : (Cond.instanceMethod yX0_addWitness) ∈ lw_all := lw_in 724 (by decide +kernel) (by decide +kernel)
theorem mS_X0_addWitness : (Cond.selects RX0 yX0_addWitness yX0_addWitness) ∈ lw_all := lw_in 725 (by decide +kernel) (by decide +kernel)
theorem mC_X0_addWitness : (Cond.code yX0_addWitness cX0_addWitness 3 (some .int)) ∈ lw_all := lw_in 726 (by decide +kernel) (by decide +kernel)
theorem mM_L_37 : (Cond.methodLink RL 37 yX0_setHeir) ∈ lw_all := lw_in 729 (by decide +kernel) (by decide +kernel)
theorem mV_X0_setHeir : (Cond.instanceMethod yX0_setHeir) ∈ lw_all := lw_in 730 (by decide +kernel) (by decide +kernel)
theorem mS_X0_setHeir : (Cond.selects RX0 yX0_setHeir yX0_setHeir) ∈ lw_all := lw_in 731 (by decide +kernel) (by decide +kernel)
theorem mC_X0_setHeir : (Cond.code yX0_setHeir cX0_setHeir 4 (some .int)) ∈ lw_all := lw_in 732 (by decide +kernel) (by decide +kernel)
theorem mM_X0_70 : (Cond.methodLink RX0 70 yX0_requireAlive) ∈ lw_all := lw_in 734 (by decide +kernel) (by decide +kernel)
theorem mV_X0_requireAlive : (Cond.instanceMethod yX0_requireAlive) ∈ lw_all := lw_in 736 (by decide +kernel) (by decide +kernel)
theorem mC_X0_requireAlive : (Cond.code yX0_requireAlive cX0_requireAlive 2 none) ∈ lw_all := lw_in 737 (by decide +kernel) (by decide +kernel)
theorem mM_L_40 : (Cond.methodLink RL 40 yX1_price) ∈ lw_all := lw_in 739 (by decide +kernel) (by decide +kernel)
theorem mM_L_48 : (Cond.methodLink RL 48 yX0_buyFate) ∈ lw_all := lw_in 740 (by decide +kernel) (by decide +kernel)
theorem mV_X0_buyFate : (Cond.instanceMethod yX0_buyFate) ∈ lw_all := lw_in 741 (by decide +kernel) (by decide +kernel)
theorem mS_X0_buyFate : (Cond.selects RX0 yX0_buyFate yX0_buyFate) ∈ lw_all := lw_in 742 (by decide +kernel) (by decide +kernel)
theorem mC_X0_buyFate : (Cond.code yX0_buyFate cX0_buyFate 3 (some .int)) ∈ lw_all := lw_in 743 (by decide +kernel) (by decide +kernel)
theorem mM_L_51 : (Cond.methodLink RL 51 yX0_turnDuty) ∈ lw_all := lw_in 746 (by decide +kernel) (by decide +kernel)
theorem mV_X0_turnDuty : (Cond.instanceMethod yX0_turnDuty) ∈ lw_all := lw_in 747 (by decide +kernel) (by decide +kernel)
theorem mS_X0_turnDuty : (Cond.selects RX0 yX0_turnDuty yX0_turnDuty) ∈ lw_all := lw_in 748 (by decide +kernel) (by decide +kernel)
theorem mC_X0_turnDuty : (Cond.code yX0_turnDuty cX0_turnDuty 2 (some .boolean)) ∈ lw_all := lw_in 749 (by decide +kernel) (by decide +kernel)
theorem mM_L_55 : (Cond.methodLink RL 55 yX0_hit) ∈ lw_all := lw_in 750 (by decide +kernel) (by decide +kernel)
theorem mV_X0_hit : (Cond.instanceMethod yX0_hit) ∈ lw_all := lw_in 751 (by decide +kernel) (by decide +kernel)
theorem mS_X0_hit : (Cond.selects RX0 yX0_hit yX0_hit) ∈ lw_all := lw_in 752 (by decide +kernel) (by decide +kernel)
theorem mC_X0_hit : (Cond.code yX0_hit cX0_hit 3 (some .int)) ∈ lw_all := lw_in 753 (by decide +kernel) (by decide +kernel)
theorem mM_X0_121 : (Cond.methodLink RX0 121 Lib.Math.min.name) ∈ lw_all := lw_in 754 (by decide +kernel) (by decide +kernel)
theorem mM_L_58 : (Cond.methodLink RL 58 yX1_hit) ∈ lw_all := lw_in 755 (by decide +kernel) (by decide +kernel)
theorem mV_X1_hit : (Cond.instanceMethod yX1_hit) ∈ lw_all := lw_in 756 (by decide +kernel) (by decide +kernel)
theorem mS_X1_hit : (Cond.selects RX1 yX1_hit yX1_hit) ∈ lw_all := lw_in 757 (by decide +kernel) (by decide +kernel)
theorem mC_X1_hit : (Cond.code yX1_hit cX1_hit 4 (some .int)) ∈ lw_all := lw_in 758 (by decide +kernel) (by decide +kernel)
theorem mM_X1_56 : (Cond.methodLink RX1 56 Lib.Math.min.name) ∈ lw_all := lw_in 759 (by decide +kernel) (by decide +kernel)
theorem mM_L_59 : (Cond.methodLink RL 59 yX0_pass) ∈ lw_all := lw_in 760 (by decide +kernel) (by decide +kernel)
theorem mV_X0_pass : (Cond.instanceMethod yX0_pass) ∈ lw_all := lw_in 761 (by decide +kernel) (by decide +kernel)
theorem mS_X0_pass : (Cond.selects RX0 yX0_pass yX0_pass) ∈ lw_all := lw_in 762 (by decide +kernel) (by decide +kernel)
theorem mC_X0_pass : (Cond.code yX0_pass cX0_pass 3 (some .int)) ∈ lw_all := lw_in 763 (by decide +kernel) (by decide +kernel)
theorem mM_X0_126 : (Cond.methodLink RX0 126 yX0_passOneNight) ∈ lw_all := lw_in 765 (by decide +kernel) (by decide +kernel)
theorem mV_X0_passOneNight : (Cond.instanceMethod yX0_passOneNight) ∈ lw_all := lw_in 767 (by decide +kernel) (by decide +kernel)
theorem mC_X0_passOneNight : (Cond.code yX0_passOneNight cX0_passOneNight 2 none) ∈ lw_all := lw_in 768 (by decide +kernel) (by decide +kernel)
theorem mM_X0_129 : (Cond.methodLink RX0 129 yX0_shaken) ∈ lw_all := lw_in 769 (by decide +kernel) (by decide +kernel)
theorem mM_L_62 : (Cond.methodLink RL 62 yX1_pass) ∈ lw_all := lw_in 770 (by decide +kernel) (by decide +kernel)
theorem mV_X1_pass : (Cond.instanceMethod yX1_pass) ∈ lw_all := lw_in 771 (by decide +kernel) (by decide +kernel)
theorem mS_X1_pass : (Cond.selects RX1 yX1_pass yX1_pass) ∈ lw_all := lw_in 772 (by decide +kernel) (by decide +kernel)
theorem mC_X1_pass : (Cond.code yX1_pass cX1_pass 7 (some .int)) ∈ lw_all := lw_in 773 (by decide +kernel) (by decide +kernel)
theorem mM_L_66 : (Cond.methodLink RL 66 yX0_miss) ∈ lw_all := lw_in 774 (by decide +kernel) (by decide +kernel)
theorem mV_X0_miss : (Cond.instanceMethod yX0_miss) ∈ lw_all := lw_in 775 (by decide +kernel) (by decide +kernel)
theorem mS_X0_miss : (Cond.selects RX0 yX0_miss yX0_miss) ∈ lw_all := lw_in 776 (by decide +kernel) (by decide +kernel)
theorem mC_X0_miss : (Cond.code yX0_miss cX0_miss 4 (some .int)) ∈ lw_all := lw_in 777 (by decide +kernel) (by decide +kernel)
theorem mM_X0_98 : (Cond.methodLink RX0 98 yX0_refundFate) ∈ lw_all := lw_in 779 (by decide +kernel) (by decide +kernel)
theorem mV_X0_refundFate : (Cond.instanceMethod yX0_refundFate) ∈ lw_all := lw_in 781 (by decide +kernel) (by decide +kernel)
theorem mC_X0_refundFate : (Cond.code yX0_refundFate cX0_refundFate 4 none) ∈ lw_all := lw_in 782 (by decide +kernel) (by decide +kernel)
theorem mM_X0_200 : (Cond.methodLink RX0 200 yX0_usesFate) ∈ lw_all := lw_in 783 (by decide +kernel) (by decide +kernel)
theorem mV_X0_usesFate : (Cond.instanceMethod yX0_usesFate) ∈ lw_all := lw_in 785 (by decide +kernel) (by decide +kernel)
theorem mC_X0_usesFate : (Cond.code yX0_usesFate cX0_usesFate 3 (some .boolean)) ∈ lw_all := lw_in 786 (by decide +kernel) (by decide +kernel)
theorem mM_X0_151 : (Cond.methodLink RX0 151 yX0_refundCoins) ∈ lw_all := lw_in 787 (by decide +kernel) (by decide +kernel)
theorem mV_X0_refundCoins : (Cond.instanceMethod yX0_refundCoins) ∈ lw_all := lw_in 789 (by decide +kernel) (by decide +kernel)
theorem mC_X0_refundCoins : (Cond.code yX0_refundCoins cX0_refundCoins 3 (some .int)) ∈ lw_all := lw_in 790 (by decide +kernel) (by decide +kernel)
theorem mM_X0_111 : (Cond.methodLink RX0 111 yX0_frightenWitnesses) ∈ lw_all := lw_in 791 (by decide +kernel) (by decide +kernel)
theorem mV_X0_frightenWitnesses : (Cond.instanceMethod yX0_frightenWitnesses) ∈ lw_all := lw_in 793 (by decide +kernel) (by decide +kernel)
theorem mC_X0_frightenWitnesses : (Cond.code yX0_frightenWitnesses cX0_frightenWitnesses 3 none) ∈ lw_all := lw_in 794 (by decide +kernel) (by decide +kernel)
theorem mM_L_69 : (Cond.methodLink RL 69 yX1_miss) ∈ lw_all := lw_in 795 (by decide +kernel) (by decide +kernel)
theorem mV_X1_miss : (Cond.instanceMethod yX1_miss) ∈ lw_all := lw_in 796 (by decide +kernel) (by decide +kernel)
theorem mS_X1_miss : (Cond.selects RX1 yX1_miss yX1_miss) ∈ lw_all := lw_in 797 (by decide +kernel) (by decide +kernel)
theorem mC_X1_miss : (Cond.code yX1_miss cX1_miss 10 (some .int)) ∈ lw_all := lw_in 798 (by decide +kernel) (by decide +kernel)
theorem mM_X1_33 : (Cond.methodLink RX1 33 yX1_certify) ∈ lw_all := lw_in 799 (by decide +kernel) (by decide +kernel)
theorem mV_X1_certify : (Cond.instanceMethod yX1_certify) ∈ lw_all := lw_in 800 (by decide +kernel) (by decide +kernel)
theorem mS_X1_certify : (Cond.selects RX1 yX1_certify yX1_certify) ∈ lw_all := lw_in 801 (by decide +kernel) (by decide +kernel)
theorem mC_X1_certify : (Cond.code yX1_certify cX1_certify 10 (some .int)) ∈ lw_all := lw_in 802 (by decide +kernel) (by decide +kernel)
theorem mM_X1_21 : (Cond.methodLink RX1 21 yX1_tells) ∈ lw_all := lw_in 803 (by decide +kernel) (by decide +kernel)
theorem mT_X1_tells : (Cond.static yX1_tells) ∈ lw_all := lw_in 804 (by decide +kernel) (by decide +kernel)
theorem mC_X1_tells : (Cond.code yX1_tells cX1_tells 3 (some .int)) ∈ lw_all := lw_in 805 (by decide +kernel) (by decide +kernel)
theorem mM_X1_37 : (Cond.methodLink RX1 37 yX1_refund) ∈ lw_all := lw_in 806 (by decide +kernel) (by decide +kernel)
theorem mV_X1_refund : (Cond.instanceMethod yX1_refund) ∈ lw_all := lw_in 807 (by decide +kernel) (by decide +kernel)
theorem mS_X1_refund : (Cond.selects RX1 yX1_refund yX1_refund) ∈ lw_all := lw_in 808 (by decide +kernel) (by decide +kernel)
theorem mC_X1_refund : (Cond.code yX1_refund cX1_refund 4 (some .int)) ∈ lw_all := lw_in 809 (by decide +kernel) (by decide +kernel)
theorem mM_X1_43 : (Cond.methodLink RX1 43 Lib.Math.max.name) ∈ lw_all := lw_in 810 (by decide +kernel) (by decide +kernel)
theorem mM_X1_49 : (Cond.methodLink RX1 49 yX1_with) ∈ lw_all := lw_in 811 (by decide +kernel) (by decide +kernel)
theorem mM_L_80 : (Cond.methodLink RL 80 yL_build) ∈ lw_all := lw_in 812 (by decide +kernel) (by decide +kernel)
theorem mT_L_build : (Cond.static yL_build) ∈ lw_all := lw_in 813 (by decide +kernel) (by decide +kernel)
theorem mC_L_build : (Cond.code yL_build cL_build 5 (some (.object "MissRegistryLaw$Sim"))) ∈ lw_all := lw_in 814 (by decide +kernel) (by decide +kernel)
theorem mK_L_10 : (Cond.classLink RL 10 RX1) ∈ lw_all := lw_in 815 (by decide +kernel) (by decide +kernel)
theorem mB_MissRegistryLaw_Sim : (Cond.instantiable RX1 6) ∈ lw_all := lw_in 816 (by decide +kernel) (by decide +kernel)
theorem mV_X1_init : (Cond.instanceMethod yX1_init) ∈ lw_all := lw_in 818 (by decide +kernel) (by decide +kernel)
theorem mC_X1_init : (Cond.code yX1_init cX1_init 1 none) ∈ lw_all := lw_in 819 (by decide +kernel) (by decide +kernel)
theorem mM_X1_1 : (Cond.methodLink RX1 1 objectInit) ∈ lw_all := lw_in 820 (by decide +kernel) (by decide +kernel)
theorem mF_X1_59 : (Cond.fieldLink RX1 59 "MissRegistryLaw$Sim" "night" "I") ∈ lw_all := lw_in 821 (by decide +kernel) (by decide +kernel)
theorem mF_RL_44 : (Cond.fieldLink RL 44 "MissRegistryLaw$Sim" "fund" "I") ∈ lw_all := lw_in 822 (by decide +kernel) (by decide +kernel)
theorem mF_X1_29 : (Cond.fieldLink RX1 29 "MissRegistryLaw$Sim" "fund" "I") ∈ lw_all := lw_in 823 (by decide +kernel) (by decide +kernel)
theorem mF_X1_40 : (Cond.fieldLink RX1 40 "MissRegistryLaw$Sim" "refunded" "I") ∈ lw_all := lw_in 824 (by decide +kernel) (by decide +kernel)
theorem mF_X1_9 : (Cond.fieldLink RX1 9 "MissRegistryLaw$Sim" "persons" "[[I") ∈ lw_all := lw_in 825 (by decide +kernel) (by decide +kernel)
theorem mF_RL_9 : (Cond.fieldLink RL 9 "MissRegistryLaw$Sim" "persons" "[[I") ∈ lw_all := lw_in 826 (by decide +kernel) (by decide +kernel)
theorem mF_X1_15 : (Cond.fieldLink RX1 15 "MissRegistryLaw$Sim" "witnesses" "[[I") ∈ lw_all := lw_in 827 (by decide +kernel) (by decide +kernel)
theorem mF_RL_15 : (Cond.fieldLink RL 15 "MissRegistryLaw$Sim" "witnesses" "[[I") ∈ lw_all := lw_in 828 (by decide +kernel) (by decide +kernel)
theorem mF_X1_18 : (Cond.fieldLink RX1 18 "MissRegistryLaw$Sim" "misses" "[[I") ∈ lw_all := lw_in 829 (by decide +kernel) (by decide +kernel)
theorem mF_RL_63 : (Cond.fieldLink RL 63 "MissRegistryLaw$Sim" "misses" "[[I") ∈ lw_all := lw_in 830 (by decide +kernel) (by decide +kernel)
theorem mP_MissRegistryLaw_Sim__Object : (Cond.superclass RX1 "java/lang/Object") ∈ lw_all := lw_in 843 (by decide +kernel) (by decide +kernel)
theorem mM_L_146 : (Cond.methodLink RL 146 Lib.Math.max.name) ∈ lw_all := lw_in 844 (by decide +kernel) (by decide +kernel)
theorem mM_L_141 : (Cond.methodLink RL 141 Lib.Math.min.name) ∈ lw_all := lw_in 845 (by decide +kernel) (by decide +kernel)
theorem mE_Throwable___fillInStackTrace___I_Ljava_lang_Throwable : (Cond.sameMethod "java/lang/Throwable" "java/lang/Throwable" "fillInStackTrace" "(I)Ljava/lang/Throwable;") ∈ lw_all := lw_in 846 (by decide +kernel) (by decide +kernel)
theorem mE_AbstractStringBuilder___append___Ljava_lang_String_Ljava_lang_AbstractStringBuilder : (Cond.sameMethod RJ5 RJ5 "append" "(Ljava/lang/String;)Ljava/lang/AbstractStringBuilder;") ∈ lw_all := lw_in 847 (by decide +kernel) (by decide +kernel)
theorem mE_AbstractStringBuilder___appendNull___Ljava_lang_AbstractStringBuilder : (Cond.sameMethod RJ5 RJ5 "appendNull" "()Ljava/lang/AbstractStringBuilder;") ∈ lw_all := lw_in 848 (by decide +kernel) (by decide +kernel)
theorem mE_AbstractStringBuilder___ensureCapacityInternal___I_V : (Cond.sameMethod RJ5 RJ5 "ensureCapacityInternal" "(I)V") ∈ lw_all := lw_in 849 (by decide +kernel) (by decide +kernel)
theorem mE_AbstractStringBuilder___newCapacity___I_I : (Cond.sameMethod RJ5 RJ5 "newCapacity" "(I)I") ∈ lw_all := lw_in 850 (by decide +kernel) (by decide +kernel)
theorem mE_AbstractStringBuilder___putStringAt___ILjava_lang_String_V : (Cond.sameMethod RJ5 RJ5 "putStringAt" "(ILjava/lang/String;)V") ∈ lw_all := lw_in 851 (by decide +kernel) (by decide +kernel)
theorem mE_AbstractStringBuilder___inflateIfNeededFor___Ljava_lang_String_V : (Cond.sameMethod RJ5 RJ5 "inflateIfNeededFor" "(Ljava/lang/String;)V") ∈ lw_all := lw_in 852 (by decide +kernel) (by decide +kernel)
theorem mE_AbstractStringBuilder___inflate___V : (Cond.sameMethod RJ5 RJ5 "inflate" "()V") ∈ lw_all := lw_in 853 (by decide +kernel) (by decide +kernel)
theorem mE_AbstractStringBuilder___append___I_Ljava_lang_AbstractStringBuilder : (Cond.sameMethod RJ5 RJ5 "append" "(I)Ljava/lang/AbstractStringBuilder;") ∈ lw_all := lw_in 854 (by decide +kernel) (by decide +kernel)
end
section
/-! the worlds: the class's object and its ten arrays; a 0 is the object; z: the classes of int[] and boolean[] -/
abbrev kK (D : va_G) (z : ClassId × ClassId) (U : State) : Prop := va_K D vwCl [(z.1, .int), (z.2, .boolean)] U
def xW (z : ClassId × ClassId) (a : Nat → Nat) (lv : Nat → Int32) (lk : Nat → Int32) (pu : Nat → Int32) (fa : Nat → Int32) (he : Nat → Int32) (n : Nat) (nv : Nat → Int32) (du : Nat → Int32) (ta : Nat → Int32) (w : Nat) (mp : Nat → Int32) (mi : Nat → Int32) (k : Nat) (nt : Int32) (fu : Int32) (re : Int32) : va_W := [(a 0, .inr (0, [.ref (a 1), .ref (a 2), .ref (a 3), .ref (a 4), .ref (a 5), .int (nI n), .ref (a 6), .ref (a 7), .ref (a 8), .int (nI w), .ref (a 9), .ref (a 10), .int (nI k), .int nt, .int fu, .int re])), (a 1, .inl (z.2, 10, .inl lv)), (a 2, .inl (z.1, 10, .inl lk)), (a 3, .inl (z.1, 10, .inl pu)), (a 4, .inl (z.1, 10, .inl fa)), (a 5, .inl (z.1, 10, .inl he)), (a 6, .inl (z.1, 6, .inl nv)), (a 7, .inl (z.2, 6, .inl du)), (a 8, .inl (z.1, 6, .inl ta)), (a 9, .inl (z.1, 60, .inl mp)), (a 10, .inl (z.1, 60, .inl mi))]
def xI (D : va_G) (z : ClassId × ClassId) (a : Nat → Nat) (lv : Nat → Int32) (lk : Nat → Int32) (pu : Nat → Int32) (fa : Nat → Int32) (he : Nat → Int32) (n : Nat) (nv : Nat → Int32) (du : Nat → Int32) (ta : Nat → Int32) (w : Nat) (mp : Nat → Int32) (mi : Nat → Int32) (k : Nat) (nt : Int32) (fu : Int32) (re : Int32) (U : State) : Prop := va_P D vwCl (xW z a lv lk pu fa he n nv du ta w mp mi k nt fu re) U.heap ∧ kK D z U
theorem xpre {s : State} {H : Heap} {D : va_G} {z : ClassId × ClassId} {a : Nat → Nat} {lv lk pu fa he : Nat → Int32} {n : Nat} {nv du ta : Nat → Int32} {w : Nat} {mp mi : Nat → Int32} {k : Nat} {nt fu re : Int32} {As : List Value} (hK : kK D z s) (hP : va_P D vwCl (xW z a lv lk pu fa he n nv du ta w mp mi k nt fu re) H) : PreV s H RX0 (a 0) (va_Pc (.ref (a 0) :: As) (xI D z a lv lk pu fa he n nv du ta w mp mi k nt fu re)) As :=
  ⟨fun a1 U g mk q => ⟨q.1, q.2.1, va_K.moved (u := U) (U := U.calling g mk a1) (Vm.Alike.refl U.vm) q.2.2⟩, va_recv hK hP (ci := 0) (q0 := 0) rfl rfl, fun U hU hW => ⟨rfl, by rw [hU]; exact hP, va_K.moved hW.alike hK⟩⟩
section ROWS
variable {p : Program} {l : Launch} {e : Env} {R : Room} {s : State} {m : MethodId} {args : Array Value} {below : List Frame} {meth : Method} {c : Code} {H : Heap} {locs : List Loc} {cells slots : Nat} {Q : State → Prop} {cc : ByteArray} {nL pc : Nat} {ls : Array Slot} {rest : List Value}
section ROWSX
variable {D : va_G} {z : ClassId × ClassId} {a : Nat → Nat} {lv lk pu fa he : Nat → Int32} {n : Nat} {nv du ta : Nat → Int32} {w : Nat} {mp mi : Nat → Int32} {k : Nat} {nt fu re : Int32}
theorem xg_lv (hC : CallFix p m c cc nL s args lw_all RX0) (hK : kK D z s) (hP : va_P D vwCl (xW z a lv lk pu fa he n nv du ta w mp mi k nt fu re) H) (hdg : decode cc pc = .ok (.getfield 9, 3)) (kk : W p l e R s m args below meth c H locs cells slots Q (F0 m (pc + 3) ls (.ref (a 1) :: rest))) : W p l e R s m args below meth c H locs cells slots Q (F0 m pc ls (.ref (a 0) :: rest)) := va_get (D := D) (ci := 0) (v := .ref (a 1)) (C := RX0) (T := TX0) (N := 16) hC.1 hC.2.1 hC.2.2.2.2 lays_X0 hC.2.2.2.1 hK hP 0 rfl rfl 0 (by decide) (hC.2.2.2.2 _ mF_X0_9) (fun _ h9 => h9) rfl hdg kk
theorem xg_lk (hC : CallFix p m c cc nL s args lw_all RX0) (hK : kK D z s) (hP : va_P D vwCl (xW z a lv lk pu fa he n nv du ta w mp mi k nt fu re) H) (hdg : decode cc pc = .ok (.getfield 13, 3)) (kk : W p l e R s m args below meth c H locs cells slots Q (F0 m (pc + 3) ls (.ref (a 2) :: rest))) : W p l e R s m args below meth c H locs cells slots Q (F0 m pc ls (.ref (a 0) :: rest)) := va_get (D := D) (ci := 0) (v := .ref (a 2)) (C := RX0) (T := TX0) (N := 16) hC.1 hC.2.1 hC.2.2.2.2 lays_X0 hC.2.2.2.1 hK hP 0 rfl rfl 1 (by decide) (hC.2.2.2.2 _ mF_X0_13) (fun _ h9 => h9) rfl hdg kk
theorem xg_pu (hC : CallFix p m c cc nL s args lw_all RX0) (hK : kK D z s) (hP : va_P D vwCl (xW z a lv lk pu fa he n nv du ta w mp mi k nt fu re) H) (hdg : decode cc pc = .ok (.getfield 17, 3)) (kk : W p l e R s m args below meth c H locs cells slots Q (F0 m (pc + 3) ls (.ref (a 3) :: rest))) : W p l e R s m args below meth c H locs cells slots Q (F0 m pc ls (.ref (a 0) :: rest)) := va_get (D := D) (ci := 0) (v := .ref (a 3)) (C := RX0) (T := TX0) (N := 16) hC.1 hC.2.1 hC.2.2.2.2 lays_X0 hC.2.2.2.1 hK hP 0 rfl rfl 2 (by decide) (hC.2.2.2.2 _ mF_X0_17) (fun _ h9 => h9) rfl hdg kk
theorem xg_fa (hC : CallFix p m c cc nL s args lw_all RX0) (hK : kK D z s) (hP : va_P D vwCl (xW z a lv lk pu fa he n nv du ta w mp mi k nt fu re) H) (hdg : decode cc pc = .ok (.getfield 20, 3)) (kk : W p l e R s m args below meth c H locs cells slots Q (F0 m (pc + 3) ls (.ref (a 4) :: rest))) : W p l e R s m args below meth c H locs cells slots Q (F0 m pc ls (.ref (a 0) :: rest)) := va_get (D := D) (ci := 0) (v := .ref (a 4)) (C := RX0) (T := TX0) (N := 16) hC.1 hC.2.1 hC.2.2.2.2 lays_X0 hC.2.2.2.1 hK hP 0 rfl rfl 3 (by decide) (hC.2.2.2.2 _ mF_X0_20) (fun _ h9 => h9) rfl hdg kk
theorem xg_he (hC : CallFix p m c cc nL s args lw_all RX0) (hK : kK D z s) (hP : va_P D vwCl (xW z a lv lk pu fa he n nv du ta w mp mi k nt fu re) H) (hdg : decode cc pc = .ok (.getfield 23, 3)) (kk : W p l e R s m args below meth c H locs cells slots Q (F0 m (pc + 3) ls (.ref (a 5) :: rest))) : W p l e R s m args below meth c H locs cells slots Q (F0 m pc ls (.ref (a 0) :: rest)) := va_get (D := D) (ci := 0) (v := .ref (a 5)) (C := RX0) (T := TX0) (N := 16) hC.1 hC.2.1 hC.2.2.2.2 lays_X0 hC.2.2.2.1 hK hP 0 rfl rfl 4 (by decide) (hC.2.2.2.2 _ mF_X0_23) (fun _ h9 => h9) rfl hdg kk
theorem xg_n (hC : CallFix p m c cc nL s args lw_all RX0) (hK : kK D z s) (hP : va_P D vwCl (xW z a lv lk pu fa he n nv du ta w mp mi k nt fu re) H) (hdg : decode cc pc = .ok (.getfield 48, 3)) (kk : W p l e R s m args below meth c H locs cells slots Q (F0 m (pc + 3) ls (.int (nI n) :: rest))) : W p l e R s m args below meth c H locs cells slots Q (F0 m pc ls (.ref (a 0) :: rest)) := va_get (D := D) (ci := 0) (v := .int (nI n)) (C := RX0) (T := TX0) (N := 16) hC.1 hC.2.1 hC.2.2.2.2 lays_X0 hC.2.2.2.1 hK hP 0 rfl rfl 5 (by decide) (hC.2.2.2.2 _ mF_X0_48) (fun _ h9 => h9) rfl hdg kk
theorem xp_n {A : Nat → Prop} {H0 : Heap} (hC : CallFix p m c cc nL s args lw_all RX0) (hK : kK D z s) (hP : va_P D vwCl (xW z a lv lk pu fa he n nv du ta w mp mi k nt fu re) H) (hD : va_D A (xW z a lv lk pu fa he n nv du ta w mp mi k nt fu re)) (hS : va_S A H0 H locs) {n' : Nat} {v : Int32} (hv : v = nI n') (hdg : decode cc pc = .ok (.putfield 48, 3)) (kk : ∀ (H1 : Heap) (locs1 : List Loc), va_P D vwCl (xW z a lv lk pu fa he n' nv du ta w mp mi k nt fu re) H1 → va_D A (xW z a lv lk pu fa he n' nv du ta w mp mi k nt fu re) → va_S A H0 H1 locs1 → W p l e R s m args below meth c H1 locs1 cells slots Q (F0 m (pc + 3) ls rest)) : W p l e R s m args below meth c H locs cells slots Q (F0 m pc ls (.int v :: .ref (a 0) :: rest)) := by
  subst hv
  exact va_put (D := D) (ci := 0) (v := .int (nI n')) (ty := .int) (C := RX0) (T := TX0) (N := 16) hC.1 hC.2.1 hC.2.2.2.2 lays_X0 tyX0 tyX0_ok nmX0 hC.2.2.2.1 hK hP hD hS 0 rfl rfl 5 (by decide) (hC.2.2.2.2 _ mF_X0_48) (fun _ h9 => h9) rfl (by decide +kernel) rfl rfl (Nat.le_of_ble_eq_true rfl) hdg kk
theorem xg_nv (hC : CallFix p m c cc nL s args lw_all RX0) (hK : kK D z s) (hP : va_P D vwCl (xW z a lv lk pu fa he n nv du ta w mp mi k nt fu re) H) (hdg : decode cc pc = .ok (.getfield 26, 3)) (kk : W p l e R s m args below meth c H locs cells slots Q (F0 m (pc + 3) ls (.ref (a 6) :: rest))) : W p l e R s m args below meth c H locs cells slots Q (F0 m pc ls (.ref (a 0) :: rest)) := va_get (D := D) (ci := 0) (v := .ref (a 6)) (C := RX0) (T := TX0) (N := 16) hC.1 hC.2.1 hC.2.2.2.2 lays_X0 hC.2.2.2.1 hK hP 0 rfl rfl 6 (by decide) (hC.2.2.2.2 _ mF_X0_26) (fun _ h9 => h9) rfl hdg kk
theorem xg_du (hC : CallFix p m c cc nL s args lw_all RX0) (hK : kK D z s) (hP : va_P D vwCl (xW z a lv lk pu fa he n nv du ta w mp mi k nt fu re) H) (hdg : decode cc pc = .ok (.getfield 29, 3)) (kk : W p l e R s m args below meth c H locs cells slots Q (F0 m (pc + 3) ls (.ref (a 7) :: rest))) : W p l e R s m args below meth c H locs cells slots Q (F0 m pc ls (.ref (a 0) :: rest)) := va_get (D := D) (ci := 0) (v := .ref (a 7)) (C := RX0) (T := TX0) (N := 16) hC.1 hC.2.1 hC.2.2.2.2 lays_X0 hC.2.2.2.1 hK hP 0 rfl rfl 7 (by decide) (hC.2.2.2.2 _ mF_X0_29) (fun _ h9 => h9) rfl hdg kk
theorem xg_ta (hC : CallFix p m c cc nL s args lw_all RX0) (hK : kK D z s) (hP : va_P D vwCl (xW z a lv lk pu fa he n nv du ta w mp mi k nt fu re) H) (hdg : decode cc pc = .ok (.getfield 32, 3)) (kk : W p l e R s m args below meth c H locs cells slots Q (F0 m (pc + 3) ls (.ref (a 8) :: rest))) : W p l e R s m args below meth c H locs cells slots Q (F0 m pc ls (.ref (a 0) :: rest)) := va_get (D := D) (ci := 0) (v := .ref (a 8)) (C := RX0) (T := TX0) (N := 16) hC.1 hC.2.1 hC.2.2.2.2 lays_X0 hC.2.2.2.1 hK hP 0 rfl rfl 8 (by decide) (hC.2.2.2.2 _ mF_X0_32) (fun _ h9 => h9) rfl hdg kk
theorem xg_w (hC : CallFix p m c cc nL s args lw_all RX0) (hK : kK D z s) (hP : va_P D vwCl (xW z a lv lk pu fa he n nv du ta w mp mi k nt fu re) H) (hdg : decode cc pc = .ok (.getfield 59, 3)) (kk : W p l e R s m args below meth c H locs cells slots Q (F0 m (pc + 3) ls (.int (nI w) :: rest))) : W p l e R s m args below meth c H locs cells slots Q (F0 m pc ls (.ref (a 0) :: rest)) := va_get (D := D) (ci := 0) (v := .int (nI w)) (C := RX0) (T := TX0) (N := 16) hC.1 hC.2.1 hC.2.2.2.2 lays_X0 hC.2.2.2.1 hK hP 0 rfl rfl 9 (by decide) (hC.2.2.2.2 _ mF_X0_59) (fun _ h9 => h9) rfl hdg kk
theorem xp_w {A : Nat → Prop} {H0 : Heap} (hC : CallFix p m c cc nL s args lw_all RX0) (hK : kK D z s) (hP : va_P D vwCl (xW z a lv lk pu fa he n nv du ta w mp mi k nt fu re) H) (hD : va_D A (xW z a lv lk pu fa he n nv du ta w mp mi k nt fu re)) (hS : va_S A H0 H locs) {w' : Nat} {v : Int32} (hv : v = nI w') (hdg : decode cc pc = .ok (.putfield 59, 3)) (kk : ∀ (H1 : Heap) (locs1 : List Loc), va_P D vwCl (xW z a lv lk pu fa he n nv du ta w' mp mi k nt fu re) H1 → va_D A (xW z a lv lk pu fa he n nv du ta w' mp mi k nt fu re) → va_S A H0 H1 locs1 → W p l e R s m args below meth c H1 locs1 cells slots Q (F0 m (pc + 3) ls rest)) : W p l e R s m args below meth c H locs cells slots Q (F0 m pc ls (.int v :: .ref (a 0) :: rest)) := by
  subst hv
  exact va_put (D := D) (ci := 0) (v := .int (nI w')) (ty := .int) (C := RX0) (T := TX0) (N := 16) hC.1 hC.2.1 hC.2.2.2.2 lays_X0 tyX0 tyX0_ok nmX0 hC.2.2.2.1 hK hP hD hS 0 rfl rfl 9 (by decide) (hC.2.2.2.2 _ mF_X0_59) (fun _ h9 => h9) rfl (by decide +kernel) rfl rfl (Nat.le_of_ble_eq_true rfl) hdg kk
theorem xg_mp (hC : CallFix p m c cc nL s args lw_all RX0) (hK : kK D z s) (hP : va_P D vwCl (xW z a lv lk pu fa he n nv du ta w mp mi k nt fu re) H) (hdg : decode cc pc = .ok (.getfield 35, 3)) (kk : W p l e R s m args below meth c H locs cells slots Q (F0 m (pc + 3) ls (.ref (a 9) :: rest))) : W p l e R s m args below meth c H locs cells slots Q (F0 m pc ls (.ref (a 0) :: rest)) := va_get (D := D) (ci := 0) (v := .ref (a 9)) (C := RX0) (T := TX0) (N := 16) hC.1 hC.2.1 hC.2.2.2.2 lays_X0 hC.2.2.2.1 hK hP 0 rfl rfl 10 (by decide) (hC.2.2.2.2 _ mF_X0_35) (fun _ h9 => h9) rfl hdg kk
theorem xg_mi (hC : CallFix p m c cc nL s args lw_all RX0) (hK : kK D z s) (hP : va_P D vwCl (xW z a lv lk pu fa he n nv du ta w mp mi k nt fu re) H) (hdg : decode cc pc = .ok (.getfield 38, 3)) (kk : W p l e R s m args below meth c H locs cells slots Q (F0 m (pc + 3) ls (.ref (a 10) :: rest))) : W p l e R s m args below meth c H locs cells slots Q (F0 m pc ls (.ref (a 0) :: rest)) := va_get (D := D) (ci := 0) (v := .ref (a 10)) (C := RX0) (T := TX0) (N := 16) hC.1 hC.2.1 hC.2.2.2.2 lays_X0 hC.2.2.2.1 hK hP 0 rfl rfl 11 (by decide) (hC.2.2.2.2 _ mF_X0_38) (fun _ h9 => h9) rfl hdg kk
theorem xg_k (hC : CallFix p m c cc nL s args lw_all RX0) (hK : kK D z s) (hP : va_P D vwCl (xW z a lv lk pu fa he n nv du ta w mp mi k nt fu re) H) (hdg : decode cc pc = .ok (.getfield 90, 3)) (kk : W p l e R s m args below meth c H locs cells slots Q (F0 m (pc + 3) ls (.int (nI k) :: rest))) : W p l e R s m args below meth c H locs cells slots Q (F0 m pc ls (.ref (a 0) :: rest)) := va_get (D := D) (ci := 0) (v := .int (nI k)) (C := RX0) (T := TX0) (N := 16) hC.1 hC.2.1 hC.2.2.2.2 lays_X0 hC.2.2.2.1 hK hP 0 rfl rfl 12 (by decide) (hC.2.2.2.2 _ mF_X0_90) (fun _ h9 => h9) rfl hdg kk
theorem xp_k {A : Nat → Prop} {H0 : Heap} (hC : CallFix p m c cc nL s args lw_all RX0) (hK : kK D z s) (hP : va_P D vwCl (xW z a lv lk pu fa he n nv du ta w mp mi k nt fu re) H) (hD : va_D A (xW z a lv lk pu fa he n nv du ta w mp mi k nt fu re)) (hS : va_S A H0 H locs) {k' : Nat} {v : Int32} (hv : v = nI k') (hdg : decode cc pc = .ok (.putfield 90, 3)) (kk : ∀ (H1 : Heap) (locs1 : List Loc), va_P D vwCl (xW z a lv lk pu fa he n nv du ta w mp mi k' nt fu re) H1 → va_D A (xW z a lv lk pu fa he n nv du ta w mp mi k' nt fu re) → va_S A H0 H1 locs1 → W p l e R s m args below meth c H1 locs1 cells slots Q (F0 m (pc + 3) ls rest)) : W p l e R s m args below meth c H locs cells slots Q (F0 m pc ls (.int v :: .ref (a 0) :: rest)) := by
  subst hv
  exact va_put (D := D) (ci := 0) (v := .int (nI k')) (ty := .int) (C := RX0) (T := TX0) (N := 16) hC.1 hC.2.1 hC.2.2.2.2 lays_X0 tyX0 tyX0_ok nmX0 hC.2.2.2.1 hK hP hD hS 0 rfl rfl 12 (by decide) (hC.2.2.2.2 _ mF_X0_90) (fun _ h9 => h9) rfl (by decide +kernel) rfl rfl (Nat.le_of_ble_eq_true rfl) hdg kk
theorem xg_nt (hC : CallFix p m c cc nL s args lw_all RX0) (hK : kK D z s) (hP : va_P D vwCl (xW z a lv lk pu fa he n nv du ta w mp mi k nt fu re) H) (hdg : decode cc pc = .ok (.getfield 133, 3)) (kk : W p l e R s m args below meth c H locs cells slots Q (F0 m (pc + 3) ls (.int nt :: rest))) : W p l e R s m args below meth c H locs cells slots Q (F0 m pc ls (.ref (a 0) :: rest)) := va_get (D := D) (ci := 0) (v := .int nt) (C := RX0) (T := TX0) (N := 16) hC.1 hC.2.1 hC.2.2.2.2 lays_X0 hC.2.2.2.1 hK hP 0 rfl rfl 13 (by decide) (hC.2.2.2.2 _ mF_X0_133) (fun _ h9 => h9) rfl hdg kk
theorem xp_nt {A : Nat → Prop} {H0 : Heap} (hC : CallFix p m c cc nL s args lw_all RX0) (hK : kK D z s) (hP : va_P D vwCl (xW z a lv lk pu fa he n nv du ta w mp mi k nt fu re) H) (hD : va_D A (xW z a lv lk pu fa he n nv du ta w mp mi k nt fu re)) (hS : va_S A H0 H locs) {nt' : Int32} (hdg : decode cc pc = .ok (.putfield 133, 3)) (kk : ∀ (H1 : Heap) (locs1 : List Loc), va_P D vwCl (xW z a lv lk pu fa he n nv du ta w mp mi k nt' fu re) H1 → va_D A (xW z a lv lk pu fa he n nv du ta w mp mi k nt' fu re) → va_S A H0 H1 locs1 → W p l e R s m args below meth c H1 locs1 cells slots Q (F0 m (pc + 3) ls rest)) : W p l e R s m args below meth c H locs cells slots Q (F0 m pc ls (.int nt' :: .ref (a 0) :: rest)) := by
  exact va_put (D := D) (ci := 0) (v := .int nt') (ty := .int) (C := RX0) (T := TX0) (N := 16) hC.1 hC.2.1 hC.2.2.2.2 lays_X0 tyX0 tyX0_ok nmX0 hC.2.2.2.1 hK hP hD hS 0 rfl rfl 13 (by decide) (hC.2.2.2.2 _ mF_X0_133) (fun _ h9 => h9) rfl (by decide +kernel) rfl rfl (Nat.le_of_ble_eq_true rfl) hdg kk
theorem xg_fu (hC : CallFix p m c cc nL s args lw_all RX0) (hK : kK D z s) (hP : va_P D vwCl (xW z a lv lk pu fa he n nv du ta w mp mi k nt fu re) H) (hdg : decode cc pc = .ok (.getfield 81, 3)) (kk : W p l e R s m args below meth c H locs cells slots Q (F0 m (pc + 3) ls (.int fu :: rest))) : W p l e R s m args below meth c H locs cells slots Q (F0 m pc ls (.ref (a 0) :: rest)) := va_get (D := D) (ci := 0) (v := .int fu) (C := RX0) (T := TX0) (N := 16) hC.1 hC.2.1 hC.2.2.2.2 lays_X0 hC.2.2.2.1 hK hP 0 rfl rfl 14 (by decide) (hC.2.2.2.2 _ mF_X0_81) (fun _ h9 => h9) rfl hdg kk
theorem xp_fu {A : Nat → Prop} {H0 : Heap} (hC : CallFix p m c cc nL s args lw_all RX0) (hK : kK D z s) (hP : va_P D vwCl (xW z a lv lk pu fa he n nv du ta w mp mi k nt fu re) H) (hD : va_D A (xW z a lv lk pu fa he n nv du ta w mp mi k nt fu re)) (hS : va_S A H0 H locs) {fu' : Int32} (hdg : decode cc pc = .ok (.putfield 81, 3)) (kk : ∀ (H1 : Heap) (locs1 : List Loc), va_P D vwCl (xW z a lv lk pu fa he n nv du ta w mp mi k nt fu' re) H1 → va_D A (xW z a lv lk pu fa he n nv du ta w mp mi k nt fu' re) → va_S A H0 H1 locs1 → W p l e R s m args below meth c H1 locs1 cells slots Q (F0 m (pc + 3) ls rest)) : W p l e R s m args below meth c H locs cells slots Q (F0 m pc ls (.int fu' :: .ref (a 0) :: rest)) := by
  exact va_put (D := D) (ci := 0) (v := .int fu') (ty := .int) (C := RX0) (T := TX0) (N := 16) hC.1 hC.2.1 hC.2.2.2.2 lays_X0 tyX0 tyX0_ok nmX0 hC.2.2.2.1 hK hP hD hS 0 rfl rfl 14 (by decide) (hC.2.2.2.2 _ mF_X0_81) (fun _ h9 => h9) rfl (by decide +kernel) rfl rfl (Nat.le_of_ble_eq_true rfl) hdg kk
theorem xg_re (hC : CallFix p m c cc nL s args lw_all RX0) (hK : kK D z s) (hP : va_P D vwCl (xW z a lv lk pu fa he n nv du ta w mp mi k nt fu re) H) (hdg : decode cc pc = .ok (.getfield 139, 3)) (kk : W p l e R s m args below meth c H locs cells slots Q (F0 m (pc + 3) ls (.int re :: rest))) : W p l e R s m args below meth c H locs cells slots Q (F0 m pc ls (.ref (a 0) :: rest)) := va_get (D := D) (ci := 0) (v := .int re) (C := RX0) (T := TX0) (N := 16) hC.1 hC.2.1 hC.2.2.2.2 lays_X0 hC.2.2.2.1 hK hP 0 rfl rfl 15 (by decide) (hC.2.2.2.2 _ mF_X0_139) (fun _ h9 => h9) rfl hdg kk
theorem xp_re {A : Nat → Prop} {H0 : Heap} (hC : CallFix p m c cc nL s args lw_all RX0) (hK : kK D z s) (hP : va_P D vwCl (xW z a lv lk pu fa he n nv du ta w mp mi k nt fu re) H) (hD : va_D A (xW z a lv lk pu fa he n nv du ta w mp mi k nt fu re)) (hS : va_S A H0 H locs) {re' : Int32} (hdg : decode cc pc = .ok (.putfield 139, 3)) (kk : ∀ (H1 : Heap) (locs1 : List Loc), va_P D vwCl (xW z a lv lk pu fa he n nv du ta w mp mi k nt fu re') H1 → va_D A (xW z a lv lk pu fa he n nv du ta w mp mi k nt fu re') → va_S A H0 H1 locs1 → W p l e R s m args below meth c H1 locs1 cells slots Q (F0 m (pc + 3) ls rest)) : W p l e R s m args below meth c H locs cells slots Q (F0 m pc ls (.int re' :: .ref (a 0) :: rest)) := by
  exact va_put (D := D) (ci := 0) (v := .int re') (ty := .int) (C := RX0) (T := TX0) (N := 16) hC.1 hC.2.1 hC.2.2.2.2 lays_X0 tyX0 tyX0_ok nmX0 hC.2.2.2.1 hK hP hD hS 0 rfl rfl 15 (by decide) (hC.2.2.2.2 _ mF_X0_139) (fun _ h9 => h9) rfl (by decide +kernel) rfl rfl (Nat.le_of_ble_eq_true rfl) hdg kk
theorem xl_lv (hC : CallFix p m c cc nL s args lw_all RX0) (hK : kK D z s) (hP : va_P D vwCl (xW z a lv lk pu fa he n nv du ta w mp mi k nt fu re) H) {x : Int32} (j : Nat) (hx : x = nI j) (hj : j < 10) (hdg : decode cc pc = .ok (.baload, 1)) (kk : W p l e R s m args below meth c H locs cells slots Q (F0 m (pc + 1) ls (.int (lv j) :: rest))) : W p l e R s m args below meth c H locs cells slots Q (F0 m pc ls (.int x :: .ref (a 1) :: rest)) := by
  subst hx
  refine va_zald (D := D) hC.1 hC.2.1 hK hP 1 1 (n := 10) (f := lv) rfl rfl (vp_in_nI hj (by decide)) hdg ?_
  rw [nI_clamp (by omega)]
  exact kk
theorem xs_lv {A : Nat → Prop} {H0 : Heap} (hC : CallFix p m c cc nL s args lw_all RX0) (hK : kK D z s) (hP : va_P D vwCl (xW z a lv lk pu fa he n nv du ta w mp mi k nt fu re) H) (hD : va_D A (xW z a lv lk pu fa he n nv du ta w mp mi k nt fu re)) (hS : va_S A H0 H locs) {x v : Int32} (j : Nat) (hx : x = nI j) (hj : j < 10) (hn : vp_nar .boolean v = v) (hdg : decode cc pc = .ok (.bastore, 1)) (kk : ∀ (H1 : Heap) (locs1 : List Loc), va_P D vwCl (xW z a (upd lv j v) lk pu fa he n nv du ta w mp mi k nt fu re) H1 → va_D A (xW z a (upd lv j v) lk pu fa he n nv du ta w mp mi k nt fu re) → va_S A H0 H1 locs1 → W p l e R s m args below meth c H1 locs1 cells slots Q (F0 m (pc + 1) ls rest)) : W p l e R s m args below meth c H locs cells slots Q (F0 m pc ls (.int v :: .int x :: .ref (a 1) :: rest)) := by
  subst hx
  refine va_zast (D := D) hC.1 hC.2.1 hK hP hD hS 1 1 (n := 10) (f := lv) rfl rfl (vp_in_nI hj (by decide)) hdg ?_
  rw [nI_clamp (by omega), hn]
  exact kk
theorem xl_lk (hC : CallFix p m c cc nL s args lw_all RX0) (hK : kK D z s) (hP : va_P D vwCl (xW z a lv lk pu fa he n nv du ta w mp mi k nt fu re) H) {x : Int32} (j : Nat) (hx : x = nI j) (hj : j < 10) (hdg : decode cc pc = .ok (.iaload, 1)) (kk : W p l e R s m args below meth c H locs cells slots Q (F0 m (pc + 1) ls (.int (lk j) :: rest))) : W p l e R s m args below meth c H locs cells slots Q (F0 m pc ls (.int x :: .ref (a 2) :: rest)) := by
  subst hx
  refine va_iald (D := D) hC.1 hC.2.1 hK hP 2 0 (n := 10) (f := lk) rfl rfl (vp_in_nI hj (by decide)) hdg ?_
  rw [nI_clamp (by omega)]
  exact kk
theorem xs_lk {A : Nat → Prop} {H0 : Heap} (hC : CallFix p m c cc nL s args lw_all RX0) (hK : kK D z s) (hP : va_P D vwCl (xW z a lv lk pu fa he n nv du ta w mp mi k nt fu re) H) (hD : va_D A (xW z a lv lk pu fa he n nv du ta w mp mi k nt fu re)) (hS : va_S A H0 H locs) {x v : Int32} (j : Nat) (hx : x = nI j) (hj : j < 10) (hdg : decode cc pc = .ok (.iastore, 1)) (kk : ∀ (H1 : Heap) (locs1 : List Loc), va_P D vwCl (xW z a lv (upd lk j v) pu fa he n nv du ta w mp mi k nt fu re) H1 → va_D A (xW z a lv (upd lk j v) pu fa he n nv du ta w mp mi k nt fu re) → va_S A H0 H1 locs1 → W p l e R s m args below meth c H1 locs1 cells slots Q (F0 m (pc + 1) ls rest)) : W p l e R s m args below meth c H locs cells slots Q (F0 m pc ls (.int v :: .int x :: .ref (a 2) :: rest)) := by
  subst hx
  refine va_iast (D := D) hC.1 hC.2.1 hK hP hD hS 2 0 (n := 10) (f := lk) rfl rfl (vp_in_nI hj (by decide)) hdg ?_
  rw [nI_clamp (by omega)]
  exact kk
theorem xl_pu (hC : CallFix p m c cc nL s args lw_all RX0) (hK : kK D z s) (hP : va_P D vwCl (xW z a lv lk pu fa he n nv du ta w mp mi k nt fu re) H) {x : Int32} (j : Nat) (hx : x = nI j) (hj : j < 10) (hdg : decode cc pc = .ok (.iaload, 1)) (kk : W p l e R s m args below meth c H locs cells slots Q (F0 m (pc + 1) ls (.int (pu j) :: rest))) : W p l e R s m args below meth c H locs cells slots Q (F0 m pc ls (.int x :: .ref (a 3) :: rest)) := by
  subst hx
  refine va_iald (D := D) hC.1 hC.2.1 hK hP 3 0 (n := 10) (f := pu) rfl rfl (vp_in_nI hj (by decide)) hdg ?_
  rw [nI_clamp (by omega)]
  exact kk
theorem xs_pu {A : Nat → Prop} {H0 : Heap} (hC : CallFix p m c cc nL s args lw_all RX0) (hK : kK D z s) (hP : va_P D vwCl (xW z a lv lk pu fa he n nv du ta w mp mi k nt fu re) H) (hD : va_D A (xW z a lv lk pu fa he n nv du ta w mp mi k nt fu re)) (hS : va_S A H0 H locs) {x v : Int32} (j : Nat) (hx : x = nI j) (hj : j < 10) (hdg : decode cc pc = .ok (.iastore, 1)) (kk : ∀ (H1 : Heap) (locs1 : List Loc), va_P D vwCl (xW z a lv lk (upd pu j v) fa he n nv du ta w mp mi k nt fu re) H1 → va_D A (xW z a lv lk (upd pu j v) fa he n nv du ta w mp mi k nt fu re) → va_S A H0 H1 locs1 → W p l e R s m args below meth c H1 locs1 cells slots Q (F0 m (pc + 1) ls rest)) : W p l e R s m args below meth c H locs cells slots Q (F0 m pc ls (.int v :: .int x :: .ref (a 3) :: rest)) := by
  subst hx
  refine va_iast (D := D) hC.1 hC.2.1 hK hP hD hS 3 0 (n := 10) (f := pu) rfl rfl (vp_in_nI hj (by decide)) hdg ?_
  rw [nI_clamp (by omega)]
  exact kk
theorem xl_fa (hC : CallFix p m c cc nL s args lw_all RX0) (hK : kK D z s) (hP : va_P D vwCl (xW z a lv lk pu fa he n nv du ta w mp mi k nt fu re) H) {x : Int32} (j : Nat) (hx : x = nI j) (hj : j < 10) (hdg : decode cc pc = .ok (.iaload, 1)) (kk : W p l e R s m args below meth c H locs cells slots Q (F0 m (pc + 1) ls (.int (fa j) :: rest))) : W p l e R s m args below meth c H locs cells slots Q (F0 m pc ls (.int x :: .ref (a 4) :: rest)) := by
  subst hx
  refine va_iald (D := D) hC.1 hC.2.1 hK hP 4 0 (n := 10) (f := fa) rfl rfl (vp_in_nI hj (by decide)) hdg ?_
  rw [nI_clamp (by omega)]
  exact kk
theorem xs_fa {A : Nat → Prop} {H0 : Heap} (hC : CallFix p m c cc nL s args lw_all RX0) (hK : kK D z s) (hP : va_P D vwCl (xW z a lv lk pu fa he n nv du ta w mp mi k nt fu re) H) (hD : va_D A (xW z a lv lk pu fa he n nv du ta w mp mi k nt fu re)) (hS : va_S A H0 H locs) {x v : Int32} (j : Nat) (hx : x = nI j) (hj : j < 10) (hdg : decode cc pc = .ok (.iastore, 1)) (kk : ∀ (H1 : Heap) (locs1 : List Loc), va_P D vwCl (xW z a lv lk pu (upd fa j v) he n nv du ta w mp mi k nt fu re) H1 → va_D A (xW z a lv lk pu (upd fa j v) he n nv du ta w mp mi k nt fu re) → va_S A H0 H1 locs1 → W p l e R s m args below meth c H1 locs1 cells slots Q (F0 m (pc + 1) ls rest)) : W p l e R s m args below meth c H locs cells slots Q (F0 m pc ls (.int v :: .int x :: .ref (a 4) :: rest)) := by
  subst hx
  refine va_iast (D := D) hC.1 hC.2.1 hK hP hD hS 4 0 (n := 10) (f := fa) rfl rfl (vp_in_nI hj (by decide)) hdg ?_
  rw [nI_clamp (by omega)]
  exact kk
theorem xl_he (hC : CallFix p m c cc nL s args lw_all RX0) (hK : kK D z s) (hP : va_P D vwCl (xW z a lv lk pu fa he n nv du ta w mp mi k nt fu re) H) {x : Int32} (j : Nat) (hx : x = nI j) (hj : j < 10) (hdg : decode cc pc = .ok (.iaload, 1)) (kk : W p l e R s m args below meth c H locs cells slots Q (F0 m (pc + 1) ls (.int (he j) :: rest))) : W p l e R s m args below meth c H locs cells slots Q (F0 m pc ls (.int x :: .ref (a 5) :: rest)) := by
  subst hx
  refine va_iald (D := D) hC.1 hC.2.1 hK hP 5 0 (n := 10) (f := he) rfl rfl (vp_in_nI hj (by decide)) hdg ?_
  rw [nI_clamp (by omega)]
  exact kk
theorem xs_he {A : Nat → Prop} {H0 : Heap} (hC : CallFix p m c cc nL s args lw_all RX0) (hK : kK D z s) (hP : va_P D vwCl (xW z a lv lk pu fa he n nv du ta w mp mi k nt fu re) H) (hD : va_D A (xW z a lv lk pu fa he n nv du ta w mp mi k nt fu re)) (hS : va_S A H0 H locs) {x v : Int32} (j : Nat) (hx : x = nI j) (hj : j < 10) (hdg : decode cc pc = .ok (.iastore, 1)) (kk : ∀ (H1 : Heap) (locs1 : List Loc), va_P D vwCl (xW z a lv lk pu fa (upd he j v) n nv du ta w mp mi k nt fu re) H1 → va_D A (xW z a lv lk pu fa (upd he j v) n nv du ta w mp mi k nt fu re) → va_S A H0 H1 locs1 → W p l e R s m args below meth c H1 locs1 cells slots Q (F0 m (pc + 1) ls rest)) : W p l e R s m args below meth c H locs cells slots Q (F0 m pc ls (.int v :: .int x :: .ref (a 5) :: rest)) := by
  subst hx
  refine va_iast (D := D) hC.1 hC.2.1 hK hP hD hS 5 0 (n := 10) (f := he) rfl rfl (vp_in_nI hj (by decide)) hdg ?_
  rw [nI_clamp (by omega)]
  exact kk
theorem xl_nv (hC : CallFix p m c cc nL s args lw_all RX0) (hK : kK D z s) (hP : va_P D vwCl (xW z a lv lk pu fa he n nv du ta w mp mi k nt fu re) H) {x : Int32} (j : Nat) (hx : x = nI j) (hj : j < 6) (hdg : decode cc pc = .ok (.iaload, 1)) (kk : W p l e R s m args below meth c H locs cells slots Q (F0 m (pc + 1) ls (.int (nv j) :: rest))) : W p l e R s m args below meth c H locs cells slots Q (F0 m pc ls (.int x :: .ref (a 6) :: rest)) := by
  subst hx
  refine va_iald (D := D) hC.1 hC.2.1 hK hP 6 0 (n := 6) (f := nv) rfl rfl (vp_in_nI hj (by decide)) hdg ?_
  rw [nI_clamp (by omega)]
  exact kk
theorem xs_nv {A : Nat → Prop} {H0 : Heap} (hC : CallFix p m c cc nL s args lw_all RX0) (hK : kK D z s) (hP : va_P D vwCl (xW z a lv lk pu fa he n nv du ta w mp mi k nt fu re) H) (hD : va_D A (xW z a lv lk pu fa he n nv du ta w mp mi k nt fu re)) (hS : va_S A H0 H locs) {x v : Int32} (j : Nat) (hx : x = nI j) (hj : j < 6) (hdg : decode cc pc = .ok (.iastore, 1)) (kk : ∀ (H1 : Heap) (locs1 : List Loc), va_P D vwCl (xW z a lv lk pu fa he n (upd nv j v) du ta w mp mi k nt fu re) H1 → va_D A (xW z a lv lk pu fa he n (upd nv j v) du ta w mp mi k nt fu re) → va_S A H0 H1 locs1 → W p l e R s m args below meth c H1 locs1 cells slots Q (F0 m (pc + 1) ls rest)) : W p l e R s m args below meth c H locs cells slots Q (F0 m pc ls (.int v :: .int x :: .ref (a 6) :: rest)) := by
  subst hx
  refine va_iast (D := D) hC.1 hC.2.1 hK hP hD hS 6 0 (n := 6) (f := nv) rfl rfl (vp_in_nI hj (by decide)) hdg ?_
  rw [nI_clamp (by omega)]
  exact kk
theorem xl_du (hC : CallFix p m c cc nL s args lw_all RX0) (hK : kK D z s) (hP : va_P D vwCl (xW z a lv lk pu fa he n nv du ta w mp mi k nt fu re) H) {x : Int32} (j : Nat) (hx : x = nI j) (hj : j < 6) (hdg : decode cc pc = .ok (.baload, 1)) (kk : W p l e R s m args below meth c H locs cells slots Q (F0 m (pc + 1) ls (.int (du j) :: rest))) : W p l e R s m args below meth c H locs cells slots Q (F0 m pc ls (.int x :: .ref (a 7) :: rest)) := by
  subst hx
  refine va_zald (D := D) hC.1 hC.2.1 hK hP 7 1 (n := 6) (f := du) rfl rfl (vp_in_nI hj (by decide)) hdg ?_
  rw [nI_clamp (by omega)]
  exact kk
theorem xs_du {A : Nat → Prop} {H0 : Heap} (hC : CallFix p m c cc nL s args lw_all RX0) (hK : kK D z s) (hP : va_P D vwCl (xW z a lv lk pu fa he n nv du ta w mp mi k nt fu re) H) (hD : va_D A (xW z a lv lk pu fa he n nv du ta w mp mi k nt fu re)) (hS : va_S A H0 H locs) {x v : Int32} (j : Nat) (hx : x = nI j) (hj : j < 6) (hn : vp_nar .boolean v = v) (hdg : decode cc pc = .ok (.bastore, 1)) (kk : ∀ (H1 : Heap) (locs1 : List Loc), va_P D vwCl (xW z a lv lk pu fa he n nv (upd du j v) ta w mp mi k nt fu re) H1 → va_D A (xW z a lv lk pu fa he n nv (upd du j v) ta w mp mi k nt fu re) → va_S A H0 H1 locs1 → W p l e R s m args below meth c H1 locs1 cells slots Q (F0 m (pc + 1) ls rest)) : W p l e R s m args below meth c H locs cells slots Q (F0 m pc ls (.int v :: .int x :: .ref (a 7) :: rest)) := by
  subst hx
  refine va_zast (D := D) hC.1 hC.2.1 hK hP hD hS 7 1 (n := 6) (f := du) rfl rfl (vp_in_nI hj (by decide)) hdg ?_
  rw [nI_clamp (by omega), hn]
  exact kk
theorem xl_ta (hC : CallFix p m c cc nL s args lw_all RX0) (hK : kK D z s) (hP : va_P D vwCl (xW z a lv lk pu fa he n nv du ta w mp mi k nt fu re) H) {x : Int32} (j : Nat) (hx : x = nI j) (hj : j < 6) (hdg : decode cc pc = .ok (.iaload, 1)) (kk : W p l e R s m args below meth c H locs cells slots Q (F0 m (pc + 1) ls (.int (ta j) :: rest))) : W p l e R s m args below meth c H locs cells slots Q (F0 m pc ls (.int x :: .ref (a 8) :: rest)) := by
  subst hx
  refine va_iald (D := D) hC.1 hC.2.1 hK hP 8 0 (n := 6) (f := ta) rfl rfl (vp_in_nI hj (by decide)) hdg ?_
  rw [nI_clamp (by omega)]
  exact kk
theorem xs_ta {A : Nat → Prop} {H0 : Heap} (hC : CallFix p m c cc nL s args lw_all RX0) (hK : kK D z s) (hP : va_P D vwCl (xW z a lv lk pu fa he n nv du ta w mp mi k nt fu re) H) (hD : va_D A (xW z a lv lk pu fa he n nv du ta w mp mi k nt fu re)) (hS : va_S A H0 H locs) {x v : Int32} (j : Nat) (hx : x = nI j) (hj : j < 6) (hdg : decode cc pc = .ok (.iastore, 1)) (kk : ∀ (H1 : Heap) (locs1 : List Loc), va_P D vwCl (xW z a lv lk pu fa he n nv du (upd ta j v) w mp mi k nt fu re) H1 → va_D A (xW z a lv lk pu fa he n nv du (upd ta j v) w mp mi k nt fu re) → va_S A H0 H1 locs1 → W p l e R s m args below meth c H1 locs1 cells slots Q (F0 m (pc + 1) ls rest)) : W p l e R s m args below meth c H locs cells slots Q (F0 m pc ls (.int v :: .int x :: .ref (a 8) :: rest)) := by
  subst hx
  refine va_iast (D := D) hC.1 hC.2.1 hK hP hD hS 8 0 (n := 6) (f := ta) rfl rfl (vp_in_nI hj (by decide)) hdg ?_
  rw [nI_clamp (by omega)]
  exact kk
theorem xl_mp (hC : CallFix p m c cc nL s args lw_all RX0) (hK : kK D z s) (hP : va_P D vwCl (xW z a lv lk pu fa he n nv du ta w mp mi k nt fu re) H) {x : Int32} (j : Nat) (hx : x = nI j) (hj : j < 60) (hdg : decode cc pc = .ok (.iaload, 1)) (kk : W p l e R s m args below meth c H locs cells slots Q (F0 m (pc + 1) ls (.int (mp j) :: rest))) : W p l e R s m args below meth c H locs cells slots Q (F0 m pc ls (.int x :: .ref (a 9) :: rest)) := by
  subst hx
  refine va_iald (D := D) hC.1 hC.2.1 hK hP 9 0 (n := 60) (f := mp) rfl rfl (vp_in_nI hj (by decide)) hdg ?_
  rw [nI_clamp (by omega)]
  exact kk
theorem xs_mp {A : Nat → Prop} {H0 : Heap} (hC : CallFix p m c cc nL s args lw_all RX0) (hK : kK D z s) (hP : va_P D vwCl (xW z a lv lk pu fa he n nv du ta w mp mi k nt fu re) H) (hD : va_D A (xW z a lv lk pu fa he n nv du ta w mp mi k nt fu re)) (hS : va_S A H0 H locs) {x v : Int32} (j : Nat) (hx : x = nI j) (hj : j < 60) (hdg : decode cc pc = .ok (.iastore, 1)) (kk : ∀ (H1 : Heap) (locs1 : List Loc), va_P D vwCl (xW z a lv lk pu fa he n nv du ta w (upd mp j v) mi k nt fu re) H1 → va_D A (xW z a lv lk pu fa he n nv du ta w (upd mp j v) mi k nt fu re) → va_S A H0 H1 locs1 → W p l e R s m args below meth c H1 locs1 cells slots Q (F0 m (pc + 1) ls rest)) : W p l e R s m args below meth c H locs cells slots Q (F0 m pc ls (.int v :: .int x :: .ref (a 9) :: rest)) := by
  subst hx
  refine va_iast (D := D) hC.1 hC.2.1 hK hP hD hS 9 0 (n := 60) (f := mp) rfl rfl (vp_in_nI hj (by decide)) hdg ?_
  rw [nI_clamp (by omega)]
  exact kk
theorem xl_mi (hC : CallFix p m c cc nL s args lw_all RX0) (hK : kK D z s) (hP : va_P D vwCl (xW z a lv lk pu fa he n nv du ta w mp mi k nt fu re) H) {x : Int32} (j : Nat) (hx : x = nI j) (hj : j < 60) (hdg : decode cc pc = .ok (.iaload, 1)) (kk : W p l e R s m args below meth c H locs cells slots Q (F0 m (pc + 1) ls (.int (mi j) :: rest))) : W p l e R s m args below meth c H locs cells slots Q (F0 m pc ls (.int x :: .ref (a 10) :: rest)) := by
  subst hx
  refine va_iald (D := D) hC.1 hC.2.1 hK hP 10 0 (n := 60) (f := mi) rfl rfl (vp_in_nI hj (by decide)) hdg ?_
  rw [nI_clamp (by omega)]
  exact kk
theorem xs_mi {A : Nat → Prop} {H0 : Heap} (hC : CallFix p m c cc nL s args lw_all RX0) (hK : kK D z s) (hP : va_P D vwCl (xW z a lv lk pu fa he n nv du ta w mp mi k nt fu re) H) (hD : va_D A (xW z a lv lk pu fa he n nv du ta w mp mi k nt fu re)) (hS : va_S A H0 H locs) {x v : Int32} (j : Nat) (hx : x = nI j) (hj : j < 60) (hdg : decode cc pc = .ok (.iastore, 1)) (kk : ∀ (H1 : Heap) (locs1 : List Loc), va_P D vwCl (xW z a lv lk pu fa he n nv du ta w mp (upd mi j v) k nt fu re) H1 → va_D A (xW z a lv lk pu fa he n nv du ta w mp (upd mi j v) k nt fu re) → va_S A H0 H1 locs1 → W p l e R s m args below meth c H1 locs1 cells slots Q (F0 m (pc + 1) ls rest)) : W p l e R s m args below meth c H locs cells slots Q (F0 m pc ls (.int v :: .int x :: .ref (a 10) :: rest)) := by
  subst hx
  refine va_iast (D := D) hC.1 hC.2.1 hK hP hD hS 10 0 (n := 60) (f := mi) rfl rfl (vp_in_nI hj (by decide)) hdg ?_
  rw [nI_clamp (by omega)]
  exact kk
end ROWSX
end ROWS
end
section
/-! small facts of places and counts -/
abbrev imax (x y : Int32) : Int32 := if x < y then y else x
abbrev imin (x y : Int32) : Int32 := if y < x then y else x
theorem nn_le {a b : Nat} (h : a < 2 ^ 31 ∧ b < 2 ^ 31) (c : nI a ≤ nI b) : a ≤ b := (nI_leI h.1 h.2).mp c
theorem nn_nle {a b : Nat} (h : b < 2 ^ 31 ∧ a < 2 ^ 31) (c : ¬ nI b ≤ nI a) : a < b := Nat.lt_of_not_le (fun q => c ((nI_leI h.1 h.2).mpr q))
theorem nn_lt {a b : Nat} (h : a < 2 ^ 31 ∧ b < 2 ^ 31) (c : nI a < nI b) : a < b := (nI_ltI h.1 h.2).mp c
theorem nn_nlt {a b : Nat} (h : b < 2 ^ 31 ∧ a < 2 ^ 31) (c : ¬ nI b < nI a) : a ≤ b := Nat.le_of_not_lt (fun q => c ((nI_ltI h.1 h.2).mpr q))
theorem nn_eq {a b : Nat} (h : a < 2 ^ 31 ∧ b < 2 ^ 31) (c : nI a = nI b) : a = b := (nI_eq h.1 h.2).mp c
theorem nn_ne {a b : Nat} (h : a < 2 ^ 31 ∧ b < 2 ^ 31) (c : ¬ nI a = nI b) : ¬ a = b := fun q => c (by rw [q])
/-! what the class's methods answer, in numbers -/
def sp_isP (n : Nat) (x : Int32) : Int32 := if x < 0 then 0 else if nI n ≤ x then 0 else 1
def sp_sh (v : Int32) : Int32 := if 2 < v then 0 else 1
def sp_price (v : Int32) : Int32 := 5 + (99 - v) / 10
def sp_uses (al fv ce : Int32) : Int32 := if al = 0 then 0 else if fv ≤ 0 then 0 else if ce ≤ 0 then 0 else if 24 < ce then 0 else 1
def sp_coins (al fv lkv fu ce : Int32) : Int32 := if sp_uses al fv ce = 0 then 0 else imin fu (sp_price lkv + 24 - ce)
def sp_loss (b : Int32) : Int32 := if 5 < b then if 12 < b then 1 else 2 else 3
def sp_gain (d : Int32) : Int32 := if d = 0 then 2 else 1
def sp_calmN (v g : Int32) : Nat → Nat → Nat
  | 0, k => k
  | f + 1, k => if 9 ≤ k then k else if 2 < v + nI k * g then k else sp_calmN v g f (k + 1)
def sp_calm (v d : Int32) : Int32 := nI (sp_calmN v (sp_gain d) 10 0)
def sp_cnt (lv : Nat → Int32) : Nat → Int32
  | 0 => 0
  | j + 1 => if lv j = 0 then sp_cnt lv j else sp_cnt lv j + 1
def sp_shk (nv : Nat → Int32) : Nat → Int32
  | 0 => 0
  | j + 1 => if sp_sh (nv j) = 0 then sp_shk nv j else sp_shk nv j + 1
def sp_cert (mi : Nat → Int32) : Nat → Int32
  | 0 => 0
  | j + 1 => if mi j ≤ 0 then sp_cert mi j else sp_cert mi j + 1
def sp_best (al v : Nat → Int32) : Nat → Int32 × Int32
  | 0 => (-1, -1)
  | j + 1 => if al j = 0 then sp_best al v j else if v j ≤ (sp_best al v j).2 then sp_best al v j else (nI j, v j)
def sp_nuc (nv du : Nat → Int32) : Nat → Int32
  | 0 => 0
  | j + 1 => imax (sp_nuc nv du j) (sp_calm (nv j) (du j))
def sp_dig (s v : Int32) : Int32 := s * 31 + 48 + v
def sp_num (s x : Int32) : Int32 := if x < 10 then s * 31 + 48 + (x - x / 10 * 10) else (s * 31 + 48 + x / 10) * 31 + 48 + (x - x / 10 * 10)
def sp_mix (d x : Int64) : Int64 := d * 31 + x
def sp_bit (b : Int32) : Int32 := if b = 0 then 0 else 1
def sp_heir (he lv : Nat → Int32) (n p : Nat) : Nat → Int32 → Int32
  | 0, _ => -1
  | f + 1, h => if sp_isP n h = 0 then -1 else if h = nI p then -1 else if lv h.toNatClampNeg = 0 then sp_heir he lv n p f (he h.toNatClampNeg) else h
def sp_tale (v b : Int32) : Int32 := if sp_sh v = 0 then imax 1 (b - (9 - v) / 2) else 0
def sp_many (mp : Nat → Int32) (p : Int32) : Nat → Int32
  | 0 => 0
  | j + 1 => if mp j = p then sp_many mp p j + 1 else sp_many mp p j
def sp_close (mp mi : Nat → Int32) (p : Int32) : Nat → Int32
  | 0 => 0
  | j + 1 => if mp j = p then if mi j ≤ 0 then sp_close mp mi p j else if sp_close mp mi p j = 0 then mi j else if sp_close mp mi p j ≤ mi j then sp_close mp mi p j else mi j else sp_close mp mi p j
theorem isP_ex {n : Nat} {x : Int32} (hn : n < 2 ^ 31) (h : ¬ sp_isP n x = 0) : ∃ i : Nat, i < n ∧ x = nI i := by
  unfold sp_isP at h
  by_cases h1 : x < 0
  · simp [h1] at h
  · obtain ⟨i, hi, rfl⟩ := nI_of h1
    by_cases h2 : nI n ≤ nI i
    · simp [h2] at h
    · exact ⟨i, nn_nle ⟨hn, hi⟩ h2, rfl⟩
theorem isP_in {n i : Nat} (hn : n < 2 ^ 31) (hi : i < n) : sp_isP n (nI i) = 1 := by
  unfold sp_isP
  rw [if_neg (nI_pos (by omega)), if_neg (nI_ge hi hn)]
end
section
set_option maxHeartbeats 4000000 in
set_option maxRecDepth 100000 in
theorem c_X0_isPerson (l : Launch) {D : va_G} {z : ClassId × ClassId} {a : Nat → Nat} {lv lk pu fa he : Nat → Int32} {n : Nat} {nv du ta : Nat → Int32} {w : Nat} {mp mi : Nat → Int32} {k : Nat} {nt fu re : Int32} (x : Int32) : Met l yX0_isPerson (ws_ yX0_isPerson cX0_isPerson 2 (some .boolean)) ({ frames := 0, cells := 0, slots := 0, locals := 0 } : Room) (va_Pc [.ref (a 0), .int x] (xI D z a lv lk pu fa he n nv du ta w mp mi k nt fu re)) (vp_Si (fun r : Int32 => r = sp_isP n x)) 0 0 (fun _ => False) := by
  refine Met.ofW (cc := cX0_isPerson) (maxL := 2) (ret := (some .boolean)) (by decide) rfl ?_
  intro p e s m args below meth c s₁ B hml hv
  obtain ⟨rfl, hP, hK⟩ := hv
  have hx := B.exec
  have hb := B.bytes
  have hr := B.returns
  have hts := atoms_spec (ws := ws_ yX0_isPerson cX0_isPerson 2 (some .boolean)) B.pre
  have hts : ∀ w ∈ lw_all, w.before _ s = true := fun w h => hts w (List.mem_cons_of_mem _ h)
  have hown : s.vm.findClass RX0 = some m.cls := findClass_of_methodNamed B.named
  have hlocks := B.notSynchronized
  have hC : CallFix p m c cX0_isPerson 2 s _ lw_all RX0 := ⟨hx, hb, hml, hown, hts⟩
  have hl := lv_entry ([.ref (a 0), .int x]) (n := 2) (Nat.le_of_ble_eq_true rfl)
  rw [lg_entry_eq]
  generalize (lg_sl ([.ref (a 0), .int x]) ++ List.replicate (2 - (lg_sl ([.ref (a 0), .int x])).length) Slot.unset).toArray = ls at hl ⊢
  have hl : lv_has ls 2 [(0, .ref (a 0)), (1, .int x)] := hl
  refine lv_iload_n hx hb dX0_isPerson_0 rfl (lv_at hl 1 rfl) ?_
  refine lv_if_lt (tgt := 16) hx hb dX0_isPerson_1 (by decide) (fun c_1 => ?_) (fun c_1 => ?_)
  · refine lv_iconst (v := 0) hx hb dX0_isPerson_16 (by decide) ?_
    exact W.zret (v := 0) hx hb hr (by decide) (fun t ht hW => ⟨0, rfl, (by simp [sp_isP, c_1]), ht⟩) (fun q hq => absurd hq List.not_mem_nil) dX0_isPerson_17
  · refine lv_iload_n hx hb dX0_isPerson_4 rfl (lv_at hl 1 rfl) ?_
    refine lv_aload_n hx hb dX0_isPerson_5 rfl (lv_at hl 0 rfl) ?_
    refine xg_n hC hK hP dX0_isPerson_6 ?_
    refine lv_icmp_ge (tgt := 16) hx hb dX0_isPerson_9 (by decide) (fun c_9 => ?_) (fun c_9 => ?_)
    · refine lv_iconst (v := 0) hx hb dX0_isPerson_16 (by decide) ?_
      exact W.zret (v := 0) hx hb hr (by decide) (fun t ht hW => ⟨0, rfl, (by simp [sp_isP, c_1, c_9]), ht⟩) (fun q hq => absurd hq List.not_mem_nil) dX0_isPerson_17
    · refine lv_iconst (v := 1) hx hb dX0_isPerson_12 (by decide) ?_
      refine lv_goto (tgt := 17) hx hb dX0_isPerson_13 (by decide) ?_
      exact W.zret (v := 1) hx hb hr (by decide) (fun t ht hW => ⟨1, rfl, (by simp [sp_isP, c_1, c_9]), ht⟩) (fun q hq => absurd hq List.not_mem_nil) dX0_isPerson_17
set_option maxRecDepth 100000 in
theorem k_X0_isPerson {p : Program} {l : Launch} {e : Env} {R : Room} {s : State} {m : MethodId} {args : Array Value} {below : List Frame} {meth : Method} {c : Code} {H : Heap} {locs : List Loc} {cells slots : Nat} {Q : State → Prop} {D : va_G} {z : ClassId × ClassId} {a : Nat → Nat} {lv lk pu fa he : Nat → Int32} {n : Nat} {nv du ta : Nat → Int32} {w : Nat} {mp mi : Nat → Int32} {k : Nat} {nt fu re : Int32} {cc : ByteArray} {nL pc : Nat} {ls : Array Slot} {rest : List Value} (hC : CallFix p m c cc nL s args lw_all RX0) (hK : kK D z s) (hP : va_P D vwCl (xW z a lv lk pu fa he n nv du ta w mp mi k nt fu re) H) (hl : ls.size = nL) (hR : 1 ≤ R.frames ∧ 21 ≤ R.locals) (hz : cells ≤ R.cells ∧ slots ≤ R.slots) (hr : (rest.map fun v => v.category).sum ≤ 8) {x : Int32}   (hdg : decode cc pc = .ok (.invokevirtual 117, 3)) (kk : W p l e R s m args below meth c H locs cells slots Q (F0 m (pc + 3) ls (.int (sp_isP n x) :: rest))) : W p l e R s m args below meth c H locs cells slots Q (F0 m pc ls (.int x :: .ref (a 0) :: rest)) := by
  exact vp_callSi (W.runV (As := [.int x]) (rest := rest) hC (c_X0_isPerson l x) (cwV 1 hC.2.2.2.2 (gi_V mM_X0_117 mV_X0_isPerson mS_X0_isPerson mI_MissRegistry mC_X0_isPerson) rfl rfl rfl (by decide +kernel) hR) (xpre hK hP) rfl rfl hl rfl (lv_room hr) hdg hz) (fun r hr => by rw [hr]; exact kk)
set_option maxHeartbeats 4000000 in
set_option maxRecDepth 100000 in
theorem c_X0_isWitness (l : Launch) {D : va_G} {z : ClassId × ClassId} {a : Nat → Nat} {lv lk pu fa he : Nat → Int32} {n : Nat} {nv du ta : Nat → Int32} {w : Nat} {mp mi : Nat → Int32} {k : Nat} {nt fu re : Int32} (x : Int32) : Met l yX0_isWitness (ws_ yX0_isWitness cX0_isWitness 2 (some .boolean)) ({ frames := 0, cells := 0, slots := 0, locals := 0 } : Room) (va_Pc [.ref (a 0), .int x] (xI D z a lv lk pu fa he n nv du ta w mp mi k nt fu re)) (vp_Si (fun r : Int32 => r = sp_isP w x)) 0 0 (fun _ => False) := by
  refine Met.ofW (cc := cX0_isWitness) (maxL := 2) (ret := (some .boolean)) (by decide) rfl ?_
  intro p e s m args below meth c s₁ B hml hv
  obtain ⟨rfl, hP, hK⟩ := hv
  have hx := B.exec
  have hb := B.bytes
  have hr := B.returns
  have hts := atoms_spec (ws := ws_ yX0_isWitness cX0_isWitness 2 (some .boolean)) B.pre
  have hts : ∀ w ∈ lw_all, w.before _ s = true := fun w h => hts w (List.mem_cons_of_mem _ h)
  have hown : s.vm.findClass RX0 = some m.cls := findClass_of_methodNamed B.named
  have hlocks := B.notSynchronized
  have hC : CallFix p m c cX0_isWitness 2 s _ lw_all RX0 := ⟨hx, hb, hml, hown, hts⟩
  have hl := lv_entry ([.ref (a 0), .int x]) (n := 2) (Nat.le_of_ble_eq_true rfl)
  rw [lg_entry_eq]
  generalize (lg_sl ([.ref (a 0), .int x]) ++ List.replicate (2 - (lg_sl ([.ref (a 0), .int x])).length) Slot.unset).toArray = ls at hl ⊢
  have hl : lv_has ls 2 [(0, .ref (a 0)), (1, .int x)] := hl
  refine lv_iload_n hx hb dX0_isWitness_0 rfl (lv_at hl 1 rfl) ?_
  refine lv_if_lt (tgt := 16) hx hb dX0_isWitness_1 (by decide) (fun c_1 => ?_) (fun c_1 => ?_)
  · refine lv_iconst (v := 0) hx hb dX0_isWitness_16 (by decide) ?_
    exact W.zret (v := 0) hx hb hr (by decide) (fun t ht hW => ⟨0, rfl, (by simp [sp_isP, c_1]), ht⟩) (fun q hq => absurd hq List.not_mem_nil) dX0_isWitness_17
  · refine lv_iload_n hx hb dX0_isWitness_4 rfl (lv_at hl 1 rfl) ?_
    refine lv_aload_n hx hb dX0_isWitness_5 rfl (lv_at hl 0 rfl) ?_
    refine xg_w hC hK hP dX0_isWitness_6 ?_
    refine lv_icmp_ge (tgt := 16) hx hb dX0_isWitness_9 (by decide) (fun c_9 => ?_) (fun c_9 => ?_)
    · refine lv_iconst (v := 0) hx hb dX0_isWitness_16 (by decide) ?_
      exact W.zret (v := 0) hx hb hr (by decide) (fun t ht hW => ⟨0, rfl, (by simp [sp_isP, c_1, c_9]), ht⟩) (fun q hq => absurd hq List.not_mem_nil) dX0_isWitness_17
    · refine lv_iconst (v := 1) hx hb dX0_isWitness_12 (by decide) ?_
      refine lv_goto (tgt := 17) hx hb dX0_isWitness_13 (by decide) ?_
      exact W.zret (v := 1) hx hb hr (by decide) (fun t ht hW => ⟨1, rfl, (by simp [sp_isP, c_1, c_9]), ht⟩) (fun q hq => absurd hq List.not_mem_nil) dX0_isWitness_17
set_option maxRecDepth 100000 in
theorem k_X0_isWitness {p : Program} {l : Launch} {e : Env} {R : Room} {s : State} {m : MethodId} {args : Array Value} {below : List Frame} {meth : Method} {c : Code} {H : Heap} {locs : List Loc} {cells slots : Nat} {Q : State → Prop} {D : va_G} {z : ClassId × ClassId} {a : Nat → Nat} {lv lk pu fa he : Nat → Int32} {n : Nat} {nv du ta : Nat → Int32} {w : Nat} {mp mi : Nat → Int32} {k : Nat} {nt fu re : Int32} {cc : ByteArray} {nL pc : Nat} {ls : Array Slot} {rest : List Value} (hC : CallFix p m c cc nL s args lw_all RX0) (hK : kK D z s) (hP : va_P D vwCl (xW z a lv lk pu fa he n nv du ta w mp mi k nt fu re) H) (hl : ls.size = nL) (hR : 1 ≤ R.frames ∧ 21 ≤ R.locals) (hz : cells ≤ R.cells ∧ slots ≤ R.slots) (hr : (rest.map fun v => v.category).sum ≤ 8) {x : Int32}   (hdg : decode cc pc = .ok (.invokevirtual 157, 3)) (kk : W p l e R s m args below meth c H locs cells slots Q (F0 m (pc + 3) ls (.int (sp_isP w x) :: rest))) : W p l e R s m args below meth c H locs cells slots Q (F0 m pc ls (.int x :: .ref (a 0) :: rest)) := by
  exact vp_callSi (W.runV (As := [.int x]) (rest := rest) hC (c_X0_isWitness l x) (cwV 1 hC.2.2.2.2 (gi_V mM_X0_157 mV_X0_isWitness mS_X0_isWitness mI_MissRegistry mC_X0_isWitness) rfl rfl rfl (by decide +kernel) hR) (xpre hK hP) rfl rfl hl rfl (lv_room hr) hdg hz) (fun r hr => by rw [hr]; exact kk)
set_option maxHeartbeats 4000000 in
set_option maxRecDepth 100000 in
theorem c_X0_isShaken (l : Launch) {D : va_G} {z : ClassId × ClassId} {a : Nat → Nat} {lv lk pu fa he : Nat → Int32} {n : Nat} {nv du ta : Nat → Int32} {w : Nat} {mp mi : Nat → Int32} {k : Nat} {nt fu re : Int32} (i : Nat) (hi : i < 6) : Met l yX0_isShaken (ws_ yX0_isShaken cX0_isShaken 2 (some .boolean)) ({ frames := 0, cells := 0, slots := 0, locals := 0 } : Room) (va_Pc [.ref (a 0), .int (nI i)] (xI D z a lv lk pu fa he n nv du ta w mp mi k nt fu re)) (vp_Si (fun r : Int32 => r = sp_sh (nv i))) 0 0 (fun _ => False) := by
  refine Met.ofW (cc := cX0_isShaken) (maxL := 2) (ret := (some .boolean)) (by decide) rfl ?_
  intro p e s m args below meth c s₁ B hml hv
  obtain ⟨rfl, hP, hK⟩ := hv
  have hx := B.exec
  have hb := B.bytes
  have hr := B.returns
  have hts := atoms_spec (ws := ws_ yX0_isShaken cX0_isShaken 2 (some .boolean)) B.pre
  have hts : ∀ w ∈ lw_all, w.before _ s = true := fun w h => hts w (List.mem_cons_of_mem _ h)
  have hown : s.vm.findClass RX0 = some m.cls := findClass_of_methodNamed B.named
  have hlocks := B.notSynchronized
  have hC : CallFix p m c cX0_isShaken 2 s _ lw_all RX0 := ⟨hx, hb, hml, hown, hts⟩
  have hl := lv_entry ([.ref (a 0), .int (nI i)]) (n := 2) (Nat.le_of_ble_eq_true rfl)
  rw [lg_entry_eq]
  generalize (lg_sl ([.ref (a 0), .int (nI i)]) ++ List.replicate (2 - (lg_sl ([.ref (a 0), .int (nI i)])).length) Slot.unset).toArray = ls at hl ⊢
  have hl : lv_has ls 2 [(0, .ref (a 0)), (1, .int (nI i))] := hl
  refine lv_aload_n hx hb dX0_isShaken_0 rfl (lv_at hl 0 rfl) ?_
  refine xg_nv hC hK hP dX0_isShaken_1 ?_
  refine lv_iload_n hx hb dX0_isShaken_4 rfl (lv_at hl 1 rfl) ?_
  refine xl_nv hC hK hP i rfl (by omega) dX0_isShaken_5 ?_
  refine lv_iconst (v := 2) hx hb dX0_isShaken_6 (by decide) ?_
  refine lv_icmp_gt (tgt := 14) hx hb dX0_isShaken_7 (by decide) (fun c_7 => ?_) (fun c_7 => ?_)
  · refine lv_iconst (v := 0) hx hb dX0_isShaken_14 (by decide) ?_
    exact W.zret (v := 0) hx hb hr (by decide) (fun t ht hW => ⟨0, rfl, (by simp [sp_sh, c_7]), ht⟩) (fun q hq => absurd hq List.not_mem_nil) dX0_isShaken_15
  · refine lv_iconst (v := 1) hx hb dX0_isShaken_10 (by decide) ?_
    refine lv_goto (tgt := 15) hx hb dX0_isShaken_11 (by decide) ?_
    exact W.zret (v := 1) hx hb hr (by decide) (fun t ht hW => ⟨1, rfl, (by simp [sp_sh, c_7]), ht⟩) (fun q hq => absurd hq List.not_mem_nil) dX0_isShaken_15
set_option maxRecDepth 100000 in
theorem k_X0_isShaken {p : Program} {l : Launch} {e : Env} {R : Room} {s : State} {m : MethodId} {args : Array Value} {below : List Frame} {meth : Method} {c : Code} {H : Heap} {locs : List Loc} {cells slots : Nat} {Q : State → Prop} {D : va_G} {z : ClassId × ClassId} {a : Nat → Nat} {lv lk pu fa he : Nat → Int32} {n : Nat} {nv du ta : Nat → Int32} {w : Nat} {mp mi : Nat → Int32} {k : Nat} {nt fu re : Int32} {cc : ByteArray} {nL pc : Nat} {ls : Array Slot} {rest : List Value} (hC : CallFix p m c cc nL s args lw_all RX0) (hK : kK D z s) (hP : va_P D vwCl (xW z a lv lk pu fa he n nv du ta w mp mi k nt fu re) H) (hl : ls.size = nL) (hR : 1 ≤ R.frames ∧ 21 ≤ R.locals) (hz : cells ≤ R.cells ∧ slots ≤ R.slots) (hr : (rest.map fun v => v.category).sum ≤ 8) {i : Nat} {x0 : Int32} (hx0 : x0 = nI i) (hi : i < 6) (hdg : decode cc pc = .ok (.invokevirtual 136, 3)) (kk : W p l e R s m args below meth c H locs cells slots Q (F0 m (pc + 3) ls (.int (sp_sh (nv i)) :: rest))) : W p l e R s m args below meth c H locs cells slots Q (F0 m pc ls (.int x0 :: .ref (a 0) :: rest)) := by
  subst hx0
  exact vp_callSi (W.runV (As := [.int (nI i)]) (rest := rest) hC (c_X0_isShaken l i hi) (cwV 1 hC.2.2.2.2 (gi_V mM_X0_136 mV_X0_isShaken mS_X0_isShaken mI_MissRegistry mC_X0_isShaken) rfl rfl rfl (by decide +kernel) hR) (xpre hK hP) rfl rfl hl rfl (lv_room hr) hdg hz) (fun r hr => by rw [hr]; exact kk)
set_option maxHeartbeats 4000000 in
set_option maxRecDepth 100000 in
theorem c_X0_fatePrice (l : Launch) {D : va_G} {z : ClassId × ClassId} {a : Nat → Nat} {lv lk pu fa he : Nat → Int32} {n : Nat} {nv du ta : Nat → Int32} {w : Nat} {mp mi : Nat → Int32} {k : Nat} {nt fu re : Int32} (i : Nat) (hi : i < 10) : Met l yX0_fatePrice (ws_ yX0_fatePrice cX0_fatePrice 2 (some .int)) ({ frames := 0, cells := 0, slots := 0, locals := 0 } : Room) (va_Pc [.ref (a 0), .int (nI i)] (xI D z a lv lk pu fa he n nv du ta w mp mi k nt fu re)) (vp_Si (fun r : Int32 => r = sp_price (lk i))) 0 0 (fun _ => False) := by
  refine Met.ofW (cc := cX0_fatePrice) (maxL := 2) (ret := (some .int)) (by decide) rfl ?_
  intro p e s m args below meth c s₁ B hml hv
  obtain ⟨rfl, hP, hK⟩ := hv
  have hx := B.exec
  have hb := B.bytes
  have hr := B.returns
  have hts := atoms_spec (ws := ws_ yX0_fatePrice cX0_fatePrice 2 (some .int)) B.pre
  have hts : ∀ w ∈ lw_all, w.before _ s = true := fun w h => hts w (List.mem_cons_of_mem _ h)
  have hown : s.vm.findClass RX0 = some m.cls := findClass_of_methodNamed B.named
  have hlocks := B.notSynchronized
  have hC : CallFix p m c cX0_fatePrice 2 s _ lw_all RX0 := ⟨hx, hb, hml, hown, hts⟩
  have hl := lv_entry ([.ref (a 0), .int (nI i)]) (n := 2) (Nat.le_of_ble_eq_true rfl)
  rw [lg_entry_eq]
  generalize (lg_sl ([.ref (a 0), .int (nI i)]) ++ List.replicate (2 - (lg_sl ([.ref (a 0), .int (nI i)])).length) Slot.unset).toArray = ls at hl ⊢
  have hl : lv_has ls 2 [(0, .ref (a 0)), (1, .int (nI i))] := hl
  refine lv_iconst (v := 5) hx hb dX0_fatePrice_0 (by decide) ?_
  refine lv_bipush (v := 99) hx hb dX0_fatePrice_1 (by decide) ?_
  refine lv_aload_n hx hb dX0_fatePrice_3 rfl (lv_at hl 0 rfl) ?_
  refine xg_lk hC hK hP dX0_fatePrice_4 ?_
  refine lv_iload_n hx hb dX0_fatePrice_7 rfl (lv_at hl 1 rfl) ?_
  refine xl_lk hC hK hP i rfl (by omega) dX0_fatePrice_8 ?_
  refine lv_isub hx hb dX0_fatePrice_9 ?_
  refine lv_bipush (v := 10) hx hb dX0_fatePrice_10 (by decide) ?_
  refine lv_idiv hx hb dX0_fatePrice_12 (by decide) ?_
  refine lv_iadd hx hb dX0_fatePrice_13 ?_
  exact W.iret (v := 5 + ((99 - (lk i)) / 10)) hx hb hr (fun t ht hW => ⟨5 + ((99 - (lk i)) / 10), rfl, (by unfold sp_price; rfl), ht⟩) (fun q hq => absurd hq List.not_mem_nil) dX0_fatePrice_14
set_option maxRecDepth 100000 in
theorem k_X0_fatePrice {p : Program} {l : Launch} {e : Env} {R : Room} {s : State} {m : MethodId} {args : Array Value} {below : List Frame} {meth : Method} {c : Code} {H : Heap} {locs : List Loc} {cells slots : Nat} {Q : State → Prop} {D : va_G} {z : ClassId × ClassId} {a : Nat → Nat} {lv lk pu fa he : Nat → Int32} {n : Nat} {nv du ta : Nat → Int32} {w : Nat} {mp mi : Nat → Int32} {k : Nat} {nt fu re : Int32} {cc : ByteArray} {nL pc : Nat} {ls : Array Slot} {rest : List Value} (hC : CallFix p m c cc nL s args lw_all RX0) (hK : kK D z s) (hP : va_P D vwCl (xW z a lv lk pu fa he n nv du ta w mp mi k nt fu re) H) (hl : ls.size = nL) (hR : 1 ≤ R.frames ∧ 21 ≤ R.locals) (hz : cells ≤ R.cells ∧ slots ≤ R.slots) (hr : (rest.map fun v => v.category).sum ≤ 8) {i : Nat} {x0 : Int32} (hx0 : x0 = nI i) (hi : i < 10) (hdg : decode cc pc = .ok (.invokevirtual 75, 3)) (kk : W p l e R s m args below meth c H locs cells slots Q (F0 m (pc + 3) ls (.int (sp_price (lk i)) :: rest))) : W p l e R s m args below meth c H locs cells slots Q (F0 m pc ls (.int x0 :: .ref (a 0) :: rest)) := by
  subst hx0
  exact vp_callSi (W.runV (As := [.int (nI i)]) (rest := rest) hC (c_X0_fatePrice l i hi) (cwV 1 hC.2.2.2.2 (gi_V mM_X0_75 mV_X0_fatePrice mS_X0_fatePrice mI_MissRegistry mC_X0_fatePrice) rfl rfl rfl (by decide +kernel) hR) (xpre hK hP) rfl rfl hl rfl (lv_room hr) hdg hz) (fun r hr => by rw [hr]; exact kk)
set_option maxHeartbeats 4000000 in
set_option maxRecDepth 100000 in
theorem c_X0_usesFate (l : Launch) {D : va_G} {z : ClassId × ClassId} {a : Nat → Nat} {lv lk pu fa he : Nat → Int32} {n : Nat} {nv du ta : Nat → Int32} {w : Nat} {mp mi : Nat → Int32} {k : Nat} {nt fu re : Int32} (i : Nat) (hi : i < 10) (b : Int32) : Met l yX0_usesFate (ws_ yX0_usesFate cX0_usesFate 3 (some .boolean)) ({ frames := 0, cells := 0, slots := 0, locals := 0 } : Room) (va_Pc [.ref (a 0), .int (nI i), .int b] (xI D z a lv lk pu fa he n nv du ta w mp mi k nt fu re)) (vp_Si (fun r : Int32 => r = sp_uses (lv i) (fa i) b)) 0 0 (fun _ => False) := by
  refine Met.ofW (cc := cX0_usesFate) (maxL := 3) (ret := (some .boolean)) (by decide) rfl ?_
  intro p e s m args below meth c s₁ B hml hv
  obtain ⟨rfl, hP, hK⟩ := hv
  have hx := B.exec
  have hb := B.bytes
  have hr := B.returns
  have hts := atoms_spec (ws := ws_ yX0_usesFate cX0_usesFate 3 (some .boolean)) B.pre
  have hts : ∀ w ∈ lw_all, w.before _ s = true := fun w h => hts w (List.mem_cons_of_mem _ h)
  have hown : s.vm.findClass RX0 = some m.cls := findClass_of_methodNamed B.named
  have hlocks := B.notSynchronized
  have hC : CallFix p m c cX0_usesFate 3 s _ lw_all RX0 := ⟨hx, hb, hml, hown, hts⟩
  have hl := lv_entry ([.ref (a 0), .int (nI i), .int b]) (n := 3) (Nat.le_of_ble_eq_true rfl)
  rw [lg_entry_eq]
  generalize (lg_sl ([.ref (a 0), .int (nI i), .int b]) ++ List.replicate (3 - (lg_sl ([.ref (a 0), .int (nI i), .int b])).length) Slot.unset).toArray = ls at hl ⊢
  have hl : lv_has ls 3 [(0, .ref (a 0)), (1, .int (nI i)), (2, .int b)] := hl
  refine lv_aload_n hx hb dX0_usesFate_0 rfl (lv_at hl 0 rfl) ?_
  refine xg_lv hC hK hP dX0_usesFate_1 ?_
  refine lv_iload_n hx hb dX0_usesFate_4 rfl (lv_at hl 1 rfl) ?_
  refine xl_lv hC hK hP i rfl (by omega) dX0_usesFate_5 ?_
  refine lv_if_eq (tgt := 32) hx hb dX0_usesFate_6 (by decide) (fun c_6 => ?_) (fun c_6 => ?_)
  · refine lv_iconst (v := 0) hx hb dX0_usesFate_32 (by decide) ?_
    exact W.zret (v := 0) hx hb hr (by decide) (fun t ht hW => ⟨0, rfl, (by simp [sp_uses, c_6]), ht⟩) (fun q hq => absurd hq List.not_mem_nil) dX0_usesFate_33
  · refine lv_aload_n hx hb dX0_usesFate_9 rfl (lv_at hl 0 rfl) ?_
    refine xg_fa hC hK hP dX0_usesFate_10 ?_
    refine lv_iload_n hx hb dX0_usesFate_13 rfl (lv_at hl 1 rfl) ?_
    refine xl_fa hC hK hP i rfl (by omega) dX0_usesFate_14 ?_
    refine lv_if_le (tgt := 32) hx hb dX0_usesFate_15 (by decide) (fun c_15 => ?_) (fun c_15 => ?_)
    · refine lv_iconst (v := 0) hx hb dX0_usesFate_32 (by decide) ?_
      exact W.zret (v := 0) hx hb hr (by decide) (fun t ht hW => ⟨0, rfl, (by simp [sp_uses, c_6, c_15]), ht⟩) (fun q hq => absurd hq List.not_mem_nil) dX0_usesFate_33
    · refine lv_iload_n hx hb dX0_usesFate_18 rfl (lv_at hl 2 rfl) ?_
      refine lv_if_le (tgt := 32) hx hb dX0_usesFate_19 (by decide) (fun c_19 => ?_) (fun c_19 => ?_)
      · refine lv_iconst (v := 0) hx hb dX0_usesFate_32 (by decide) ?_
        exact W.zret (v := 0) hx hb hr (by decide) (fun t ht hW => ⟨0, rfl, (by simp [sp_uses, c_6, c_15, c_19]), ht⟩) (fun q hq => absurd hq List.not_mem_nil) dX0_usesFate_33
      · refine lv_iload_n hx hb dX0_usesFate_22 rfl (lv_at hl 2 rfl) ?_
        refine lv_bipush (v := 24) hx hb dX0_usesFate_23 (by decide) ?_
        refine lv_icmp_gt (tgt := 32) hx hb dX0_usesFate_25 (by decide) (fun c_25 => ?_) (fun c_25 => ?_)
        · refine lv_iconst (v := 0) hx hb dX0_usesFate_32 (by decide) ?_
          exact W.zret (v := 0) hx hb hr (by decide) (fun t ht hW => ⟨0, rfl, (by simp [sp_uses, c_6, c_15, c_19, c_25]), ht⟩) (fun q hq => absurd hq List.not_mem_nil) dX0_usesFate_33
        · refine lv_iconst (v := 1) hx hb dX0_usesFate_28 (by decide) ?_
          refine lv_goto (tgt := 33) hx hb dX0_usesFate_29 (by decide) ?_
          exact W.zret (v := 1) hx hb hr (by decide) (fun t ht hW => ⟨1, rfl, (by simp [sp_uses, c_6, c_15, c_19, c_25]), ht⟩) (fun q hq => absurd hq List.not_mem_nil) dX0_usesFate_33
set_option maxRecDepth 100000 in
theorem k_X0_usesFate {p : Program} {l : Launch} {e : Env} {R : Room} {s : State} {m : MethodId} {args : Array Value} {below : List Frame} {meth : Method} {c : Code} {H : Heap} {locs : List Loc} {cells slots : Nat} {Q : State → Prop} {D : va_G} {z : ClassId × ClassId} {a : Nat → Nat} {lv lk pu fa he : Nat → Int32} {n : Nat} {nv du ta : Nat → Int32} {w : Nat} {mp mi : Nat → Int32} {k : Nat} {nt fu re : Int32} {cc : ByteArray} {nL pc : Nat} {ls : Array Slot} {rest : List Value} (hC : CallFix p m c cc nL s args lw_all RX0) (hK : kK D z s) (hP : va_P D vwCl (xW z a lv lk pu fa he n nv du ta w mp mi k nt fu re) H) (hl : ls.size = nL) (hR : 1 ≤ R.frames ∧ 22 ≤ R.locals) (hz : cells ≤ R.cells ∧ slots ≤ R.slots) (hr : (rest.map fun v => v.category).sum ≤ 8) {i : Nat} {b : Int32} {x0 : Int32} (hx0 : x0 = nI i) (hi : i < 10) (hdg : decode cc pc = .ok (.invokevirtual 200, 3)) (kk : W p l e R s m args below meth c H locs cells slots Q (F0 m (pc + 3) ls (.int (sp_uses (lv i) (fa i) b) :: rest))) : W p l e R s m args below meth c H locs cells slots Q (F0 m pc ls (.int b :: .int x0 :: .ref (a 0) :: rest)) := by
  subst hx0
  exact vp_callSi (W.runV (As := [.int (nI i), .int b]) (rest := rest) hC (c_X0_usesFate l i hi b) (cwV 2 hC.2.2.2.2 (gi_V mM_X0_200 mV_X0_usesFate mS_X0_usesFate mI_MissRegistry mC_X0_usesFate) rfl rfl rfl (by decide +kernel) hR) (xpre hK hP) rfl rfl hl rfl (lv_room hr) hdg hz) (fun r hr => by rw [hr]; exact kk)
set_option maxHeartbeats 4000000 in
set_option maxRecDepth 100000 in
theorem c_X0_refundCoins (l : Launch) {D : va_G} {z : ClassId × ClassId} {a : Nat → Nat} {lv lk pu fa he : Nat → Int32} {n : Nat} {nv du ta : Nat → Int32} {w : Nat} {mp mi : Nat → Int32} {k : Nat} {nt fu re : Int32} (i : Nat) (hi : i < 10) (b : Int32) : Met l yX0_refundCoins (ws_ yX0_refundCoins cX0_refundCoins 3 (some .int)) ({ frames := 1, cells := 0, slots := 0, locals := 22 } : Room) (va_Pc [.ref (a 0), .int (nI i), .int b] (xI D z a lv lk pu fa he n nv du ta w mp mi k nt fu re)) (vp_Si (fun r : Int32 => r = sp_coins (lv i) (fa i) (lk i) fu b)) 0 0 (fun _ => False) := by
  refine Met.ofW (cc := cX0_refundCoins) (maxL := 3) (ret := (some .int)) (by decide) rfl ?_
  intro p e s m args below meth c s₁ B hml hv
  obtain ⟨rfl, hP, hK⟩ := hv
  have hx := B.exec
  have hb := B.bytes
  have hr := B.returns
  have hts := atoms_spec (ws := ws_ yX0_refundCoins cX0_refundCoins 3 (some .int)) B.pre
  have hts : ∀ w ∈ lw_all, w.before _ s = true := fun w h => hts w (List.mem_cons_of_mem _ h)
  have hown : s.vm.findClass RX0 = some m.cls := findClass_of_methodNamed B.named
  have hlocks := B.notSynchronized
  have hC : CallFix p m c cX0_refundCoins 3 s _ lw_all RX0 := ⟨hx, hb, hml, hown, hts⟩
  have hl := lv_entry ([.ref (a 0), .int (nI i), .int b]) (n := 3) (Nat.le_of_ble_eq_true rfl)
  rw [lg_entry_eq]
  generalize (lg_sl ([.ref (a 0), .int (nI i), .int b]) ++ List.replicate (3 - (lg_sl ([.ref (a 0), .int (nI i), .int b])).length) Slot.unset).toArray = ls at hl ⊢
  have hl : lv_has ls 3 [(0, .ref (a 0)), (1, .int (nI i)), (2, .int b)] := hl
  refine lv_aload_n hx hb dX0_refundCoins_0 rfl (lv_at hl 0 rfl) ?_
  refine lv_iload_n hx hb dX0_refundCoins_1 rfl (lv_at hl 1 rfl) ?_
  refine lv_iload_n hx hb dX0_refundCoins_2 rfl (lv_at hl 2 rfl) ?_
  refine k_X0_usesFate hC hK hP hl.1 ⟨Nat.le_of_ble_eq_true rfl, Nat.le_of_ble_eq_true rfl⟩ ⟨Nat.zero_le _, Nat.zero_le _⟩ (Nat.le_of_ble_eq_true rfl) rfl (by first | assumption | omega) dX0_refundCoins_3 ?_
  refine lv_if_ne (tgt := 11) hx hb dX0_refundCoins_6 (by decide) (fun c_6 => ?_) (fun c_6 => ?_)
  · refine lv_aload_n hx hb dX0_refundCoins_11 rfl (lv_at hl 0 rfl) ?_
    refine xg_fu hC hK hP dX0_refundCoins_12 ?_
    refine lv_aload_n hx hb dX0_refundCoins_15 rfl (lv_at hl 0 rfl) ?_
    refine lv_iload_n hx hb dX0_refundCoins_16 rfl (lv_at hl 1 rfl) ?_
    refine k_X0_fatePrice hC hK hP hl.1 ⟨Nat.le_of_ble_eq_true rfl, Nat.le_of_ble_eq_true rfl⟩ ⟨Nat.zero_le _, Nat.zero_le _⟩ (Nat.le_of_ble_eq_true rfl) rfl (by first | assumption | omega) dX0_refundCoins_17 ?_
    refine lv_bipush (v := 24) hx hb dX0_refundCoins_20 (by decide) ?_
    refine lv_iadd hx hb dX0_refundCoins_22 ?_
    refine lv_iload_n hx hb dX0_refundCoins_23 rfl (lv_at hl 2 rfl) ?_
    refine lv_isub hx hb dX0_refundCoins_24 ?_
    refine va_mmin hx hb (hml.trans hl.1.symm) hown (hts _ mM_X0_121) (hts _ mT_min) (hts _ mI_Math) (hts _ mC_min) (Nat.le_of_ble_eq_true rfl) (Nat.le_of_ble_eq_true rfl) (Nat.zero_le _) (Nat.zero_le _) dX0_refundCoins_25 ?_
    exact W.iret (v := imin fu (((sp_price (lk i)) + 24) - b)) hx hb hr (fun t ht hW => ⟨imin fu (((sp_price (lk i)) + 24) - b), rfl, (by simp [sp_coins, c_6]), ht⟩) (fun q hq => absurd hq List.not_mem_nil) dX0_refundCoins_28
  · refine lv_iconst (v := 0) hx hb dX0_refundCoins_9 (by decide) ?_
    exact W.iret (v := 0) hx hb hr (fun t ht hW => ⟨0, rfl, (by simp [sp_coins, c_6]), ht⟩) (fun q hq => absurd hq List.not_mem_nil) dX0_refundCoins_10
set_option maxRecDepth 100000 in
theorem k_X0_refundCoins {p : Program} {l : Launch} {e : Env} {R : Room} {s : State} {m : MethodId} {args : Array Value} {below : List Frame} {meth : Method} {c : Code} {H : Heap} {locs : List Loc} {cells slots : Nat} {Q : State → Prop} {D : va_G} {z : ClassId × ClassId} {a : Nat → Nat} {lv lk pu fa he : Nat → Int32} {n : Nat} {nv du ta : Nat → Int32} {w : Nat} {mp mi : Nat → Int32} {k : Nat} {nt fu re : Int32} {cc : ByteArray} {nL pc : Nat} {ls : Array Slot} {rest : List Value} (hC : CallFix p m c cc nL s args lw_all RX0) (hK : kK D z s) (hP : va_P D vwCl (xW z a lv lk pu fa he n nv du ta w mp mi k nt fu re) H) (hl : ls.size = nL) (hR : 2 ≤ R.frames ∧ 44 ≤ R.locals) (hz : cells ≤ R.cells ∧ slots ≤ R.slots) (hr : (rest.map fun v => v.category).sum ≤ 8) {i : Nat} {b : Int32} {x0 : Int32} (hx0 : x0 = nI i) (hi : i < 10) (hdg : decode cc pc = .ok (.invokevirtual 151, 3)) (kk : W p l e R s m args below meth c H locs cells slots Q (F0 m (pc + 3) ls (.int (sp_coins (lv i) (fa i) (lk i) fu b) :: rest))) : W p l e R s m args below meth c H locs cells slots Q (F0 m pc ls (.int b :: .int x0 :: .ref (a 0) :: rest)) := by
  subst hx0
  exact vp_callSi (W.runV (As := [.int (nI i), .int b]) (rest := rest) hC (c_X0_refundCoins l i hi b) (cwV 2 hC.2.2.2.2 (gi_V mM_X0_151 mV_X0_refundCoins mS_X0_refundCoins mI_MissRegistry mC_X0_refundCoins) rfl rfl rfl (by decide +kernel) hR) (xpre hK hP) rfl rfl hl rfl (lv_room hr) hdg hz) (fun r hr => by rw [hr]; exact kk)
set_option maxHeartbeats 4000000 in
set_option maxRecDepth 100000 in
theorem c_X0_nerveLoss (l : Launch) (b : Int32) : Met l yX0_nerveLoss (ws_ yX0_nerveLoss cX0_nerveLoss 1 (some .int)) ({ frames := 0, cells := 0, slots := 0, locals := 0 } : Room) (va_Pc [.int b] (fun _ => True)) (vp_Si (fun r : Int32 => r = sp_loss b)) 0 0 (fun _ => False) := by
  refine Met.ofW (cc := cX0_nerveLoss) (maxL := 1) (ret := (some .int)) (by decide) rfl ?_
  intro p e s m args below meth c s₁ B hml hv
  obtain ⟨rfl, -⟩ := hv
  have hx := B.exec
  have hb := B.bytes
  have hr := B.returns
  have hts := atoms_spec (ws := ws_ yX0_nerveLoss cX0_nerveLoss 1 (some .int)) B.pre
  have hts : ∀ w ∈ lw_all, w.before _ s = true := fun w h => hts w (List.mem_cons_of_mem _ h)
  have hown : s.vm.findClass RX0 = some m.cls := findClass_of_methodNamed B.named
  have hlocks := B.notSynchronized
  have hC : CallFix p m c cX0_nerveLoss 1 s _ lw_all RX0 := ⟨hx, hb, hml, hown, hts⟩
  have hl := lv_entry ([.int b]) (n := 1) (Nat.le_of_ble_eq_true rfl)
  rw [lg_entry_eq]
  generalize (lg_sl ([.int b]) ++ List.replicate (1 - (lg_sl ([.int b])).length) Slot.unset).toArray = ls at hl ⊢
  have hl : lv_has ls 1 [(0, .int b)] := hl
  refine lv_iload_n hx hb dX0_nerveLoss_0 rfl (lv_at hl 0 rfl) ?_
  refine lv_iconst (v := 5) hx hb dX0_nerveLoss_1 (by decide) ?_
  refine lv_icmp_gt (tgt := 7) hx hb dX0_nerveLoss_2 (by decide) (fun c_2 => ?_) (fun c_2 => ?_)
  · refine lv_iload_n hx hb dX0_nerveLoss_7 rfl (lv_at hl 0 rfl) ?_
    refine lv_bipush (v := 12) hx hb dX0_nerveLoss_8 (by decide) ?_
    refine lv_icmp_gt (tgt := 17) hx hb dX0_nerveLoss_10 (by decide) (fun c_10 => ?_) (fun c_10 => ?_)
    · refine lv_iconst (v := 1) hx hb dX0_nerveLoss_17 (by decide) ?_
      exact W.iret (v := 1) hx hb hr (fun t ht hW => ⟨1, rfl, (by simp [sp_loss, c_2, c_10]), ht⟩) (fun q hq => absurd hq List.not_mem_nil) dX0_nerveLoss_18
    · refine lv_iconst (v := 2) hx hb dX0_nerveLoss_13 (by decide) ?_
      refine lv_goto (tgt := 18) hx hb dX0_nerveLoss_14 (by decide) ?_
      exact W.iret (v := 2) hx hb hr (fun t ht hW => ⟨2, rfl, (by simp [sp_loss, c_2, c_10]), ht⟩) (fun q hq => absurd hq List.not_mem_nil) dX0_nerveLoss_18
  · refine lv_iconst (v := 3) hx hb dX0_nerveLoss_5 (by decide) ?_
    exact W.iret (v := 3) hx hb hr (fun t ht hW => ⟨3, rfl, (by simp [sp_loss, c_2]), ht⟩) (fun q hq => absurd hq List.not_mem_nil) dX0_nerveLoss_6
set_option maxRecDepth 100000 in
theorem k_X0_nerveLoss {p : Program} {l : Launch} {e : Env} {R : Room} {s : State} {m : MethodId} {args : Array Value} {below : List Frame} {meth : Method} {c : Code} {H : Heap} {locs : List Loc} {cells slots : Nat} {Q : State → Prop} {cc : ByteArray} {nL pc : Nat} {ls : Array Slot} {rest : List Value} (hC : CallFix p m c cc nL s args lw_all RX0) (hl : ls.size = nL) (hR : 1 ≤ R.frames ∧ 20 ≤ R.locals) (hz : cells ≤ R.cells ∧ slots ≤ R.slots) (hr : (rest.map fun v => v.category).sum ≤ 8) {b : Int32}   (hdg : decode cc pc = .ok (.invokestatic 108, 3)) (kk : W p l e R s m args below meth c H locs cells slots Q (F0 m (pc + 3) ls (.int (sp_loss b) :: rest))) : W p l e R s m args below meth c H locs cells slots Q (F0 m pc ls (.int b :: rest)) := by
  exact vp_callSi (W.runS (As := [.int b]) (rest := rest) hC (c_X0_nerveLoss l b) (va_cwS 1 hC.2.2.2.2 (gi_S mM_X0_108 mT_X0_nerveLoss mI_MissRegistry mC_X0_nerveLoss) rfl rfl rfl (by decide +kernel) hR) ⟨fun _ _ _ _ q => q, fun U hU hW => ⟨rfl, trivial⟩⟩ rfl rfl hl rfl (lv_room hr) hdg hz) (fun r hr => by rw [hr]; exact kk)
set_option maxHeartbeats 4000000 in
set_option maxRecDepth 100000 in
theorem c_X0_nerveGain (l : Launch) (b : Int32) : Met l yX0_nerveGain (ws_ yX0_nerveGain cX0_nerveGain 1 (some .int)) ({ frames := 0, cells := 0, slots := 0, locals := 0 } : Room) (va_Pc [.int b] (fun _ => True)) (vp_Si (fun r : Int32 => r = sp_gain b)) 0 0 (fun _ => False) := by
  refine Met.ofW (cc := cX0_nerveGain) (maxL := 1) (ret := (some .int)) (by decide) rfl ?_
  intro p e s m args below meth c s₁ B hml hv
  obtain ⟨rfl, -⟩ := hv
  have hx := B.exec
  have hb := B.bytes
  have hr := B.returns
  have hts := atoms_spec (ws := ws_ yX0_nerveGain cX0_nerveGain 1 (some .int)) B.pre
  have hts : ∀ w ∈ lw_all, w.before _ s = true := fun w h => hts w (List.mem_cons_of_mem _ h)
  have hown : s.vm.findClass RX0 = some m.cls := findClass_of_methodNamed B.named
  have hlocks := B.notSynchronized
  have hC : CallFix p m c cX0_nerveGain 1 s _ lw_all RX0 := ⟨hx, hb, hml, hown, hts⟩
  have hl := lv_entry ([.int b]) (n := 1) (Nat.le_of_ble_eq_true rfl)
  rw [lg_entry_eq]
  generalize (lg_sl ([.int b]) ++ List.replicate (1 - (lg_sl ([.int b])).length) Slot.unset).toArray = ls at hl ⊢
  have hl : lv_has ls 1 [(0, .int b)] := hl
  refine lv_iload_n hx hb dX0_nerveGain_0 rfl (lv_at hl 0 rfl) ?_
  refine lv_if_eq (tgt := 8) hx hb dX0_nerveGain_1 (by decide) (fun c_1 => ?_) (fun c_1 => ?_)
  · refine lv_iconst (v := 2) hx hb dX0_nerveGain_8 (by decide) ?_
    exact W.iret (v := 2) hx hb hr (fun t ht hW => ⟨2, rfl, (by simp [sp_gain, c_1]), ht⟩) (fun q hq => absurd hq List.not_mem_nil) dX0_nerveGain_9
  · refine lv_iconst (v := 1) hx hb dX0_nerveGain_4 (by decide) ?_
    refine lv_goto (tgt := 9) hx hb dX0_nerveGain_5 (by decide) ?_
    exact W.iret (v := 1) hx hb hr (fun t ht hW => ⟨1, rfl, (by simp [sp_gain, c_1]), ht⟩) (fun q hq => absurd hq List.not_mem_nil) dX0_nerveGain_9
set_option maxRecDepth 100000 in
theorem k_X0_nerveGain {p : Program} {l : Launch} {e : Env} {R : Room} {s : State} {m : MethodId} {args : Array Value} {below : List Frame} {meth : Method} {c : Code} {H : Heap} {locs : List Loc} {cells slots : Nat} {Q : State → Prop} {cc : ByteArray} {nL pc : Nat} {ls : Array Slot} {rest : List Value} (hC : CallFix p m c cc nL s args lw_all RX0) (hl : ls.size = nL) (hR : 1 ≤ R.frames ∧ 20 ≤ R.locals) (hz : cells ≤ R.cells ∧ slots ≤ R.slots) (hr : (rest.map fun v => v.category).sum ≤ 8) {b : Int32}   (hdg : decode cc pc = .ok (.invokestatic 204, 3)) (kk : W p l e R s m args below meth c H locs cells slots Q (F0 m (pc + 3) ls (.int (sp_gain b) :: rest))) : W p l e R s m args below meth c H locs cells slots Q (F0 m pc ls (.int b :: rest)) := by
  exact vp_callSi (W.runS (As := [.int b]) (rest := rest) hC (c_X0_nerveGain l b) (va_cwS 1 hC.2.2.2.2 (gi_S mM_X0_204 mT_X0_nerveGain mI_MissRegistry mC_X0_nerveGain) rfl rfl rfl (by decide +kernel) hR) ⟨fun _ _ _ _ q => q, fun U hU hW => ⟨rfl, trivial⟩⟩ rfl rfl hl rfl (lv_room hr) hdg hz) (fun r hr => by rw [hr]; exact kk)
set_option maxHeartbeats 4000000 in
set_option maxRecDepth 100000 in
theorem c_X0_nightsToCalm (l : Launch) {D : va_G} {z : ClassId × ClassId} {a : Nat → Nat} {lv lk pu fa he : Nat → Int32} {n : Nat} {nv du ta : Nat → Int32} {w : Nat} {mp mi : Nat → Int32} {k : Nat} {nt fu re : Int32} (i : Nat) (hi : i < 6) : Met l yX0_nightsToCalm (ws_ yX0_nightsToCalm cX0_nightsToCalm 4 (some .int)) ({ frames := 1, cells := 0, slots := 0, locals := 20 } : Room) (va_Pc [.ref (a 0), .int (nI i)] (xI D z a lv lk pu fa he n nv du ta w mp mi k nt fu re)) (vp_Si (fun r : Int32 => r = sp_calm (nv i) (du i))) 0 0 (fun _ => False) := by
  refine Met.ofW (cc := cX0_nightsToCalm) (maxL := 4) (ret := (some .int)) (by decide) rfl ?_
  intro p e s m args below meth c s₁ B hml hv
  obtain ⟨rfl, hP, hK⟩ := hv
  have hx := B.exec
  have hb := B.bytes
  have hr := B.returns
  have hts := atoms_spec (ws := ws_ yX0_nightsToCalm cX0_nightsToCalm 4 (some .int)) B.pre
  have hts : ∀ w ∈ lw_all, w.before _ s = true := fun w h => hts w (List.mem_cons_of_mem _ h)
  have hown : s.vm.findClass RX0 = some m.cls := findClass_of_methodNamed B.named
  have hlocks := B.notSynchronized
  have hC : CallFix p m c cX0_nightsToCalm 4 s _ lw_all RX0 := ⟨hx, hb, hml, hown, hts⟩
  have hl := lv_entry ([.ref (a 0), .int (nI i)]) (n := 4) (Nat.le_of_ble_eq_true rfl)
  rw [lg_entry_eq]
  generalize (lg_sl ([.ref (a 0), .int (nI i)]) ++ List.replicate (4 - (lg_sl ([.ref (a 0), .int (nI i)])).length) Slot.unset).toArray = ls at hl ⊢
  have hl : lv_has ls 4 [(0, .ref (a 0)), (1, .int (nI i))] := hl
  refine lv_aload_n hx hb dX0_nightsToCalm_0 rfl (lv_at hl 0 rfl) ?_
  refine xg_du hC hK hP dX0_nightsToCalm_1 ?_
  refine lv_iload_n hx hb dX0_nightsToCalm_4 rfl (lv_at hl 1 rfl) ?_
  refine xl_du hC hK hP i rfl (by omega) dX0_nightsToCalm_5 ?_
  refine k_X0_nerveGain hC hl.1 ⟨Nat.le_of_ble_eq_true rfl, Nat.le_of_ble_eq_true rfl⟩ ⟨Nat.zero_le _, Nat.zero_le _⟩ (Nat.le_of_ble_eq_true rfl)   dX0_nightsToCalm_6 ?_
  refine lv_istore_n (lv' := [(2, .int (sp_gain (du i))), (0, .ref (a 0)), (1, .int (nI i))]) hx hb dX0_nightsToCalm_9 rfl hl (by decide) rfl (fun ls hl => ?_)
  refine lv_iconst (v := 0) hx hb dX0_nightsToCalm_10 (by decide) ?_
  refine lv_istore_n (lv' := [(3, .int 0), (2, .int (sp_gain (du i))), (0, .ref (a 0)), (1, .int (nI i))]) hx hb dX0_nightsToCalm_11 rfl hl (by decide) rfl (fun ls hl => ?_)
  have loop_12 : ∀ (f : Nat) (j : Nat), j ≤ 9 → j + f = 10 → sp_calmN (nv i) (sp_gain (du i)) f j = sp_calmN (nv i) (sp_gain (du i)) 10 0 → ∀ ls : Array Slot, lv_has ls 4 [(0, .ref (a 0)), (1, .int (nI i)), (2, .int (sp_gain (du i))), (3, .int (nI j))] → W p l e ({ frames := 1, cells := 0, slots := 0, locals := 20 } : Room) s m ([.ref (a 0), .int (nI i)] : List Value).toArray below meth c s.heap [] 0 0 (MQ below (vp_Si (fun r : Int32 => r = sp_calm (nv i) (du i))) ([.ref (a 0), .int (nI i)] : List Value).toArray s 0 0 (fun _ => False)) (F0 m 12 ls []) := by
    intro f
    induction f with
    | zero =>
      intro j hj hf er
      exact absurd hf (by omega)
    | succ f ih12 =>
      intro j hj hf er ls hl
      refine lv_iload_n hx hb dX0_nightsToCalm_12 rfl (lv_at hl 3 rfl) ?_
      refine lv_bipush (v := 9) hx hb dX0_nightsToCalm_13 (by decide) ?_
      refine lv_icmp_ge (tgt := 38) hx hb dX0_nightsToCalm_15 (by decide) (fun c_15 => ?_) (fun c_15 => ?_)
      · have nc_15 : 9 ≤ j := nn_le (by omega) c_15
        refine lv_iload_n hx hb dX0_nightsToCalm_38 rfl (lv_at hl 3 rfl) ?_
        exact W.iret (v := nI j) hx hb hr (fun t ht hW => ⟨nI j, rfl, (by unfold sp_calm; rw [← er]; simp [sp_calmN, nc_15]), ht⟩) (fun q hq => absurd hq List.not_mem_nil) dX0_nightsToCalm_39
      · have nc_15 : j < 9 := nn_nle (by omega) c_15
        refine lv_aload_n hx hb dX0_nightsToCalm_18 rfl (lv_at hl 0 rfl) ?_
        refine xg_nv hC hK hP dX0_nightsToCalm_19 ?_
        refine lv_iload_n hx hb dX0_nightsToCalm_22 rfl (lv_at hl 1 rfl) ?_
        refine xl_nv hC hK hP i rfl (by omega) dX0_nightsToCalm_23 ?_
        refine lv_iload_n hx hb dX0_nightsToCalm_24 rfl (lv_at hl 3 rfl) ?_
        refine lv_iload_n hx hb dX0_nightsToCalm_25 rfl (lv_at hl 2 rfl) ?_
        refine lv_imul hx hb dX0_nightsToCalm_26 ?_
        refine lv_iadd hx hb dX0_nightsToCalm_27 ?_
        refine lv_iconst (v := 2) hx hb dX0_nightsToCalm_28 (by decide) ?_
        refine lv_icmp_gt (tgt := 38) hx hb dX0_nightsToCalm_29 (by decide) (fun c_29 => ?_) (fun c_29 => ?_)
        · refine lv_iload_n hx hb dX0_nightsToCalm_38 rfl (lv_at hl 3 rfl) ?_
          exact W.iret (v := nI j) hx hb hr (fun t ht hW => ⟨nI j, rfl, (by unfold sp_calm; rw [← er]; simp [sp_calmN, c_29]), ht⟩) (fun q hq => absurd hq List.not_mem_nil) dX0_nightsToCalm_39
        · refine lv_iinc (v := nI (j + 1)) (lv' := [(3, .int (nI (j + 1))), (0, .ref (a 0)), (1, .int (nI i)), (2, .int (sp_gain (du i)))]) hx hb dX0_nightsToCalm_32 hl (k := 3) rfl (nI_1 _) (by decide) rfl (fun ls hl => ?_)
          refine lv_goto (tgt := 12) hx hb dX0_nightsToCalm_35 (by decide) ?_
          exact ih12 (j + 1) (by omega) (by omega) (by rw [← er]; simp [sp_calmN, c_29, Nat.not_le.mpr nc_15]) _ (lv_sub hl [1, 2, 3, 0] rfl)
  exact loop_12 10 0 (by omega) (by omega) rfl _ (lv_sub hl [2, 3, 1, 0] rfl)
set_option maxRecDepth 100000 in
theorem k_X0_nightsToCalm {p : Program} {l : Launch} {e : Env} {R : Room} {s : State} {m : MethodId} {args : Array Value} {below : List Frame} {meth : Method} {c : Code} {H : Heap} {locs : List Loc} {cells slots : Nat} {Q : State → Prop} {D : va_G} {z : ClassId × ClassId} {a : Nat → Nat} {lv lk pu fa he : Nat → Int32} {n : Nat} {nv du ta : Nat → Int32} {w : Nat} {mp mi : Nat → Int32} {k : Nat} {nt fu re : Int32} {cc : ByteArray} {nL pc : Nat} {ls : Array Slot} {rest : List Value} (hC : CallFix p m c cc nL s args lw_all RX0) (hK : kK D z s) (hP : va_P D vwCl (xW z a lv lk pu fa he n nv du ta w mp mi k nt fu re) H) (hl : ls.size = nL) (hR : 2 ≤ R.frames ∧ 43 ≤ R.locals) (hz : cells ≤ R.cells ∧ slots ≤ R.slots) (hr : (rest.map fun v => v.category).sum ≤ 8) {i : Nat} {x0 : Int32} (hx0 : x0 = nI i) (hi : i < 6) (hdg : decode cc pc = .ok (.invokevirtual 160, 3)) (kk : W p l e R s m args below meth c H locs cells slots Q (F0 m (pc + 3) ls (.int (sp_calm (nv i) (du i)) :: rest))) : W p l e R s m args below meth c H locs cells slots Q (F0 m pc ls (.int x0 :: .ref (a 0) :: rest)) := by
  subst hx0
  exact vp_callSi (W.runV (As := [.int (nI i)]) (rest := rest) hC (c_X0_nightsToCalm l i hi) (cwV 1 hC.2.2.2.2 (gi_V mM_X0_160 mV_X0_nightsToCalm mS_X0_nightsToCalm mI_MissRegistry mC_X0_nightsToCalm) rfl rfl rfl (by decide +kernel) hR) (xpre hK hP) rfl rfl hl rfl (lv_room hr) hdg hz) (fun r hr => by rw [hr]; exact kk)
set_option maxHeartbeats 4000000 in
set_option maxRecDepth 100000 in
theorem c_X0_alive (l : Launch) {D : va_G} {z : ClassId × ClassId} {a : Nat → Nat} {lv lk pu fa he : Nat → Int32} {n : Nat} {nv du ta : Nat → Int32} {w : Nat} {mp mi : Nat → Int32} {k : Nat} {nt fu re : Int32} (hn : n ≤ 10) : Met l yX0_alive (ws_ yX0_alive cX0_alive 3 (some .int)) ({ frames := 0, cells := 0, slots := 0, locals := 0 } : Room) (va_Pc [.ref (a 0)] (xI D z a lv lk pu fa he n nv du ta w mp mi k nt fu re)) (vp_Si (fun r : Int32 => r = sp_cnt lv n)) 0 0 (fun _ => False) := by
  refine Met.ofW (cc := cX0_alive) (maxL := 3) (ret := (some .int)) (by decide) rfl ?_
  intro p e s m args below meth c s₁ B hml hv
  obtain ⟨rfl, hP, hK⟩ := hv
  have hx := B.exec
  have hb := B.bytes
  have hr := B.returns
  have hts := atoms_spec (ws := ws_ yX0_alive cX0_alive 3 (some .int)) B.pre
  have hts : ∀ w ∈ lw_all, w.before _ s = true := fun w h => hts w (List.mem_cons_of_mem _ h)
  have hown : s.vm.findClass RX0 = some m.cls := findClass_of_methodNamed B.named
  have hlocks := B.notSynchronized
  have hC : CallFix p m c cX0_alive 3 s _ lw_all RX0 := ⟨hx, hb, hml, hown, hts⟩
  have hl := lv_entry ([.ref (a 0)]) (n := 3) (Nat.le_of_ble_eq_true rfl)
  rw [lg_entry_eq]
  generalize (lg_sl ([.ref (a 0)]) ++ List.replicate (3 - (lg_sl ([.ref (a 0)])).length) Slot.unset).toArray = ls at hl ⊢
  have hl : lv_has ls 3 [(0, .ref (a 0))] := hl
  refine lv_iconst (v := 0) hx hb dX0_alive_0 (by decide) ?_
  refine lv_istore_n (lv' := [(1, .int 0), (0, .ref (a 0))]) hx hb dX0_alive_1 rfl hl (by decide) rfl (fun ls hl => ?_)
  refine lv_iconst (v := 0) hx hb dX0_alive_2 (by decide) ?_
  refine lv_istore_n (lv' := [(2, .int 0), (1, .int 0), (0, .ref (a 0))]) hx hb dX0_alive_3 rfl hl (by decide) rfl (fun ls hl => ?_)
  have loop_4 : ∀ (f : Nat) (j : Nat) (x : Int32), j ≤ n → n + 1 ≤ j + f → x = sp_cnt lv j → ∀ ls : Array Slot, lv_has ls 3 [(0, .ref (a 0)), (1, .int x), (2, .int (nI j))] → W p l e ({ frames := 0, cells := 0, slots := 0, locals := 0 } : Room) s m ([.ref (a 0)] : List Value).toArray below meth c s.heap [] 0 0 (MQ below (vp_Si (fun r : Int32 => r = sp_cnt lv n)) ([.ref (a 0)] : List Value).toArray s 0 0 (fun _ => False)) (F0 m 4 ls []) := by
    intro f
    induction f with
    | zero =>
      intro j x hj hf ex
      exact absurd hf (by omega)
    | succ f ih4 =>
      intro j x hj hf ex ls hl
      refine lv_iload_n hx hb dX0_alive_4 rfl (lv_at hl 2 rfl) ?_
      refine lv_aload_n hx hb dX0_alive_5 rfl (lv_at hl 0 rfl) ?_
      refine xg_n hC hK hP dX0_alive_6 ?_
      refine lv_icmp_ge (tgt := 30) hx hb dX0_alive_9 (by decide) (fun c_9 => ?_) (fun c_9 => ?_)
      · have nc_9 : n ≤ j := nn_le (by omega) c_9
        refine lv_iload_n hx hb dX0_alive_30 rfl (lv_at hl 1 rfl) ?_
        exact W.iret (v := x) hx hb hr (fun t ht hW => ⟨x, rfl, (by rw [ex, show j = n by omega]), ht⟩) (fun q hq => absurd hq List.not_mem_nil) dX0_alive_31
      · have nc_9 : j < n := nn_nle (by omega) c_9
        refine lv_aload_n hx hb dX0_alive_12 rfl (lv_at hl 0 rfl) ?_
        refine xg_lv hC hK hP dX0_alive_13 ?_
        refine lv_iload_n hx hb dX0_alive_16 rfl (lv_at hl 2 rfl) ?_
        refine xl_lv hC hK hP j rfl (by omega) dX0_alive_17 ?_
        refine lv_if_eq (tgt := 24) hx hb dX0_alive_18 (by decide) (fun c_18 => ?_) (fun c_18 => ?_)
        · refine lv_iinc (v := nI (j + 1)) (lv' := [(2, .int (nI (j + 1))), (0, .ref (a 0)), (1, .int x)]) hx hb dX0_alive_24 hl (k := 2) rfl (nI_1 _) (by decide) rfl (fun ls hl => ?_)
          refine lv_goto (tgt := 4) hx hb dX0_alive_27 (by decide) ?_
          exact ih4 (j + 1) x (by omega) (by omega) (by simp [ex, sp_cnt, c_18]) _ (lv_sub hl [1, 2, 0] rfl)
        · refine lv_iinc (v := x + 1) (lv' := [(1, .int (x + 1)), (0, .ref (a 0)), (2, .int (nI j))]) hx hb dX0_alive_21 hl (k := 1) rfl rfl (by decide) rfl (fun ls hl => ?_)
          refine lv_iinc (v := nI (j + 1)) (lv' := [(2, .int (nI (j + 1))), (1, .int (x + 1)), (0, .ref (a 0))]) hx hb dX0_alive_24 hl (k := 2) rfl (nI_1 _) (by decide) rfl (fun ls hl => ?_)
          refine lv_goto (tgt := 4) hx hb dX0_alive_27 (by decide) ?_
          exact ih4 (j + 1) (x + 1) (by omega) (by omega) (by simp [ex, sp_cnt, c_18]) _ (lv_sub hl [2, 1, 0] rfl)
  exact loop_4 (n + 1) 0 0 (Nat.zero_le _) (by omega) rfl _ (lv_sub hl [2, 1, 0] rfl)
set_option maxHeartbeats 4000000 in
set_option maxRecDepth 100000 in
theorem c_X0_shaken (l : Launch) {D : va_G} {z : ClassId × ClassId} {a : Nat → Nat} {lv lk pu fa he : Nat → Int32} {n : Nat} {nv du ta : Nat → Int32} {w : Nat} {mp mi : Nat → Int32} {k : Nat} {nt fu re : Int32} (hw : w ≤ 6) : Met l yX0_shaken (ws_ yX0_shaken cX0_shaken 3 (some .int)) ({ frames := 1, cells := 0, slots := 0, locals := 21 } : Room) (va_Pc [.ref (a 0)] (xI D z a lv lk pu fa he n nv du ta w mp mi k nt fu re)) (vp_Si (fun r : Int32 => r = sp_shk nv w)) 0 0 (fun _ => False) := by
  refine Met.ofW (cc := cX0_shaken) (maxL := 3) (ret := (some .int)) (by decide) rfl ?_
  intro p e s m args below meth c s₁ B hml hv
  obtain ⟨rfl, hP, hK⟩ := hv
  have hx := B.exec
  have hb := B.bytes
  have hr := B.returns
  have hts := atoms_spec (ws := ws_ yX0_shaken cX0_shaken 3 (some .int)) B.pre
  have hts : ∀ w ∈ lw_all, w.before _ s = true := fun w h => hts w (List.mem_cons_of_mem _ h)
  have hown : s.vm.findClass RX0 = some m.cls := findClass_of_methodNamed B.named
  have hlocks := B.notSynchronized
  have hC : CallFix p m c cX0_shaken 3 s _ lw_all RX0 := ⟨hx, hb, hml, hown, hts⟩
  have hl := lv_entry ([.ref (a 0)]) (n := 3) (Nat.le_of_ble_eq_true rfl)
  rw [lg_entry_eq]
  generalize (lg_sl ([.ref (a 0)]) ++ List.replicate (3 - (lg_sl ([.ref (a 0)])).length) Slot.unset).toArray = ls at hl ⊢
  have hl : lv_has ls 3 [(0, .ref (a 0))] := hl
  refine lv_iconst (v := 0) hx hb dX0_shaken_0 (by decide) ?_
  refine lv_istore_n (lv' := [(1, .int 0), (0, .ref (a 0))]) hx hb dX0_shaken_1 rfl hl (by decide) rfl (fun ls hl => ?_)
  refine lv_iconst (v := 0) hx hb dX0_shaken_2 (by decide) ?_
  refine lv_istore_n (lv' := [(2, .int 0), (1, .int 0), (0, .ref (a 0))]) hx hb dX0_shaken_3 rfl hl (by decide) rfl (fun ls hl => ?_)
  have loop_4 : ∀ (f : Nat) (j : Nat) (x : Int32), j ≤ w → w + 1 ≤ j + f → x = sp_shk nv j → ∀ ls : Array Slot, lv_has ls 3 [(0, .ref (a 0)), (1, .int x), (2, .int (nI j))] → W p l e ({ frames := 1, cells := 0, slots := 0, locals := 21 } : Room) s m ([.ref (a 0)] : List Value).toArray below meth c s.heap [] 0 0 (MQ below (vp_Si (fun r : Int32 => r = sp_shk nv w)) ([.ref (a 0)] : List Value).toArray s 0 0 (fun _ => False)) (F0 m 4 ls []) := by
    intro f
    induction f with
    | zero =>
      intro j x hj hf ex
      exact absurd hf (by omega)
    | succ f ih4 =>
      intro j x hj hf ex ls hl
      refine lv_iload_n hx hb dX0_shaken_4 rfl (lv_at hl 2 rfl) ?_
      refine lv_aload_n hx hb dX0_shaken_5 rfl (lv_at hl 0 rfl) ?_
      refine xg_w hC hK hP dX0_shaken_6 ?_
      refine lv_icmp_ge (tgt := 29) hx hb dX0_shaken_9 (by decide) (fun c_9 => ?_) (fun c_9 => ?_)
      · have nc_9 : w ≤ j := nn_le (by omega) c_9
        refine lv_iload_n hx hb dX0_shaken_29 rfl (lv_at hl 1 rfl) ?_
        exact W.iret (v := x) hx hb hr (fun t ht hW => ⟨x, rfl, (by rw [ex, show j = w by omega]), ht⟩) (fun q hq => absurd hq List.not_mem_nil) dX0_shaken_30
      · have nc_9 : j < w := nn_nle (by omega) c_9
        refine lv_aload_n hx hb dX0_shaken_12 rfl (lv_at hl 0 rfl) ?_
        refine lv_iload_n hx hb dX0_shaken_13 rfl (lv_at hl 2 rfl) ?_
        refine k_X0_isShaken hC hK hP hl.1 ⟨Nat.le_of_ble_eq_true rfl, Nat.le_of_ble_eq_true rfl⟩ ⟨Nat.zero_le _, Nat.zero_le _⟩ (Nat.le_of_ble_eq_true rfl) rfl (by first | assumption | omega) dX0_shaken_14 ?_
        refine lv_if_eq (tgt := 23) hx hb dX0_shaken_17 (by decide) (fun c_17 => ?_) (fun c_17 => ?_)
        · refine lv_iinc (v := nI (j + 1)) (lv' := [(2, .int (nI (j + 1))), (0, .ref (a 0)), (1, .int x)]) hx hb dX0_shaken_23 hl (k := 2) rfl (nI_1 _) (by decide) rfl (fun ls hl => ?_)
          refine lv_goto (tgt := 4) hx hb dX0_shaken_26 (by decide) ?_
          exact ih4 (j + 1) x (by omega) (by omega) (by simp [ex, sp_shk, c_17]) _ (lv_sub hl [1, 2, 0] rfl)
        · refine lv_iinc (v := x + 1) (lv' := [(1, .int (x + 1)), (0, .ref (a 0)), (2, .int (nI j))]) hx hb dX0_shaken_20 hl (k := 1) rfl rfl (by decide) rfl (fun ls hl => ?_)
          refine lv_iinc (v := nI (j + 1)) (lv' := [(2, .int (nI (j + 1))), (1, .int (x + 1)), (0, .ref (a 0))]) hx hb dX0_shaken_23 hl (k := 2) rfl (nI_1 _) (by decide) rfl (fun ls hl => ?_)
          refine lv_goto (tgt := 4) hx hb dX0_shaken_26 (by decide) ?_
          exact ih4 (j + 1) (x + 1) (by omega) (by omega) (by simp [ex, sp_shk, c_17]) _ (lv_sub hl [2, 1, 0] rfl)
  exact loop_4 (w + 1) 0 0 (Nat.zero_le _) (by omega) rfl _ (lv_sub hl [2, 1, 0] rfl)
set_option maxRecDepth 100000 in
theorem k_X0_shaken {p : Program} {l : Launch} {e : Env} {R : Room} {s : State} {m : MethodId} {args : Array Value} {below : List Frame} {meth : Method} {c : Code} {H : Heap} {locs : List Loc} {cells slots : Nat} {Q : State → Prop} {D : va_G} {z : ClassId × ClassId} {a : Nat → Nat} {lv lk pu fa he : Nat → Int32} {n : Nat} {nv du ta : Nat → Int32} {w : Nat} {mp mi : Nat → Int32} {k : Nat} {nt fu re : Int32} {cc : ByteArray} {nL pc : Nat} {ls : Array Slot} {rest : List Value} (hC : CallFix p m c cc nL s args lw_all RX0) (hK : kK D z s) (hP : va_P D vwCl (xW z a lv lk pu fa he n nv du ta w mp mi k nt fu re) H) (hl : ls.size = nL) (hR : 2 ≤ R.frames ∧ 43 ≤ R.locals) (hz : cells ≤ R.cells ∧ slots ≤ R.slots) (hr : (rest.map fun v => v.category).sum ≤ 8)   (hw : w ≤ 6) (hdg : decode cc pc = .ok (.invokevirtual 129, 3)) (kk : W p l e R s m args below meth c H locs cells slots Q (F0 m (pc + 3) ls (.int (sp_shk nv w) :: rest))) : W p l e R s m args below meth c H locs cells slots Q (F0 m pc ls (.ref (a 0) :: rest)) := by
  exact vp_callSi (W.runV (As := []) (rest := rest) hC (c_X0_shaken l hw) (cwV 0 hC.2.2.2.2 (gi_V mM_X0_129 mV_X0_shaken mS_X0_shaken mI_MissRegistry mC_X0_shaken) rfl rfl rfl (by decide +kernel) hR) (xpre hK hP) rfl rfl hl rfl (lv_room hr) hdg hz) (fun r hr => by rw [hr]; exact kk)
set_option maxHeartbeats 4000000 in
set_option maxRecDepth 100000 in
theorem c_X0_certified (l : Launch) {D : va_G} {z : ClassId × ClassId} {a : Nat → Nat} {lv lk pu fa he : Nat → Int32} {n : Nat} {nv du ta : Nat → Int32} {w : Nat} {mp mi : Nat → Int32} {k : Nat} {nt fu re : Int32} (hk : k ≤ 60) : Met l yX0_certified (ws_ yX0_certified cX0_certified 3 (some .int)) ({ frames := 0, cells := 0, slots := 0, locals := 0 } : Room) (va_Pc [.ref (a 0)] (xI D z a lv lk pu fa he n nv du ta w mp mi k nt fu re)) (vp_Si (fun r : Int32 => r = sp_cert mi k)) 0 0 (fun _ => False) := by
  refine Met.ofW (cc := cX0_certified) (maxL := 3) (ret := (some .int)) (by decide) rfl ?_
  intro p e s m args below meth c s₁ B hml hv
  obtain ⟨rfl, hP, hK⟩ := hv
  have hx := B.exec
  have hb := B.bytes
  have hr := B.returns
  have hts := atoms_spec (ws := ws_ yX0_certified cX0_certified 3 (some .int)) B.pre
  have hts : ∀ w ∈ lw_all, w.before _ s = true := fun w h => hts w (List.mem_cons_of_mem _ h)
  have hown : s.vm.findClass RX0 = some m.cls := findClass_of_methodNamed B.named
  have hlocks := B.notSynchronized
  have hC : CallFix p m c cX0_certified 3 s _ lw_all RX0 := ⟨hx, hb, hml, hown, hts⟩
  have hl := lv_entry ([.ref (a 0)]) (n := 3) (Nat.le_of_ble_eq_true rfl)
  rw [lg_entry_eq]
  generalize (lg_sl ([.ref (a 0)]) ++ List.replicate (3 - (lg_sl ([.ref (a 0)])).length) Slot.unset).toArray = ls at hl ⊢
  have hl : lv_has ls 3 [(0, .ref (a 0))] := hl
  refine lv_iconst (v := 0) hx hb dX0_certified_0 (by decide) ?_
  refine lv_istore_n (lv' := [(1, .int 0), (0, .ref (a 0))]) hx hb dX0_certified_1 rfl hl (by decide) rfl (fun ls hl => ?_)
  refine lv_iconst (v := 0) hx hb dX0_certified_2 (by decide) ?_
  refine lv_istore_n (lv' := [(2, .int 0), (1, .int 0), (0, .ref (a 0))]) hx hb dX0_certified_3 rfl hl (by decide) rfl (fun ls hl => ?_)
  have loop_4 : ∀ (f : Nat) (j : Nat) (x : Int32), j ≤ k → k + 1 ≤ j + f → x = sp_cert mi j → ∀ ls : Array Slot, lv_has ls 3 [(0, .ref (a 0)), (1, .int x), (2, .int (nI j))] → W p l e ({ frames := 0, cells := 0, slots := 0, locals := 0 } : Room) s m ([.ref (a 0)] : List Value).toArray below meth c s.heap [] 0 0 (MQ below (vp_Si (fun r : Int32 => r = sp_cert mi k)) ([.ref (a 0)] : List Value).toArray s 0 0 (fun _ => False)) (F0 m 4 ls []) := by
    intro f
    induction f with
    | zero =>
      intro j x hj hf ex
      exact absurd hf (by omega)
    | succ f ih4 =>
      intro j x hj hf ex ls hl
      refine lv_iload_n hx hb dX0_certified_4 rfl (lv_at hl 2 rfl) ?_
      refine lv_aload_n hx hb dX0_certified_5 rfl (lv_at hl 0 rfl) ?_
      refine xg_k hC hK hP dX0_certified_6 ?_
      refine lv_icmp_ge (tgt := 30) hx hb dX0_certified_9 (by decide) (fun c_9 => ?_) (fun c_9 => ?_)
      · have nc_9 : k ≤ j := nn_le (by omega) c_9
        refine lv_iload_n hx hb dX0_certified_30 rfl (lv_at hl 1 rfl) ?_
        exact W.iret (v := x) hx hb hr (fun t ht hW => ⟨x, rfl, (by rw [ex, show j = k by omega]), ht⟩) (fun q hq => absurd hq List.not_mem_nil) dX0_certified_31
      · have nc_9 : j < k := nn_nle (by omega) c_9
        refine lv_aload_n hx hb dX0_certified_12 rfl (lv_at hl 0 rfl) ?_
        refine xg_mi hC hK hP dX0_certified_13 ?_
        refine lv_iload_n hx hb dX0_certified_16 rfl (lv_at hl 2 rfl) ?_
        refine xl_mi hC hK hP j rfl (by omega) dX0_certified_17 ?_
        refine lv_if_le (tgt := 24) hx hb dX0_certified_18 (by decide) (fun c_18 => ?_) (fun c_18 => ?_)
        · refine lv_iinc (v := nI (j + 1)) (lv' := [(2, .int (nI (j + 1))), (0, .ref (a 0)), (1, .int x)]) hx hb dX0_certified_24 hl (k := 2) rfl (nI_1 _) (by decide) rfl (fun ls hl => ?_)
          refine lv_goto (tgt := 4) hx hb dX0_certified_27 (by decide) ?_
          exact ih4 (j + 1) x (by omega) (by omega) (by simp [ex, sp_cert, c_18]) _ (lv_sub hl [1, 2, 0] rfl)
        · refine lv_iinc (v := x + 1) (lv' := [(1, .int (x + 1)), (0, .ref (a 0)), (2, .int (nI j))]) hx hb dX0_certified_21 hl (k := 1) rfl rfl (by decide) rfl (fun ls hl => ?_)
          refine lv_iinc (v := nI (j + 1)) (lv' := [(2, .int (nI (j + 1))), (1, .int (x + 1)), (0, .ref (a 0))]) hx hb dX0_certified_24 hl (k := 2) rfl (nI_1 _) (by decide) rfl (fun ls hl => ?_)
          refine lv_goto (tgt := 4) hx hb dX0_certified_27 (by decide) ?_
          exact ih4 (j + 1) (x + 1) (by omega) (by omega) (by simp [ex, sp_cert, c_18]) _ (lv_sub hl [2, 1, 0] rfl)
  exact loop_4 (k + 1) 0 0 (Nat.zero_le _) (by omega) rfl _ (lv_sub hl [2, 1, 0] rfl)
set_option maxHeartbeats 4000000 in
set_option maxRecDepth 100000 in
theorem c_X0_steadiest (l : Launch) {D : va_G} {z : ClassId × ClassId} {a : Nat → Nat} {lv lk pu fa he : Nat → Int32} {n : Nat} {nv du ta : Nat → Int32} {w : Nat} {mp mi : Nat → Int32} {k : Nat} {nt fu re : Int32} (hw : w ≤ 6) : Met l yX0_steadiest (ws_ yX0_steadiest cX0_steadiest 4 (some .int)) ({ frames := 0, cells := 0, slots := 0, locals := 0 } : Room) (va_Pc [.ref (a 0)] (xI D z a lv lk pu fa he n nv du ta w mp mi k nt fu re)) (vp_Si (fun r : Int32 => r = (sp_best du nv w).1)) 0 0 (fun _ => False) := by
  refine Met.ofW (cc := cX0_steadiest) (maxL := 4) (ret := (some .int)) (by decide) rfl ?_
  intro p e s m args below meth c s₁ B hml hv
  obtain ⟨rfl, hP, hK⟩ := hv
  have hx := B.exec
  have hb := B.bytes
  have hr := B.returns
  have hts := atoms_spec (ws := ws_ yX0_steadiest cX0_steadiest 4 (some .int)) B.pre
  have hts : ∀ w ∈ lw_all, w.before _ s = true := fun w h => hts w (List.mem_cons_of_mem _ h)
  have hown : s.vm.findClass RX0 = some m.cls := findClass_of_methodNamed B.named
  have hlocks := B.notSynchronized
  have hC : CallFix p m c cX0_steadiest 4 s _ lw_all RX0 := ⟨hx, hb, hml, hown, hts⟩
  have hl := lv_entry ([.ref (a 0)]) (n := 4) (Nat.le_of_ble_eq_true rfl)
  rw [lg_entry_eq]
  generalize (lg_sl ([.ref (a 0)]) ++ List.replicate (4 - (lg_sl ([.ref (a 0)])).length) Slot.unset).toArray = ls at hl ⊢
  have hl : lv_has ls 4 [(0, .ref (a 0))] := hl
  refine lv_iconst (v := (-1)) hx hb dX0_steadiest_0 (by decide) ?_
  refine lv_istore_n (lv' := [(1, .int (-1)), (0, .ref (a 0))]) hx hb dX0_steadiest_1 rfl hl (by decide) rfl (fun ls hl => ?_)
  refine lv_iconst (v := (-1)) hx hb dX0_steadiest_2 (by decide) ?_
  refine lv_istore_n (lv' := [(2, .int (-1)), (1, .int (-1)), (0, .ref (a 0))]) hx hb dX0_steadiest_3 rfl hl (by decide) rfl (fun ls hl => ?_)
  refine lv_iconst (v := 0) hx hb dX0_steadiest_4 (by decide) ?_
  refine lv_istore_n (lv' := [(3, .int 0), (2, .int (-1)), (1, .int (-1)), (0, .ref (a 0))]) hx hb dX0_steadiest_5 rfl hl (by decide) rfl (fun ls hl => ?_)
  have loop_6 : ∀ (f : Nat) (j : Nat) (x : Int32) (y : Int32), j ≤ w → w + 1 ≤ j + f → x = (sp_best du nv j).1 → y = (sp_best du nv j).2 → ∀ ls : Array Slot, lv_has ls 4 [(0, .ref (a 0)), (1, .int x), (2, .int y), (3, .int (nI j))] → W p l e ({ frames := 0, cells := 0, slots := 0, locals := 0 } : Room) s m ([.ref (a 0)] : List Value).toArray below meth c s.heap [] 0 0 (MQ below (vp_Si (fun r : Int32 => r = (sp_best du nv w).1)) ([.ref (a 0)] : List Value).toArray s 0 0 (fun _ => False)) (F0 m 6 ls []) := by
    intro f
    induction f with
    | zero =>
      intro j x y hj hf ex ey
      exact absurd hf (by omega)
    | succ f ih6 =>
      intro j x y hj hf ex ey ls hl
      refine lv_iload_n hx hb dX0_steadiest_6 rfl (lv_at hl 3 rfl) ?_
      refine lv_aload_n hx hb dX0_steadiest_7 rfl (lv_at hl 0 rfl) ?_
      refine xg_w hC hK hP dX0_steadiest_8 ?_
      refine lv_icmp_ge (tgt := 48) hx hb dX0_steadiest_11 (by decide) (fun c_11 => ?_) (fun c_11 => ?_)
      · have nc_11 : w ≤ j := nn_le (by omega) c_11
        refine lv_iload_n hx hb dX0_steadiest_48 rfl (lv_at hl 1 rfl) ?_
        exact W.iret (v := x) hx hb hr (fun t ht hW => ⟨x, rfl, (by rw [ex, show j = w by omega]), ht⟩) (fun q hq => absurd hq List.not_mem_nil) dX0_steadiest_49
      · have nc_11 : j < w := nn_nle (by omega) c_11
        refine lv_aload_n hx hb dX0_steadiest_14 rfl (lv_at hl 0 rfl) ?_
        refine xg_du hC hK hP dX0_steadiest_15 ?_
        refine lv_iload_n hx hb dX0_steadiest_18 rfl (lv_at hl 3 rfl) ?_
        refine xl_du hC hK hP j rfl (by omega) dX0_steadiest_19 ?_
        refine lv_if_eq (tgt := 42) hx hb dX0_steadiest_20 (by decide) (fun c_20 => ?_) (fun c_20 => ?_)
        · refine lv_iinc (v := nI (j + 1)) (lv' := [(3, .int (nI (j + 1))), (0, .ref (a 0)), (1, .int x), (2, .int y)]) hx hb dX0_steadiest_42 hl (k := 3) rfl (nI_1 _) (by decide) rfl (fun ls hl => ?_)
          refine lv_goto (tgt := 6) hx hb dX0_steadiest_45 (by decide) ?_
          exact ih6 (j + 1) x y (by omega) (by omega) (by rw [ey] at *; simp [ex, sp_best, c_20]) (by rw [ey] at *; simp [ex, sp_best, c_20]) _ (lv_sub hl [1, 2, 3, 0] rfl)
        · refine lv_aload_n hx hb dX0_steadiest_23 rfl (lv_at hl 0 rfl) ?_
          refine xg_nv hC hK hP dX0_steadiest_24 ?_
          refine lv_iload_n hx hb dX0_steadiest_27 rfl (lv_at hl 3 rfl) ?_
          refine xl_nv hC hK hP j rfl (by omega) dX0_steadiest_28 ?_
          refine lv_iload_n hx hb dX0_steadiest_29 rfl (lv_at hl 2 rfl) ?_
          refine lv_icmp_le (tgt := 42) hx hb dX0_steadiest_30 (by decide) (fun c_30 => ?_) (fun c_30 => ?_)
          · refine lv_iinc (v := nI (j + 1)) (lv' := [(3, .int (nI (j + 1))), (0, .ref (a 0)), (1, .int x), (2, .int y)]) hx hb dX0_steadiest_42 hl (k := 3) rfl (nI_1 _) (by decide) rfl (fun ls hl => ?_)
            refine lv_goto (tgt := 6) hx hb dX0_steadiest_45 (by decide) ?_
            exact ih6 (j + 1) x y (by omega) (by omega) (by rw [ey] at *; simp [ex, sp_best, c_20, c_30]) (by rw [ey] at *; simp [ex, sp_best, c_20, c_30]) _ (lv_sub hl [1, 2, 3, 0] rfl)
          · refine lv_iload_n hx hb dX0_steadiest_33 rfl (lv_at hl 3 rfl) ?_
            refine lv_istore_n (lv' := [(1, .int (nI j)), (0, .ref (a 0)), (2, .int y), (3, .int (nI j))]) hx hb dX0_steadiest_34 rfl hl (by decide) rfl (fun ls hl => ?_)
            refine lv_aload_n hx hb dX0_steadiest_35 rfl (lv_at hl 1 rfl) ?_
            refine xg_nv hC hK hP dX0_steadiest_36 ?_
            refine lv_iload_n hx hb dX0_steadiest_39 rfl (lv_at hl 3 rfl) ?_
            refine xl_nv hC hK hP j rfl (by omega) dX0_steadiest_40 ?_
            refine lv_istore_n (lv' := [(2, .int (nv j)), (1, .int (nI j)), (0, .ref (a 0)), (3, .int (nI j))]) hx hb dX0_steadiest_41 rfl hl (by decide) rfl (fun ls hl => ?_)
            refine lv_iinc (v := nI (j + 1)) (lv' := [(3, .int (nI (j + 1))), (2, .int (nv j)), (1, .int (nI j)), (0, .ref (a 0))]) hx hb dX0_steadiest_42 hl (k := 3) rfl (nI_1 _) (by decide) rfl (fun ls hl => ?_)
            refine lv_goto (tgt := 6) hx hb dX0_steadiest_45 (by decide) ?_
            exact ih6 (j + 1) (nI j) (nv j) (by omega) (by omega) (by rw [ey] at *; simp [ex, sp_best, c_20, c_30]) (by rw [ey] at *; simp [ex, sp_best, c_20, c_30]) _ (lv_sub hl [3, 2, 1, 0] rfl)
  exact loop_6 (w + 1) 0 (-1) (-1) (Nat.zero_le _) (by omega) rfl rfl _ (lv_sub hl [3, 2, 1, 0] rfl)
set_option maxRecDepth 100000 in
theorem k_X0_steadiest {p : Program} {l : Launch} {e : Env} {R : Room} {s : State} {m : MethodId} {args : Array Value} {below : List Frame} {meth : Method} {c : Code} {H : Heap} {locs : List Loc} {cells slots : Nat} {Q : State → Prop} {D : va_G} {z : ClassId × ClassId} {a : Nat → Nat} {lv lk pu fa he : Nat → Int32} {n : Nat} {nv du ta : Nat → Int32} {w : Nat} {mp mi : Nat → Int32} {k : Nat} {nt fu re : Int32} {cc : ByteArray} {nL pc : Nat} {ls : Array Slot} {rest : List Value} (hC : CallFix p m c cc nL s args lw_all RX0) (hK : kK D z s) (hP : va_P D vwCl (xW z a lv lk pu fa he n nv du ta w mp mi k nt fu re) H) (hl : ls.size = nL) (hR : 1 ≤ R.frames ∧ 23 ≤ R.locals) (hz : cells ≤ R.cells ∧ slots ≤ R.slots) (hr : (rest.map fun v => v.category).sum ≤ 8)   (hw : w ≤ 6) (hdg : decode cc pc = .ok (.invokevirtual 154, 3)) (kk : W p l e R s m args below meth c H locs cells slots Q (F0 m (pc + 3) ls (.int ((sp_best du nv w).1) :: rest))) : W p l e R s m args below meth c H locs cells slots Q (F0 m pc ls (.ref (a 0) :: rest)) := by
  exact vp_callSi (W.runV (As := []) (rest := rest) hC (c_X0_steadiest l hw) (cwV 0 hC.2.2.2.2 (gi_V mM_X0_154 mV_X0_steadiest mS_X0_steadiest mI_MissRegistry mC_X0_steadiest) rfl rfl rfl (by decide +kernel) hR) (xpre hK hP) rfl rfl hl rfl (lv_room hr) hdg hz) (fun r hr => by rw [hr]; exact kk)
set_option maxHeartbeats 4000000 in
set_option maxRecDepth 100000 in
theorem c_X0_luckiest (l : Launch) {D : va_G} {z : ClassId × ClassId} {a : Nat → Nat} {lv lk pu fa he : Nat → Int32} {n : Nat} {nv du ta : Nat → Int32} {w : Nat} {mp mi : Nat → Int32} {k : Nat} {nt fu re : Int32} (hn : n ≤ 10) : Met l yX0_luckiest (ws_ yX0_luckiest cX0_luckiest 4 (some .int)) ({ frames := 0, cells := 0, slots := 0, locals := 0 } : Room) (va_Pc [.ref (a 0)] (xI D z a lv lk pu fa he n nv du ta w mp mi k nt fu re)) (vp_Si (fun r : Int32 => r = (sp_best lv lk n).1)) 0 0 (fun _ => False) := by
  refine Met.ofW (cc := cX0_luckiest) (maxL := 4) (ret := (some .int)) (by decide) rfl ?_
  intro p e s m args below meth c s₁ B hml hv
  obtain ⟨rfl, hP, hK⟩ := hv
  have hx := B.exec
  have hb := B.bytes
  have hr := B.returns
  have hts := atoms_spec (ws := ws_ yX0_luckiest cX0_luckiest 4 (some .int)) B.pre
  have hts : ∀ w ∈ lw_all, w.before _ s = true := fun w h => hts w (List.mem_cons_of_mem _ h)
  have hown : s.vm.findClass RX0 = some m.cls := findClass_of_methodNamed B.named
  have hlocks := B.notSynchronized
  have hC : CallFix p m c cX0_luckiest 4 s _ lw_all RX0 := ⟨hx, hb, hml, hown, hts⟩
  have hl := lv_entry ([.ref (a 0)]) (n := 4) (Nat.le_of_ble_eq_true rfl)
  rw [lg_entry_eq]
  generalize (lg_sl ([.ref (a 0)]) ++ List.replicate (4 - (lg_sl ([.ref (a 0)])).length) Slot.unset).toArray = ls at hl ⊢
  have hl : lv_has ls 4 [(0, .ref (a 0))] := hl
  refine lv_iconst (v := (-1)) hx hb dX0_luckiest_0 (by decide) ?_
  refine lv_istore_n (lv' := [(1, .int (-1)), (0, .ref (a 0))]) hx hb dX0_luckiest_1 rfl hl (by decide) rfl (fun ls hl => ?_)
  refine lv_iconst (v := (-1)) hx hb dX0_luckiest_2 (by decide) ?_
  refine lv_istore_n (lv' := [(2, .int (-1)), (1, .int (-1)), (0, .ref (a 0))]) hx hb dX0_luckiest_3 rfl hl (by decide) rfl (fun ls hl => ?_)
  refine lv_iconst (v := 0) hx hb dX0_luckiest_4 (by decide) ?_
  refine lv_istore_n (lv' := [(3, .int 0), (2, .int (-1)), (1, .int (-1)), (0, .ref (a 0))]) hx hb dX0_luckiest_5 rfl hl (by decide) rfl (fun ls hl => ?_)
  have loop_6 : ∀ (f : Nat) (j : Nat) (x : Int32) (y : Int32), j ≤ n → n + 1 ≤ j + f → x = (sp_best lv lk j).1 → y = (sp_best lv lk j).2 → ∀ ls : Array Slot, lv_has ls 4 [(0, .ref (a 0)), (1, .int x), (2, .int y), (3, .int (nI j))] → W p l e ({ frames := 0, cells := 0, slots := 0, locals := 0 } : Room) s m ([.ref (a 0)] : List Value).toArray below meth c s.heap [] 0 0 (MQ below (vp_Si (fun r : Int32 => r = (sp_best lv lk n).1)) ([.ref (a 0)] : List Value).toArray s 0 0 (fun _ => False)) (F0 m 6 ls []) := by
    intro f
    induction f with
    | zero =>
      intro j x y hj hf ex ey
      exact absurd hf (by omega)
    | succ f ih6 =>
      intro j x y hj hf ex ey ls hl
      refine lv_iload_n hx hb dX0_luckiest_6 rfl (lv_at hl 3 rfl) ?_
      refine lv_aload_n hx hb dX0_luckiest_7 rfl (lv_at hl 0 rfl) ?_
      refine xg_n hC hK hP dX0_luckiest_8 ?_
      refine lv_icmp_ge (tgt := 48) hx hb dX0_luckiest_11 (by decide) (fun c_11 => ?_) (fun c_11 => ?_)
      · have nc_11 : n ≤ j := nn_le (by omega) c_11
        refine lv_iload_n hx hb dX0_luckiest_48 rfl (lv_at hl 1 rfl) ?_
        exact W.iret (v := x) hx hb hr (fun t ht hW => ⟨x, rfl, (by rw [ex, show j = n by omega]), ht⟩) (fun q hq => absurd hq List.not_mem_nil) dX0_luckiest_49
      · have nc_11 : j < n := nn_nle (by omega) c_11
        refine lv_aload_n hx hb dX0_luckiest_14 rfl (lv_at hl 0 rfl) ?_
        refine xg_lv hC hK hP dX0_luckiest_15 ?_
        refine lv_iload_n hx hb dX0_luckiest_18 rfl (lv_at hl 3 rfl) ?_
        refine xl_lv hC hK hP j rfl (by omega) dX0_luckiest_19 ?_
        refine lv_if_eq (tgt := 42) hx hb dX0_luckiest_20 (by decide) (fun c_20 => ?_) (fun c_20 => ?_)
        · refine lv_iinc (v := nI (j + 1)) (lv' := [(3, .int (nI (j + 1))), (0, .ref (a 0)), (1, .int x), (2, .int y)]) hx hb dX0_luckiest_42 hl (k := 3) rfl (nI_1 _) (by decide) rfl (fun ls hl => ?_)
          refine lv_goto (tgt := 6) hx hb dX0_luckiest_45 (by decide) ?_
          exact ih6 (j + 1) x y (by omega) (by omega) (by rw [ey] at *; simp [ex, sp_best, c_20]) (by rw [ey] at *; simp [ex, sp_best, c_20]) _ (lv_sub hl [1, 2, 3, 0] rfl)
        · refine lv_aload_n hx hb dX0_luckiest_23 rfl (lv_at hl 0 rfl) ?_
          refine xg_lk hC hK hP dX0_luckiest_24 ?_
          refine lv_iload_n hx hb dX0_luckiest_27 rfl (lv_at hl 3 rfl) ?_
          refine xl_lk hC hK hP j rfl (by omega) dX0_luckiest_28 ?_
          refine lv_iload_n hx hb dX0_luckiest_29 rfl (lv_at hl 2 rfl) ?_
          refine lv_icmp_le (tgt := 42) hx hb dX0_luckiest_30 (by decide) (fun c_30 => ?_) (fun c_30 => ?_)
          · refine lv_iinc (v := nI (j + 1)) (lv' := [(3, .int (nI (j + 1))), (0, .ref (a 0)), (1, .int x), (2, .int y)]) hx hb dX0_luckiest_42 hl (k := 3) rfl (nI_1 _) (by decide) rfl (fun ls hl => ?_)
            refine lv_goto (tgt := 6) hx hb dX0_luckiest_45 (by decide) ?_
            exact ih6 (j + 1) x y (by omega) (by omega) (by rw [ey] at *; simp [ex, sp_best, c_20, c_30]) (by rw [ey] at *; simp [ex, sp_best, c_20, c_30]) _ (lv_sub hl [1, 2, 3, 0] rfl)
          · refine lv_iload_n hx hb dX0_luckiest_33 rfl (lv_at hl 3 rfl) ?_
            refine lv_istore_n (lv' := [(1, .int (nI j)), (0, .ref (a 0)), (2, .int y), (3, .int (nI j))]) hx hb dX0_luckiest_34 rfl hl (by decide) rfl (fun ls hl => ?_)
            refine lv_aload_n hx hb dX0_luckiest_35 rfl (lv_at hl 1 rfl) ?_
            refine xg_lk hC hK hP dX0_luckiest_36 ?_
            refine lv_iload_n hx hb dX0_luckiest_39 rfl (lv_at hl 3 rfl) ?_
            refine xl_lk hC hK hP j rfl (by omega) dX0_luckiest_40 ?_
            refine lv_istore_n (lv' := [(2, .int (lk j)), (1, .int (nI j)), (0, .ref (a 0)), (3, .int (nI j))]) hx hb dX0_luckiest_41 rfl hl (by decide) rfl (fun ls hl => ?_)
            refine lv_iinc (v := nI (j + 1)) (lv' := [(3, .int (nI (j + 1))), (2, .int (lk j)), (1, .int (nI j)), (0, .ref (a 0))]) hx hb dX0_luckiest_42 hl (k := 3) rfl (nI_1 _) (by decide) rfl (fun ls hl => ?_)
            refine lv_goto (tgt := 6) hx hb dX0_luckiest_45 (by decide) ?_
            exact ih6 (j + 1) (nI j) (lk j) (by omega) (by omega) (by rw [ey] at *; simp [ex, sp_best, c_20, c_30]) (by rw [ey] at *; simp [ex, sp_best, c_20, c_30]) _ (lv_sub hl [3, 2, 1, 0] rfl)
  exact loop_6 (n + 1) 0 (-1) (-1) (Nat.zero_le _) (by omega) rfl rfl _ (lv_sub hl [3, 2, 1, 0] rfl)
set_option maxHeartbeats 4000000 in
set_option maxRecDepth 100000 in
theorem c_X0_nightsUntilCalm (l : Launch) {D : va_G} {z : ClassId × ClassId} {a : Nat → Nat} {lv lk pu fa he : Nat → Int32} {n : Nat} {nv du ta : Nat → Int32} {w : Nat} {mp mi : Nat → Int32} {k : Nat} {nt fu re : Int32} (hw : w ≤ 6) : Met l yX0_nightsUntilCalm (ws_ yX0_nightsUntilCalm cX0_nightsUntilCalm 3 (some .int)) ({ frames := 2, cells := 0, slots := 0, locals := 43 } : Room) (va_Pc [.ref (a 0)] (xI D z a lv lk pu fa he n nv du ta w mp mi k nt fu re)) (vp_Si (fun r : Int32 => r = sp_nuc nv du w)) 0 0 (fun _ => False) := by
  refine Met.ofW (cc := cX0_nightsUntilCalm) (maxL := 3) (ret := (some .int)) (by decide) rfl ?_
  intro p e s m args below meth c s₁ B hml hv
  obtain ⟨rfl, hP, hK⟩ := hv
  have hx := B.exec
  have hb := B.bytes
  have hr := B.returns
  have hts := atoms_spec (ws := ws_ yX0_nightsUntilCalm cX0_nightsUntilCalm 3 (some .int)) B.pre
  have hts : ∀ w ∈ lw_all, w.before _ s = true := fun w h => hts w (List.mem_cons_of_mem _ h)
  have hown : s.vm.findClass RX0 = some m.cls := findClass_of_methodNamed B.named
  have hlocks := B.notSynchronized
  have hC : CallFix p m c cX0_nightsUntilCalm 3 s _ lw_all RX0 := ⟨hx, hb, hml, hown, hts⟩
  have hl := lv_entry ([.ref (a 0)]) (n := 3) (Nat.le_of_ble_eq_true rfl)
  rw [lg_entry_eq]
  generalize (lg_sl ([.ref (a 0)]) ++ List.replicate (3 - (lg_sl ([.ref (a 0)])).length) Slot.unset).toArray = ls at hl ⊢
  have hl : lv_has ls 3 [(0, .ref (a 0))] := hl
  refine lv_iconst (v := 0) hx hb dX0_nightsUntilCalm_0 (by decide) ?_
  refine lv_istore_n (lv' := [(1, .int 0), (0, .ref (a 0))]) hx hb dX0_nightsUntilCalm_1 rfl hl (by decide) rfl (fun ls hl => ?_)
  refine lv_iconst (v := 0) hx hb dX0_nightsUntilCalm_2 (by decide) ?_
  refine lv_istore_n (lv' := [(2, .int 0), (1, .int 0), (0, .ref (a 0))]) hx hb dX0_nightsUntilCalm_3 rfl hl (by decide) rfl (fun ls hl => ?_)
  have loop_4 : ∀ (f : Nat) (j : Nat) (x : Int32), j ≤ w → w + 1 ≤ j + f → x = sp_nuc nv du j → ∀ ls : Array Slot, lv_has ls 3 [(0, .ref (a 0)), (1, .int x), (2, .int (nI j))] → W p l e ({ frames := 2, cells := 0, slots := 0, locals := 43 } : Room) s m ([.ref (a 0)] : List Value).toArray below meth c s.heap [] 0 0 (MQ below (vp_Si (fun r : Int32 => r = sp_nuc nv du w)) ([.ref (a 0)] : List Value).toArray s 0 0 (fun _ => False)) (F0 m 4 ls []) := by
    intro f
    induction f with
    | zero =>
      intro j x hj hf ex
      exact absurd hf (by omega)
    | succ f ih4 =>
      intro j x hj hf ex ls hl
      refine lv_iload_n hx hb dX0_nightsUntilCalm_4 rfl (lv_at hl 2 rfl) ?_
      refine lv_aload_n hx hb dX0_nightsUntilCalm_5 rfl (lv_at hl 0 rfl) ?_
      refine xg_w hC hK hP dX0_nightsUntilCalm_6 ?_
      refine lv_icmp_ge (tgt := 28) hx hb dX0_nightsUntilCalm_9 (by decide) (fun c_9 => ?_) (fun c_9 => ?_)
      · have nc_9 : w ≤ j := nn_le (by omega) c_9
        refine lv_iload_n hx hb dX0_nightsUntilCalm_28 rfl (lv_at hl 1 rfl) ?_
        exact W.iret (v := x) hx hb hr (fun t ht hW => ⟨x, rfl, (by rw [ex, show j = w by omega]), ht⟩) (fun q hq => absurd hq List.not_mem_nil) dX0_nightsUntilCalm_29
      · have nc_9 : j < w := nn_nle (by omega) c_9
        refine lv_iload_n hx hb dX0_nightsUntilCalm_12 rfl (lv_at hl 1 rfl) ?_
        refine lv_aload_n hx hb dX0_nightsUntilCalm_13 rfl (lv_at hl 0 rfl) ?_
        refine lv_iload_n hx hb dX0_nightsUntilCalm_14 rfl (lv_at hl 2 rfl) ?_
        refine k_X0_nightsToCalm hC hK hP hl.1 ⟨Nat.le_of_ble_eq_true rfl, Nat.le_of_ble_eq_true rfl⟩ ⟨Nat.zero_le _, Nat.zero_le _⟩ (Nat.le_of_ble_eq_true rfl) rfl (by first | assumption | omega) dX0_nightsUntilCalm_15 ?_
        refine va_mmax hx hb (hml.trans hl.1.symm) hown (hts _ mM_X0_102) (hts _ mT_max) (hts _ mI_Math) (hts _ mC_max) (Nat.le_of_ble_eq_true rfl) (Nat.le_of_ble_eq_true rfl) (Nat.zero_le _) (Nat.zero_le _) dX0_nightsUntilCalm_18 ?_
        refine lv_istore_n (lv' := [(1, .int (imax x (sp_calm (nv j) (du j)))), (0, .ref (a 0)), (2, .int (nI j))]) hx hb dX0_nightsUntilCalm_21 rfl hl (by decide) rfl (fun ls hl => ?_)
        refine lv_iinc (v := nI (j + 1)) (lv' := [(2, .int (nI (j + 1))), (1, .int (imax x (sp_calm (nv j) (du j)))), (0, .ref (a 0))]) hx hb dX0_nightsUntilCalm_22 hl (k := 2) rfl (nI_1 _) (by decide) rfl (fun ls hl => ?_)
        refine lv_goto (tgt := 4) hx hb dX0_nightsUntilCalm_25 (by decide) ?_
        exact ih4 (j + 1) (imax x (sp_calm (nv j) (du j))) (by omega) (by omega) (by simp [ex, sp_nuc]) _ (lv_sub hl [2, 1, 0] rfl)
  exact loop_4 (w + 1) 0 0 (Nat.zero_le _) (by omega) rfl _ (lv_sub hl [2, 1, 0] rfl)
set_option maxHeartbeats 4000000 in
set_option maxRecDepth 100000 in
theorem c_X0_sealNumber (l : Launch) (x y : Int32) : Met l yX0_sealNumber (ws_ yX0_sealNumber cX0_sealNumber 2 (some .int)) ({ frames := 0, cells := 0, slots := 0, locals := 0 } : Room) (va_Pc [.int x, .int y] (fun _ => True)) (vp_Si (fun r : Int32 => r = sp_num x y)) 0 0 (fun _ => False) := by
  refine Met.ofW (cc := cX0_sealNumber) (maxL := 2) (ret := (some .int)) (by decide) rfl ?_
  intro p e s m args below meth c s₁ B hml hv
  obtain ⟨rfl, -⟩ := hv
  have hx := B.exec
  have hb := B.bytes
  have hr := B.returns
  have hts := atoms_spec (ws := ws_ yX0_sealNumber cX0_sealNumber 2 (some .int)) B.pre
  have hts : ∀ w ∈ lw_all, w.before _ s = true := fun w h => hts w (List.mem_cons_of_mem _ h)
  have hown : s.vm.findClass RX0 = some m.cls := findClass_of_methodNamed B.named
  have hlocks := B.notSynchronized
  have hC : CallFix p m c cX0_sealNumber 2 s _ lw_all RX0 := ⟨hx, hb, hml, hown, hts⟩
  have hl := lv_entry ([.int x, .int y]) (n := 2) (Nat.le_of_ble_eq_true rfl)
  rw [lg_entry_eq]
  generalize (lg_sl ([.int x, .int y]) ++ List.replicate (2 - (lg_sl ([.int x, .int y])).length) Slot.unset).toArray = ls at hl ⊢
  have hl : lv_has ls 2 [(0, .int x), (1, .int y)] := hl
  refine lv_iload_n hx hb dX0_sealNumber_0 rfl (lv_at hl 1 rfl) ?_
  refine lv_bipush (v := 10) hx hb dX0_sealNumber_1 (by decide) ?_
  refine lv_icmp_lt (tgt := 19) hx hb dX0_sealNumber_3 (by decide) (fun c_3 => ?_) (fun c_3 => ?_)
  · refine lv_iload_n hx hb dX0_sealNumber_19 rfl (lv_at hl 0 rfl) ?_
    refine lv_bipush (v := 31) hx hb dX0_sealNumber_20 (by decide) ?_
    refine lv_imul hx hb dX0_sealNumber_22 ?_
    refine lv_bipush (v := 48) hx hb dX0_sealNumber_23 (by decide) ?_
    refine lv_iadd hx hb dX0_sealNumber_25 ?_
    refine lv_iload_n hx hb dX0_sealNumber_26 rfl (lv_at hl 1 rfl) ?_
    refine lv_bipush (v := 10) hx hb dX0_sealNumber_27 (by decide) ?_
    refine lv_irem hx hb dX0_sealNumber_29 (by decide) ?_
    refine lv_iadd hx hb dX0_sealNumber_30 ?_
    exact W.iret (v := ((x * 31) + 48) + (y - y / 10 * 10)) hx hb hr (fun t ht hW => ⟨((x * 31) + 48) + (y - y / 10 * 10), rfl, (by simp [sp_num, c_3]), ht⟩) (fun q hq => absurd hq List.not_mem_nil) dX0_sealNumber_31
  · refine lv_iload_n hx hb dX0_sealNumber_6 rfl (lv_at hl 0 rfl) ?_
    refine lv_bipush (v := 31) hx hb dX0_sealNumber_7 (by decide) ?_
    refine lv_imul hx hb dX0_sealNumber_9 ?_
    refine lv_bipush (v := 48) hx hb dX0_sealNumber_10 (by decide) ?_
    refine lv_iadd hx hb dX0_sealNumber_12 ?_
    refine lv_iload_n hx hb dX0_sealNumber_13 rfl (lv_at hl 1 rfl) ?_
    refine lv_bipush (v := 10) hx hb dX0_sealNumber_14 (by decide) ?_
    refine lv_idiv hx hb dX0_sealNumber_16 (by decide) ?_
    refine lv_iadd hx hb dX0_sealNumber_17 ?_
    refine lv_istore_n (lv' := [(0, .int (((x * 31) + 48) + (y / 10))), (1, .int y)]) hx hb dX0_sealNumber_18 rfl hl (by decide) rfl (fun ls hl => ?_)
    refine lv_iload_n hx hb dX0_sealNumber_19 rfl (lv_at hl 0 rfl) ?_
    refine lv_bipush (v := 31) hx hb dX0_sealNumber_20 (by decide) ?_
    refine lv_imul hx hb dX0_sealNumber_22 ?_
    refine lv_bipush (v := 48) hx hb dX0_sealNumber_23 (by decide) ?_
    refine lv_iadd hx hb dX0_sealNumber_25 ?_
    refine lv_iload_n hx hb dX0_sealNumber_26 rfl (lv_at hl 1 rfl) ?_
    refine lv_bipush (v := 10) hx hb dX0_sealNumber_27 (by decide) ?_
    refine lv_irem hx hb dX0_sealNumber_29 (by decide) ?_
    refine lv_iadd hx hb dX0_sealNumber_30 ?_
    exact W.iret (v := (((((x * 31) + 48) + (y / 10)) * 31) + 48) + (y - y / 10 * 10)) hx hb hr (fun t ht hW => ⟨(((((x * 31) + 48) + (y / 10)) * 31) + 48) + (y - y / 10 * 10), rfl, (by simp [sp_num, c_3]), ht⟩) (fun q hq => absurd hq List.not_mem_nil) dX0_sealNumber_31
set_option maxRecDepth 100000 in
theorem k_X0_sealNumber {p : Program} {l : Launch} {e : Env} {R : Room} {s : State} {m : MethodId} {args : Array Value} {below : List Frame} {meth : Method} {c : Code} {H : Heap} {locs : List Loc} {cells slots : Nat} {Q : State → Prop} {cc : ByteArray} {nL pc : Nat} {ls : Array Slot} {rest : List Value} (hC : CallFix p m c cc nL s args lw_all RX0) (hl : ls.size = nL) (hR : 1 ≤ R.frames ∧ 21 ≤ R.locals) (hz : cells ≤ R.cells ∧ slots ≤ R.slots) (hr : (rest.map fun v => v.category).sum ≤ 8) {x : Int32} {y : Int32}   (hdg : decode cc pc = .ok (.invokestatic 213, 3)) (kk : W p l e R s m args below meth c H locs cells slots Q (F0 m (pc + 3) ls (.int (sp_num x y) :: rest))) : W p l e R s m args below meth c H locs cells slots Q (F0 m pc ls (.int y :: .int x :: rest)) := by
  exact vp_callSi (W.runS (As := [.int x, .int y]) (rest := rest) hC (c_X0_sealNumber l x y) (va_cwS 2 hC.2.2.2.2 (gi_S mM_X0_213 mT_X0_sealNumber mI_MissRegistry mC_X0_sealNumber) rfl rfl rfl (by decide +kernel) hR) ⟨fun _ _ _ _ q => q, fun U hU hW => ⟨rfl, trivial⟩⟩ rfl rfl hl rfl (lv_room hr) hdg hz) (fun r hr => by rw [hr]; exact kk)
set_option maxHeartbeats 4000000 in
set_option maxRecDepth 100000 in
theorem c_X0_night (l : Launch) {D : va_G} {z : ClassId × ClassId} {a : Nat → Nat} {lv lk pu fa he : Nat → Int32} {n : Nat} {nv du ta : Nat → Int32} {w : Nat} {mp mi : Nat → Int32} {k : Nat} {nt fu re : Int32}  : Met l yX0_night (ws_ yX0_night cX0_night 1 (some .int)) ({ frames := 0, cells := 0, slots := 0, locals := 0 } : Room) (va_Pc [.ref (a 0)] (xI D z a lv lk pu fa he n nv du ta w mp mi k nt fu re)) (vp_Si (fun r : Int32 => r = nt)) 0 0 (fun _ => False) := by
  refine Met.ofW (cc := cX0_night) (maxL := 1) (ret := (some .int)) (by decide) rfl ?_
  intro p e s m args below meth c s₁ B hml hv
  obtain ⟨rfl, hP, hK⟩ := hv
  have hx := B.exec
  have hb := B.bytes
  have hr := B.returns
  have hts := atoms_spec (ws := ws_ yX0_night cX0_night 1 (some .int)) B.pre
  have hts : ∀ w ∈ lw_all, w.before _ s = true := fun w h => hts w (List.mem_cons_of_mem _ h)
  have hown : s.vm.findClass RX0 = some m.cls := findClass_of_methodNamed B.named
  have hlocks := B.notSynchronized
  have hC : CallFix p m c cX0_night 1 s _ lw_all RX0 := ⟨hx, hb, hml, hown, hts⟩
  have hl := lv_entry ([.ref (a 0)]) (n := 1) (Nat.le_of_ble_eq_true rfl)
  rw [lg_entry_eq]
  generalize (lg_sl ([.ref (a 0)]) ++ List.replicate (1 - (lg_sl ([.ref (a 0)])).length) Slot.unset).toArray = ls at hl ⊢
  have hl : lv_has ls 1 [(0, .ref (a 0))] := hl
  refine lv_aload_n hx hb dX0_night_0 rfl (lv_at hl 0 rfl) ?_
  refine xg_nt hC hK hP dX0_night_1 ?_
  exact W.iret (v := nt) hx hb hr (fun t ht hW => ⟨nt, rfl, rfl, ht⟩) (fun q hq => absurd hq List.not_mem_nil) dX0_night_4
set_option maxHeartbeats 4000000 in
set_option maxRecDepth 100000 in
theorem c_X0_persons (l : Launch) {D : va_G} {z : ClassId × ClassId} {a : Nat → Nat} {lv lk pu fa he : Nat → Int32} {n : Nat} {nv du ta : Nat → Int32} {w : Nat} {mp mi : Nat → Int32} {k : Nat} {nt fu re : Int32}  : Met l yX0_persons (ws_ yX0_persons cX0_persons 1 (some .int)) ({ frames := 0, cells := 0, slots := 0, locals := 0 } : Room) (va_Pc [.ref (a 0)] (xI D z a lv lk pu fa he n nv du ta w mp mi k nt fu re)) (vp_Si (fun r : Int32 => r = nI n)) 0 0 (fun _ => False) := by
  refine Met.ofW (cc := cX0_persons) (maxL := 1) (ret := (some .int)) (by decide) rfl ?_
  intro p e s m args below meth c s₁ B hml hv
  obtain ⟨rfl, hP, hK⟩ := hv
  have hx := B.exec
  have hb := B.bytes
  have hr := B.returns
  have hts := atoms_spec (ws := ws_ yX0_persons cX0_persons 1 (some .int)) B.pre
  have hts : ∀ w ∈ lw_all, w.before _ s = true := fun w h => hts w (List.mem_cons_of_mem _ h)
  have hown : s.vm.findClass RX0 = some m.cls := findClass_of_methodNamed B.named
  have hlocks := B.notSynchronized
  have hC : CallFix p m c cX0_persons 1 s _ lw_all RX0 := ⟨hx, hb, hml, hown, hts⟩
  have hl := lv_entry ([.ref (a 0)]) (n := 1) (Nat.le_of_ble_eq_true rfl)
  rw [lg_entry_eq]
  generalize (lg_sl ([.ref (a 0)]) ++ List.replicate (1 - (lg_sl ([.ref (a 0)])).length) Slot.unset).toArray = ls at hl ⊢
  have hl : lv_has ls 1 [(0, .ref (a 0))] := hl
  refine lv_aload_n hx hb dX0_persons_0 rfl (lv_at hl 0 rfl) ?_
  refine xg_n hC hK hP dX0_persons_1 ?_
  exact W.iret (v := nI n) hx hb hr (fun t ht hW => ⟨nI n, rfl, rfl, ht⟩) (fun q hq => absurd hq List.not_mem_nil) dX0_persons_4
set_option maxHeartbeats 4000000 in
set_option maxRecDepth 100000 in
theorem c_X0_witnesses (l : Launch) {D : va_G} {z : ClassId × ClassId} {a : Nat → Nat} {lv lk pu fa he : Nat → Int32} {n : Nat} {nv du ta : Nat → Int32} {w : Nat} {mp mi : Nat → Int32} {k : Nat} {nt fu re : Int32}  : Met l yX0_witnesses (ws_ yX0_witnesses cX0_witnesses 1 (some .int)) ({ frames := 0, cells := 0, slots := 0, locals := 0 } : Room) (va_Pc [.ref (a 0)] (xI D z a lv lk pu fa he n nv du ta w mp mi k nt fu re)) (vp_Si (fun r : Int32 => r = nI w)) 0 0 (fun _ => False) := by
  refine Met.ofW (cc := cX0_witnesses) (maxL := 1) (ret := (some .int)) (by decide) rfl ?_
  intro p e s m args below meth c s₁ B hml hv
  obtain ⟨rfl, hP, hK⟩ := hv
  have hx := B.exec
  have hb := B.bytes
  have hr := B.returns
  have hts := atoms_spec (ws := ws_ yX0_witnesses cX0_witnesses 1 (some .int)) B.pre
  have hts : ∀ w ∈ lw_all, w.before _ s = true := fun w h => hts w (List.mem_cons_of_mem _ h)
  have hown : s.vm.findClass RX0 = some m.cls := findClass_of_methodNamed B.named
  have hlocks := B.notSynchronized
  have hC : CallFix p m c cX0_witnesses 1 s _ lw_all RX0 := ⟨hx, hb, hml, hown, hts⟩
  have hl := lv_entry ([.ref (a 0)]) (n := 1) (Nat.le_of_ble_eq_true rfl)
  rw [lg_entry_eq]
  generalize (lg_sl ([.ref (a 0)]) ++ List.replicate (1 - (lg_sl ([.ref (a 0)])).length) Slot.unset).toArray = ls at hl ⊢
  have hl : lv_has ls 1 [(0, .ref (a 0))] := hl
  refine lv_aload_n hx hb dX0_witnesses_0 rfl (lv_at hl 0 rfl) ?_
  refine xg_w hC hK hP dX0_witnesses_1 ?_
  exact W.iret (v := nI w) hx hb hr (fun t ht hW => ⟨nI w, rfl, rfl, ht⟩) (fun q hq => absurd hq List.not_mem_nil) dX0_witnesses_4
set_option maxHeartbeats 4000000 in
set_option maxRecDepth 100000 in
theorem c_X0_fund (l : Launch) {D : va_G} {z : ClassId × ClassId} {a : Nat → Nat} {lv lk pu fa he : Nat → Int32} {n : Nat} {nv du ta : Nat → Int32} {w : Nat} {mp mi : Nat → Int32} {k : Nat} {nt fu re : Int32}  : Met l yX0_fund (ws_ yX0_fund cX0_fund 1 (some .int)) ({ frames := 0, cells := 0, slots := 0, locals := 0 } : Room) (va_Pc [.ref (a 0)] (xI D z a lv lk pu fa he n nv du ta w mp mi k nt fu re)) (vp_Si (fun r : Int32 => r = fu)) 0 0 (fun _ => False) := by
  refine Met.ofW (cc := cX0_fund) (maxL := 1) (ret := (some .int)) (by decide) rfl ?_
  intro p e s m args below meth c s₁ B hml hv
  obtain ⟨rfl, hP, hK⟩ := hv
  have hx := B.exec
  have hb := B.bytes
  have hr := B.returns
  have hts := atoms_spec (ws := ws_ yX0_fund cX0_fund 1 (some .int)) B.pre
  have hts : ∀ w ∈ lw_all, w.before _ s = true := fun w h => hts w (List.mem_cons_of_mem _ h)
  have hown : s.vm.findClass RX0 = some m.cls := findClass_of_methodNamed B.named
  have hlocks := B.notSynchronized
  have hC : CallFix p m c cX0_fund 1 s _ lw_all RX0 := ⟨hx, hb, hml, hown, hts⟩
  have hl := lv_entry ([.ref (a 0)]) (n := 1) (Nat.le_of_ble_eq_true rfl)
  rw [lg_entry_eq]
  generalize (lg_sl ([.ref (a 0)]) ++ List.replicate (1 - (lg_sl ([.ref (a 0)])).length) Slot.unset).toArray = ls at hl ⊢
  have hl : lv_has ls 1 [(0, .ref (a 0))] := hl
  refine lv_aload_n hx hb dX0_fund_0 rfl (lv_at hl 0 rfl) ?_
  refine xg_fu hC hK hP dX0_fund_1 ?_
  exact W.iret (v := fu) hx hb hr (fun t ht hW => ⟨fu, rfl, rfl, ht⟩) (fun q hq => absurd hq List.not_mem_nil) dX0_fund_4
set_option maxHeartbeats 4000000 in
set_option maxRecDepth 100000 in
theorem c_X0_refunded (l : Launch) {D : va_G} {z : ClassId × ClassId} {a : Nat → Nat} {lv lk pu fa he : Nat → Int32} {n : Nat} {nv du ta : Nat → Int32} {w : Nat} {mp mi : Nat → Int32} {k : Nat} {nt fu re : Int32}  : Met l yX0_refunded (ws_ yX0_refunded cX0_refunded 1 (some .int)) ({ frames := 0, cells := 0, slots := 0, locals := 0 } : Room) (va_Pc [.ref (a 0)] (xI D z a lv lk pu fa he n nv du ta w mp mi k nt fu re)) (vp_Si (fun r : Int32 => r = re)) 0 0 (fun _ => False) := by
  refine Met.ofW (cc := cX0_refunded) (maxL := 1) (ret := (some .int)) (by decide) rfl ?_
  intro p e s m args below meth c s₁ B hml hv
  obtain ⟨rfl, hP, hK⟩ := hv
  have hx := B.exec
  have hb := B.bytes
  have hr := B.returns
  have hts := atoms_spec (ws := ws_ yX0_refunded cX0_refunded 1 (some .int)) B.pre
  have hts : ∀ w ∈ lw_all, w.before _ s = true := fun w h => hts w (List.mem_cons_of_mem _ h)
  have hown : s.vm.findClass RX0 = some m.cls := findClass_of_methodNamed B.named
  have hlocks := B.notSynchronized
  have hC : CallFix p m c cX0_refunded 1 s _ lw_all RX0 := ⟨hx, hb, hml, hown, hts⟩
  have hl := lv_entry ([.ref (a 0)]) (n := 1) (Nat.le_of_ble_eq_true rfl)
  rw [lg_entry_eq]
  generalize (lg_sl ([.ref (a 0)]) ++ List.replicate (1 - (lg_sl ([.ref (a 0)])).length) Slot.unset).toArray = ls at hl ⊢
  have hl : lv_has ls 1 [(0, .ref (a 0))] := hl
  refine lv_aload_n hx hb dX0_refunded_0 rfl (lv_at hl 0 rfl) ?_
  refine xg_re hC hK hP dX0_refunded_1 ?_
  exact W.iret (v := re) hx hb hr (fun t ht hW => ⟨re, rfl, rfl, ht⟩) (fun q hq => absurd hq List.not_mem_nil) dX0_refunded_4
set_option maxHeartbeats 4000000 in
set_option maxRecDepth 100000 in
theorem c_X0_misses (l : Launch) {D : va_G} {z : ClassId × ClassId} {a : Nat → Nat} {lv lk pu fa he : Nat → Int32} {n : Nat} {nv du ta : Nat → Int32} {w : Nat} {mp mi : Nat → Int32} {k : Nat} {nt fu re : Int32}  : Met l yX0_misses (ws_ yX0_misses cX0_misses 1 (some .int)) ({ frames := 0, cells := 0, slots := 0, locals := 0 } : Room) (va_Pc [.ref (a 0)] (xI D z a lv lk pu fa he n nv du ta w mp mi k nt fu re)) (vp_Si (fun r : Int32 => r = nI k)) 0 0 (fun _ => False) := by
  refine Met.ofW (cc := cX0_misses) (maxL := 1) (ret := (some .int)) (by decide) rfl ?_
  intro p e s m args below meth c s₁ B hml hv
  obtain ⟨rfl, hP, hK⟩ := hv
  have hx := B.exec
  have hb := B.bytes
  have hr := B.returns
  have hts := atoms_spec (ws := ws_ yX0_misses cX0_misses 1 (some .int)) B.pre
  have hts : ∀ w ∈ lw_all, w.before _ s = true := fun w h => hts w (List.mem_cons_of_mem _ h)
  have hown : s.vm.findClass RX0 = some m.cls := findClass_of_methodNamed B.named
  have hlocks := B.notSynchronized
  have hC : CallFix p m c cX0_misses 1 s _ lw_all RX0 := ⟨hx, hb, hml, hown, hts⟩
  have hl := lv_entry ([.ref (a 0)]) (n := 1) (Nat.le_of_ble_eq_true rfl)
  rw [lg_entry_eq]
  generalize (lg_sl ([.ref (a 0)]) ++ List.replicate (1 - (lg_sl ([.ref (a 0)])).length) Slot.unset).toArray = ls at hl ⊢
  have hl : lv_has ls 1 [(0, .ref (a 0))] := hl
  refine lv_aload_n hx hb dX0_misses_0 rfl (lv_at hl 0 rfl) ?_
  refine xg_k hC hK hP dX0_misses_1 ?_
  exact W.iret (v := nI k) hx hb hr (fun t ht hW => ⟨nI k, rfl, rfl, ht⟩) (fun q hq => absurd hq List.not_mem_nil) dX0_misses_4
set_option maxHeartbeats 4000000 in
set_option maxRecDepth 100000 in
theorem c_X0_tale (l : Launch) {D : va_G} {z : ClassId × ClassId} {a : Nat → Nat} {lv lk pu fa he : Nat → Int32} {n : Nat} {nv du ta : Nat → Int32} {w : Nat} {mp mi : Nat → Int32} {k : Nat} {nt fu re : Int32} (i : Nat) (hi : i < 6) (b : Int32) : Met l yX0_tale (ws_ yX0_tale cX0_tale 3 (some .int)) ({ frames := 1, cells := 0, slots := 0, locals := 21 } : Room) (va_Pc [.ref (a 0), .int (nI i), .int b] (xI D z a lv lk pu fa he n nv du ta w mp mi k nt fu re)) (vp_Si (fun r : Int32 => r = sp_tale (nv i) b)) 0 0 (fun _ => False) := by
  refine Met.ofW (cc := cX0_tale) (maxL := 3) (ret := (some .int)) (by decide) rfl ?_
  intro p e s m args below meth c s₁ B hml hv
  obtain ⟨rfl, hP, hK⟩ := hv
  have hx := B.exec
  have hb := B.bytes
  have hr := B.returns
  have hts := atoms_spec (ws := ws_ yX0_tale cX0_tale 3 (some .int)) B.pre
  have hts : ∀ w ∈ lw_all, w.before _ s = true := fun w h => hts w (List.mem_cons_of_mem _ h)
  have hown : s.vm.findClass RX0 = some m.cls := findClass_of_methodNamed B.named
  have hlocks := B.notSynchronized
  have hC : CallFix p m c cX0_tale 3 s _ lw_all RX0 := ⟨hx, hb, hml, hown, hts⟩
  have hl := lv_entry ([.ref (a 0), .int (nI i), .int b]) (n := 3) (Nat.le_of_ble_eq_true rfl)
  rw [lg_entry_eq]
  generalize (lg_sl ([.ref (a 0), .int (nI i), .int b]) ++ List.replicate (3 - (lg_sl ([.ref (a 0), .int (nI i), .int b])).length) Slot.unset).toArray = ls at hl ⊢
  have hl : lv_has ls 3 [(0, .ref (a 0)), (1, .int (nI i)), (2, .int b)] := hl
  refine lv_aload_n hx hb dX0_tale_0 rfl (lv_at hl 0 rfl) ?_
  refine lv_iload_n hx hb dX0_tale_1 rfl (lv_at hl 1 rfl) ?_
  refine k_X0_isShaken hC hK hP hl.1 ⟨Nat.le_of_ble_eq_true rfl, Nat.le_of_ble_eq_true rfl⟩ ⟨Nat.zero_le _, Nat.zero_le _⟩ (Nat.le_of_ble_eq_true rfl) rfl (by first | assumption | omega) dX0_tale_2 ?_
  refine lv_if_eq (tgt := 10) hx hb dX0_tale_5 (by decide) (fun c_5 => ?_) (fun c_5 => ?_)
  · refine lv_iconst (v := 1) hx hb dX0_tale_10 (by decide) ?_
    refine lv_iload_n hx hb dX0_tale_11 rfl (lv_at hl 2 rfl) ?_
    refine lv_bipush (v := 9) hx hb dX0_tale_12 (by decide) ?_
    refine lv_aload_n hx hb dX0_tale_14 rfl (lv_at hl 0 rfl) ?_
    refine xg_nv hC hK hP dX0_tale_15 ?_
    refine lv_iload_n hx hb dX0_tale_18 rfl (lv_at hl 1 rfl) ?_
    refine xl_nv hC hK hP i rfl (by omega) dX0_tale_19 ?_
    refine lv_isub hx hb dX0_tale_20 ?_
    refine lv_iconst (v := 2) hx hb dX0_tale_21 (by decide) ?_
    refine lv_idiv hx hb dX0_tale_22 (by decide) ?_
    refine lv_isub hx hb dX0_tale_23 ?_
    refine va_mmax hx hb (hml.trans hl.1.symm) hown (hts _ mM_X0_102) (hts _ mT_max) (hts _ mI_Math) (hts _ mC_max) (Nat.le_of_ble_eq_true rfl) (Nat.le_of_ble_eq_true rfl) (Nat.zero_le _) (Nat.zero_le _) dX0_tale_24 ?_
    exact W.iret (v := imax 1 (b - ((9 - (nv i)) / 2))) hx hb hr (fun t ht hW => ⟨imax 1 (b - ((9 - (nv i)) / 2)), rfl, (by simp [sp_tale, c_5]), ht⟩) (fun q hq => absurd hq List.not_mem_nil) dX0_tale_27
  · refine lv_iconst (v := 0) hx hb dX0_tale_8 (by decide) ?_
    exact W.iret (v := 0) hx hb hr (fun t ht hW => ⟨0, rfl, (by simp [sp_tale, c_5]), ht⟩) (fun q hq => absurd hq List.not_mem_nil) dX0_tale_9
set_option maxRecDepth 100000 in
theorem k_X0_tale {p : Program} {l : Launch} {e : Env} {R : Room} {s : State} {m : MethodId} {args : Array Value} {below : List Frame} {meth : Method} {c : Code} {H : Heap} {locs : List Loc} {cells slots : Nat} {Q : State → Prop} {D : va_G} {z : ClassId × ClassId} {a : Nat → Nat} {lv lk pu fa he : Nat → Int32} {n : Nat} {nv du ta : Nat → Int32} {w : Nat} {mp mi : Nat → Int32} {k : Nat} {nt fu re : Int32} {cc : ByteArray} {nL pc : Nat} {ls : Array Slot} {rest : List Value} (hC : CallFix p m c cc nL s args lw_all RX0) (hK : kK D z s) (hP : va_P D vwCl (xW z a lv lk pu fa he n nv du ta w mp mi k nt fu re) H) (hl : ls.size = nL) (hR : 2 ≤ R.frames ∧ 43 ≤ R.locals) (hz : cells ≤ R.cells ∧ slots ≤ R.slots) (hr : (rest.map fun v => v.category).sum ≤ 8) {i : Nat} {b : Int32} {x0 : Int32} (hx0 : x0 = nI i) (hi : i < 6) (hdg : decode cc pc = .ok (.invokevirtual 142, 3)) (kk : W p l e R s m args below meth c H locs cells slots Q (F0 m (pc + 3) ls (.int (sp_tale (nv i) b) :: rest))) : W p l e R s m args below meth c H locs cells slots Q (F0 m pc ls (.int b :: .int x0 :: .ref (a 0) :: rest)) := by
  subst hx0
  exact vp_callSi (W.runV (As := [.int (nI i), .int b]) (rest := rest) hC (c_X0_tale l i hi b) (cwV 2 hC.2.2.2.2 (gi_V mM_X0_142 mV_X0_tale mS_X0_tale mI_MissRegistry mC_X0_tale) rfl rfl rfl (by decide +kernel) hR) (xpre hK hP) rfl rfl hl rfl (lv_room hr) hdg hz) (fun r hr => by rw [hr]; exact kk)
set_option maxHeartbeats 4000000 in
set_option maxRecDepth 100000 in
theorem c_X0_findLastHeir (l : Launch) {D : va_G} {z : ClassId × ClassId} {a : Nat → Nat} {lv lk pu fa he : Nat → Int32} {n : Nat} {nv du ta : Nat → Int32} {w : Nat} {mp mi : Nat → Int32} {k : Nat} {nt fu re : Int32} (i : Nat) (hi : i < 10) (hn : n ≤ 10) : Met l yX0_findLastHeir (ws_ yX0_findLastHeir cX0_findLastHeir 4 (some .int)) ({ frames := 1, cells := 0, slots := 0, locals := 21 } : Room) (va_Pc [.ref (a 0), .int (nI i)] (xI D z a lv lk pu fa he n nv du ta w mp mi k nt fu re)) (vp_Si (fun r : Int32 => r = sp_heir he lv n i n (he i))) 0 0 (fun _ => False) := by
  refine Met.ofW (cc := cX0_findLastHeir) (maxL := 4) (ret := (some .int)) (by decide) rfl ?_
  intro p e s m args below meth c s₁ B hml hv
  obtain ⟨rfl, hP, hK⟩ := hv
  have hx := B.exec
  have hb := B.bytes
  have hr := B.returns
  have hts := atoms_spec (ws := ws_ yX0_findLastHeir cX0_findLastHeir 4 (some .int)) B.pre
  have hts : ∀ w ∈ lw_all, w.before _ s = true := fun w h => hts w (List.mem_cons_of_mem _ h)
  have hown : s.vm.findClass RX0 = some m.cls := findClass_of_methodNamed B.named
  have hlocks := B.notSynchronized
  have hC : CallFix p m c cX0_findLastHeir 4 s _ lw_all RX0 := ⟨hx, hb, hml, hown, hts⟩
  have hl := lv_entry ([.ref (a 0), .int (nI i)]) (n := 4) (Nat.le_of_ble_eq_true rfl)
  rw [lg_entry_eq]
  generalize (lg_sl ([.ref (a 0), .int (nI i)]) ++ List.replicate (4 - (lg_sl ([.ref (a 0), .int (nI i)])).length) Slot.unset).toArray = ls at hl ⊢
  have hl : lv_has ls 4 [(0, .ref (a 0)), (1, .int (nI i))] := hl
  refine lv_aload_n hx hb dX0_findLastHeir_0 rfl (lv_at hl 0 rfl) ?_
  refine xg_he hC hK hP dX0_findLastHeir_1 ?_
  refine lv_iload_n hx hb dX0_findLastHeir_4 rfl (lv_at hl 1 rfl) ?_
  refine xl_he hC hK hP i rfl (by omega) dX0_findLastHeir_5 ?_
  refine lv_istore_n (lv' := [(2, .int (he i)), (0, .ref (a 0)), (1, .int (nI i))]) hx hb dX0_findLastHeir_6 rfl hl (by decide) rfl (fun ls hl => ?_)
  refine lv_iconst (v := 0) hx hb dX0_findLastHeir_7 (by decide) ?_
  refine lv_istore_n (lv' := [(3, .int 0), (2, .int (he i)), (0, .ref (a 0)), (1, .int (nI i))]) hx hb dX0_findLastHeir_8 rfl hl (by decide) rfl (fun ls hl => ?_)
  have loop_9 : ∀ (f : Nat) (j : Nat) (x : Int32), j ≤ n → j + f = n + 1 → sp_heir he lv n i (n - j) x = sp_heir he lv n i n (he i) → ∀ ls : Array Slot, lv_has ls 4 [(0, .ref (a 0)), (1, .int (nI i)), (2, .int x), (3, .int (nI j))] → W p l e ({ frames := 1, cells := 0, slots := 0, locals := 21 } : Room) s m ([.ref (a 0), .int (nI i)] : List Value).toArray below meth c s.heap [] 0 0 (MQ below (vp_Si (fun r : Int32 => r = sp_heir he lv n i n (he i))) ([.ref (a 0), .int (nI i)] : List Value).toArray s 0 0 (fun _ => False)) (F0 m 9 ls []) := by
    intro f
    induction f with
    | zero =>
      intro j x hj hf er
      exact absurd hf (by omega)
    | succ f ih9 =>
      intro j x hj hf er ls hl
      refine lv_iload_n hx hb dX0_findLastHeir_9 rfl (lv_at hl 3 rfl) ?_
      refine lv_aload_n hx hb dX0_findLastHeir_10 rfl (lv_at hl 0 rfl) ?_
      refine xg_n hC hK hP dX0_findLastHeir_11 ?_
      refine lv_icmp_ge (tgt := 56) hx hb dX0_findLastHeir_14 (by decide) (fun c_14 => ?_) (fun c_14 => ?_)
      · have nc_14 : n ≤ j := nn_le (by omega) c_14
        refine lv_iconst (v := (-1)) hx hb dX0_findLastHeir_56 (by decide) ?_
        exact W.iret (v := (-1)) hx hb hr (fun t ht hW => ⟨(-1), rfl, (by rw [← er, show n - j = 0 by omega]; rfl), ht⟩) (fun q hq => absurd hq List.not_mem_nil) dX0_findLastHeir_57
      · have nc_14 : j < n := nn_nle (by omega) c_14
        refine lv_aload_n hx hb dX0_findLastHeir_17 rfl (lv_at hl 0 rfl) ?_
        refine lv_iload_n hx hb dX0_findLastHeir_18 rfl (lv_at hl 2 rfl) ?_
        refine k_X0_isPerson hC hK hP hl.1 ⟨Nat.le_of_ble_eq_true rfl, Nat.le_of_ble_eq_true rfl⟩ ⟨Nat.zero_le _, Nat.zero_le _⟩ (Nat.le_of_ble_eq_true rfl)   dX0_findLastHeir_19 ?_
        refine lv_if_eq (tgt := 30) hx hb dX0_findLastHeir_22 (by decide) (fun c_22 => ?_) (fun c_22 => ?_)
        · refine lv_iconst (v := (-1)) hx hb dX0_findLastHeir_30 (by decide) ?_
          exact W.iret (v := (-1)) hx hb hr (fun t ht hW => ⟨(-1), rfl, (by rw [← er, show n - j = (n - (j + 1)) + 1 by omega]; simp [sp_heir, c_22]), ht⟩) (fun q hq => absurd hq List.not_mem_nil) dX0_findLastHeir_31
        · refine lv_iload_n hx hb dX0_findLastHeir_25 rfl (lv_at hl 2 rfl) ?_
          refine lv_iload_n hx hb dX0_findLastHeir_26 rfl (lv_at hl 1 rfl) ?_
          refine lv_icmp_ne (tgt := 32) hx hb dX0_findLastHeir_27 (by decide) (fun c_27 => ?_) (fun c_27 => ?_)
          · obtain ⟨y, hyn, hy⟩ := isP_ex (by omega) c_22
            have eNy : x.toNatClampNeg = y := by rw [hy]; exact nI_clamp (by omega)
            refine lv_aload_n hx hb dX0_findLastHeir_32 rfl (lv_at hl 0 rfl) ?_
            refine xg_lv hC hK hP dX0_findLastHeir_33 ?_
            refine lv_iload_n hx hb dX0_findLastHeir_36 rfl (lv_at hl 2 rfl) ?_
            refine xl_lv hC hK hP y hy (by omega) dX0_findLastHeir_37 ?_
            refine lv_if_eq (tgt := 43) hx hb dX0_findLastHeir_38 (by decide) (fun c_38 => ?_) (fun c_38 => ?_)
            · refine lv_aload_n hx hb dX0_findLastHeir_43 rfl (lv_at hl 0 rfl) ?_
              refine xg_he hC hK hP dX0_findLastHeir_44 ?_
              refine lv_iload_n hx hb dX0_findLastHeir_47 rfl (lv_at hl 2 rfl) ?_
              refine xl_he hC hK hP y hy (by omega) dX0_findLastHeir_48 ?_
              refine lv_istore_n (lv' := [(2, .int (he y)), (0, .ref (a 0)), (1, .int (nI i)), (3, .int (nI j))]) hx hb dX0_findLastHeir_49 rfl hl (by decide) rfl (fun ls hl => ?_)
              refine lv_iinc (v := nI (j + 1)) (lv' := [(3, .int (nI (j + 1))), (2, .int (he y)), (0, .ref (a 0)), (1, .int (nI i))]) hx hb dX0_findLastHeir_50 hl (k := 3) rfl (nI_1 _) (by decide) rfl (fun ls hl => ?_)
              refine lv_goto (tgt := 9) hx hb dX0_findLastHeir_53 (by decide) ?_
              exact ih9 (j + 1) (he y) (by omega) (by omega) (by rw [← er, show n - j = (n - (j + 1)) + 1 by omega]; simp [sp_heir, c_22, c_27, eNy, c_38]) _ (lv_sub hl [2, 3, 1, 0] rfl)
            · refine lv_iload_n hx hb dX0_findLastHeir_41 rfl (lv_at hl 2 rfl) ?_
              exact W.iret (v := x) hx hb hr (fun t ht hW => ⟨x, rfl, (by rw [← er, show n - j = (n - (j + 1)) + 1 by omega]; simp [sp_heir, c_22, c_27, c_38, eNy]), ht⟩) (fun q hq => absurd hq List.not_mem_nil) dX0_findLastHeir_42
          · refine lv_iconst (v := (-1)) hx hb dX0_findLastHeir_30 (by decide) ?_
            exact W.iret (v := (-1)) hx hb hr (fun t ht hW => ⟨(-1), rfl, (by rw [← er, show n - j = (n - (j + 1)) + 1 by omega]; simp [sp_heir, c_22, c_27]), ht⟩) (fun q hq => absurd hq List.not_mem_nil) dX0_findLastHeir_31
  exact loop_9 (n + 1) 0 (he i) (by omega) (by omega) rfl _ (lv_sub hl [2, 3, 1, 0] rfl)
set_option maxRecDepth 100000 in
theorem k_X0_findLastHeir {p : Program} {l : Launch} {e : Env} {R : Room} {s : State} {m : MethodId} {args : Array Value} {below : List Frame} {meth : Method} {c : Code} {H : Heap} {locs : List Loc} {cells slots : Nat} {Q : State → Prop} {D : va_G} {z : ClassId × ClassId} {a : Nat → Nat} {lv lk pu fa he : Nat → Int32} {n : Nat} {nv du ta : Nat → Int32} {w : Nat} {mp mi : Nat → Int32} {k : Nat} {nt fu re : Int32} {cc : ByteArray} {nL pc : Nat} {ls : Array Slot} {rest : List Value} (hC : CallFix p m c cc nL s args lw_all RX0) (hK : kK D z s) (hP : va_P D vwCl (xW z a lv lk pu fa he n nv du ta w mp mi k nt fu re) H) (hl : ls.size = nL) (hR : 2 ≤ R.frames ∧ 44 ≤ R.locals) (hz : cells ≤ R.cells ∧ slots ≤ R.slots) (hr : (rest.map fun v => v.category).sum ≤ 8) {i : Nat} {x0 : Int32} (hx0 : x0 = nI i) (hi : i < 10) (hn : n ≤ 10) (hdg : decode cc pc = .ok (.invokevirtual 114, 3)) (kk : W p l e R s m args below meth c H locs cells slots Q (F0 m (pc + 3) ls (.int (sp_heir he lv n i n (he i)) :: rest))) : W p l e R s m args below meth c H locs cells slots Q (F0 m pc ls (.int x0 :: .ref (a 0) :: rest)) := by
  subst hx0
  exact vp_callSi (W.runV (As := [.int (nI i)]) (rest := rest) hC (c_X0_findLastHeir l i hi hn) (cwV 1 hC.2.2.2.2 (gi_V mM_X0_114 mV_X0_findLastHeir mS_X0_findLastHeir mI_MissRegistry mC_X0_findLastHeir) rfl rfl rfl (by decide +kernel) hR) (xpre hK hP) rfl rfl hl rfl (lv_room hr) hdg hz) (fun r hr => by rw [hr]; exact kk)
end
section
theorem nar_bool {v : Int32} (h : v = 0 ∨ v = 1) : narrow .boolean (.int v) = .int v := by rcases h with rfl | rfl <;> rfl
def sp_musN (v g : Int32) : Nat → Nat → Nat
  | 0, k => k
  | f + 1, k => if 9 ≤ k then k else if v - nI k * g ≤ 2 then k else sp_musN v g f (k + 1)
def sp_mus (nv du : Nat → Int32) (w : Nat) (b : Int32) : Int32 := if sp_isP w (sp_best du nv w).1 = 0 then 0 else nI (sp_musN (nv (sp_best du nv w).1.toNatClampNeg) (sp_loss b) 10 0)

set_option maxHeartbeats 4000000 in
set_option maxRecDepth 100000 in
theorem c_X0_requirePerson (l : Launch) {D : va_G} {z : ClassId × ClassId} {a : Nat → Nat} {lv lk pu fa he : Nat → Int32} {n : Nat} {nv du ta : Nat → Int32} {w : Nat} {mp mi : Nat → Int32} {k : Nat} {nt fu re : Int32} (i : Nat) (hi : i < n) (hn : n ≤ 10) : Met l yX0_requirePerson (ws_ yX0_requirePerson cX0_requirePerson 2 none) ({ frames := 1, cells := 0, slots := 0, locals := 21 } : Room) (va_Pc [.ref (a 0), .int (nI i)] (xI D z a lv lk pu fa he n nv du ta w mp mi k nt fu re)) (va_Sv (fun _ => True)) 0 0 (fun _ => False) := by
  refine Met.ofW (cc := cX0_requirePerson) (maxL := 2) (ret := none) (by decide) rfl ?_
  intro p e s m args below meth c s₁ B hml hv
  obtain ⟨rfl, hP, hK⟩ := hv
  have hx := B.exec
  have hb := B.bytes
  have hr := B.returns
  have hts := atoms_spec (ws := ws_ yX0_requirePerson cX0_requirePerson 2 none) B.pre
  have hts : ∀ w ∈ lw_all, w.before _ s = true := fun w h => hts w (List.mem_cons_of_mem _ h)
  have hown : s.vm.findClass RX0 = some m.cls := findClass_of_methodNamed B.named
  have hlocks := B.notSynchronized
  have hC : CallFix p m c cX0_requirePerson 2 s _ lw_all RX0 := ⟨hx, hb, hml, hown, hts⟩
  have hl := lv_entry ([.ref (a 0), .int (nI i)]) (n := 2) (Nat.le_of_ble_eq_true rfl)
  rw [lg_entry_eq]
  generalize (lg_sl ([.ref (a 0), .int (nI i)]) ++ List.replicate (2 - (lg_sl ([.ref (a 0), .int (nI i)])).length) Slot.unset).toArray = ls at hl ⊢
  have hl : lv_has ls 2 [(0, .ref (a 0)), (1, .int (nI i))] := hl
  refine lv_aload_n hx hb dX0_requirePerson_0 rfl (lv_at hl 0 rfl) ?_
  refine lv_iload_n hx hb dX0_requirePerson_1 rfl (lv_at hl 1 rfl) ?_
  refine k_X0_isPerson hC hK hP hl.1 ⟨Nat.le_of_ble_eq_true rfl, Nat.le_of_ble_eq_true rfl⟩ ⟨Nat.zero_le _, Nat.zero_le _⟩ (Nat.le_of_ble_eq_true rfl)   dX0_requirePerson_2 ?_
  refine lv_if_ne (tgt := 18) hx hb dX0_requirePerson_5 (by decide) (fun c_5 => ?_) (fun c_5 => ?_)
  · exact W.vret hx hb hr (fun t ht hW => ⟨rfl, trivial, ht⟩) (fun q hq => absurd hq List.not_mem_nil) dX0_requirePerson_18
  · exact absurd c_5 (by rw [isP_in (by omega) hi]; decide)
set_option maxRecDepth 100000 in
theorem k_X0_requirePerson {p : Program} {l : Launch} {e : Env} {R : Room} {s : State} {m : MethodId} {args : Array Value} {below : List Frame} {meth : Method} {c : Code} {H : Heap} {locs : List Loc} {cells slots : Nat} {Q : State → Prop} {D : va_G} {z : ClassId × ClassId} {a : Nat → Nat} {lv lk pu fa he : Nat → Int32} {n : Nat} {nv du ta : Nat → Int32} {w : Nat} {mp mi : Nat → Int32} {k : Nat} {nt fu re : Int32} {cc : ByteArray} {nL pc : Nat} {ls : Array Slot} {rest : List Value} (hC : CallFix p m c cc nL s args lw_all RX0) (hK : kK D z s) (hP : va_P D vwCl (xW z a lv lk pu fa he n nv du ta w mp mi k nt fu re) H) (hl : ls.size = nL) (hR : 2 ≤ R.frames ∧ 42 ≤ R.locals) (hz : cells ≤ R.cells ∧ slots ≤ R.slots) (hr : (rest.map fun v => v.category).sum ≤ 8) {i : Nat} {x0 : Int32} (hx0 : x0 = nI i) (hi : i < n) (hn : n ≤ 10) (hdg : decode cc pc = .ok (.invokevirtual 64, 3)) (kk : W p l e R s m args below meth c H locs cells slots Q (F0 m (pc + 3) ls rest)) : W p l e R s m args below meth c H locs cells slots Q (F0 m pc ls (.int x0 :: .ref (a 0) :: rest)) := by
  subst hx0
  exact va_csv (W.runV (As := [.int (nI i)]) (rest := rest) hC (c_X0_requirePerson l i hi hn) (cwV 1 hC.2.2.2.2 (gi_V mM_X0_64 mV_X0_requirePerson mS_X0_requirePerson mI_MissRegistry mC_X0_requirePerson) rfl rfl rfl (by decide +kernel) hR) (xpre hK hP) rfl rfl hl rfl (lv_room hr) hdg hz) (fun _ => kk)
set_option maxHeartbeats 4000000 in
set_option maxRecDepth 100000 in
theorem c_X0_requireWitness (l : Launch) {D : va_G} {z : ClassId × ClassId} {a : Nat → Nat} {lv lk pu fa he : Nat → Int32} {n : Nat} {nv du ta : Nat → Int32} {w : Nat} {mp mi : Nat → Int32} {k : Nat} {nt fu re : Int32} (i : Nat) (hi : i < w) (hw : w ≤ 6) : Met l yX0_requireWitness (ws_ yX0_requireWitness cX0_requireWitness 2 none) ({ frames := 1, cells := 0, slots := 0, locals := 21 } : Room) (va_Pc [.ref (a 0), .int (nI i)] (xI D z a lv lk pu fa he n nv du ta w mp mi k nt fu re)) (va_Sv (fun _ => True)) 0 0 (fun _ => False) := by
  refine Met.ofW (cc := cX0_requireWitness) (maxL := 2) (ret := none) (by decide) rfl ?_
  intro p e s m args below meth c s₁ B hml hv
  obtain ⟨rfl, hP, hK⟩ := hv
  have hx := B.exec
  have hb := B.bytes
  have hr := B.returns
  have hts := atoms_spec (ws := ws_ yX0_requireWitness cX0_requireWitness 2 none) B.pre
  have hts : ∀ w ∈ lw_all, w.before _ s = true := fun w h => hts w (List.mem_cons_of_mem _ h)
  have hown : s.vm.findClass RX0 = some m.cls := findClass_of_methodNamed B.named
  have hlocks := B.notSynchronized
  have hC : CallFix p m c cX0_requireWitness 2 s _ lw_all RX0 := ⟨hx, hb, hml, hown, hts⟩
  have hl := lv_entry ([.ref (a 0), .int (nI i)]) (n := 2) (Nat.le_of_ble_eq_true rfl)
  rw [lg_entry_eq]
  generalize (lg_sl ([.ref (a 0), .int (nI i)]) ++ List.replicate (2 - (lg_sl ([.ref (a 0), .int (nI i)])).length) Slot.unset).toArray = ls at hl ⊢
  have hl : lv_has ls 2 [(0, .ref (a 0)), (1, .int (nI i))] := hl
  refine lv_aload_n hx hb dX0_requireWitness_0 rfl (lv_at hl 0 rfl) ?_
  refine lv_iload_n hx hb dX0_requireWitness_1 rfl (lv_at hl 1 rfl) ?_
  refine k_X0_isWitness hC hK hP hl.1 ⟨Nat.le_of_ble_eq_true rfl, Nat.le_of_ble_eq_true rfl⟩ ⟨Nat.zero_le _, Nat.zero_le _⟩ (Nat.le_of_ble_eq_true rfl)   dX0_requireWitness_2 ?_
  refine lv_if_ne (tgt := 18) hx hb dX0_requireWitness_5 (by decide) (fun c_5 => ?_) (fun c_5 => ?_)
  · exact W.vret hx hb hr (fun t ht hW => ⟨rfl, trivial, ht⟩) (fun q hq => absurd hq List.not_mem_nil) dX0_requireWitness_18
  · exact absurd c_5 (by rw [isP_in (by omega) hi]; decide)
set_option maxRecDepth 100000 in
theorem k_X0_requireWitness {p : Program} {l : Launch} {e : Env} {R : Room} {s : State} {m : MethodId} {args : Array Value} {below : List Frame} {meth : Method} {c : Code} {H : Heap} {locs : List Loc} {cells slots : Nat} {Q : State → Prop} {D : va_G} {z : ClassId × ClassId} {a : Nat → Nat} {lv lk pu fa he : Nat → Int32} {n : Nat} {nv du ta : Nat → Int32} {w : Nat} {mp mi : Nat → Int32} {k : Nat} {nt fu re : Int32} {cc : ByteArray} {nL pc : Nat} {ls : Array Slot} {rest : List Value} (hC : CallFix p m c cc nL s args lw_all RX0) (hK : kK D z s) (hP : va_P D vwCl (xW z a lv lk pu fa he n nv du ta w mp mi k nt fu re) H) (hl : ls.size = nL) (hR : 2 ≤ R.frames ∧ 42 ≤ R.locals) (hz : cells ≤ R.cells ∧ slots ≤ R.slots) (hr : (rest.map fun v => v.category).sum ≤ 8) {i : Nat} {x0 : Int32} (hx0 : x0 = nI i) (hi : i < w) (hw : w ≤ 6) (hdg : decode cc pc = .ok (.invokevirtual 84, 3)) (kk : W p l e R s m args below meth c H locs cells slots Q (F0 m (pc + 3) ls rest)) : W p l e R s m args below meth c H locs cells slots Q (F0 m pc ls (.int x0 :: .ref (a 0) :: rest)) := by
  subst hx0
  exact va_csv (W.runV (As := [.int (nI i)]) (rest := rest) hC (c_X0_requireWitness l i hi hw) (cwV 1 hC.2.2.2.2 (gi_V mM_X0_84 mV_X0_requireWitness mS_X0_requireWitness mI_MissRegistry mC_X0_requireWitness) rfl rfl rfl (by decide +kernel) hR) (xpre hK hP) rfl rfl hl rfl (lv_room hr) hdg hz) (fun _ => kk)
set_option maxHeartbeats 4000000 in
set_option maxRecDepth 100000 in
theorem c_X0_requireAlive (l : Launch) {D : va_G} {z : ClassId × ClassId} {a : Nat → Nat} {lv lk pu fa he : Nat → Int32} {n : Nat} {nv du ta : Nat → Int32} {w : Nat} {mp mi : Nat → Int32} {k : Nat} {nt fu re : Int32} (i : Nat) (hi : i < 10) (ha : ¬ lv i = 0) : Met l yX0_requireAlive (ws_ yX0_requireAlive cX0_requireAlive 2 none) ({ frames := 0, cells := 0, slots := 0, locals := 0 } : Room) (va_Pc [.ref (a 0), .int (nI i)] (xI D z a lv lk pu fa he n nv du ta w mp mi k nt fu re)) (va_Sv (fun _ => True)) 0 0 (fun _ => False) := by
  refine Met.ofW (cc := cX0_requireAlive) (maxL := 2) (ret := none) (by decide) rfl ?_
  intro p e s m args below meth c s₁ B hml hv
  obtain ⟨rfl, hP, hK⟩ := hv
  have hx := B.exec
  have hb := B.bytes
  have hr := B.returns
  have hts := atoms_spec (ws := ws_ yX0_requireAlive cX0_requireAlive 2 none) B.pre
  have hts : ∀ w ∈ lw_all, w.before _ s = true := fun w h => hts w (List.mem_cons_of_mem _ h)
  have hown : s.vm.findClass RX0 = some m.cls := findClass_of_methodNamed B.named
  have hlocks := B.notSynchronized
  have hC : CallFix p m c cX0_requireAlive 2 s _ lw_all RX0 := ⟨hx, hb, hml, hown, hts⟩
  have hl := lv_entry ([.ref (a 0), .int (nI i)]) (n := 2) (Nat.le_of_ble_eq_true rfl)
  rw [lg_entry_eq]
  generalize (lg_sl ([.ref (a 0), .int (nI i)]) ++ List.replicate (2 - (lg_sl ([.ref (a 0), .int (nI i)])).length) Slot.unset).toArray = ls at hl ⊢
  have hl : lv_has ls 2 [(0, .ref (a 0)), (1, .int (nI i))] := hl
  refine lv_aload_n hx hb dX0_requireAlive_0 rfl (lv_at hl 0 rfl) ?_
  refine xg_lv hC hK hP dX0_requireAlive_1 ?_
  refine lv_iload_n hx hb dX0_requireAlive_4 rfl (lv_at hl 1 rfl) ?_
  refine xl_lv hC hK hP i rfl (by omega) dX0_requireAlive_5 ?_
  refine lv_if_ne (tgt := 19) hx hb dX0_requireAlive_6 (by decide) (fun c_6 => ?_) (fun c_6 => ?_)
  · exact W.vret hx hb hr (fun t ht hW => ⟨rfl, trivial, ht⟩) (fun q hq => absurd hq List.not_mem_nil) dX0_requireAlive_19
  · exact absurd c_6 ha
set_option maxRecDepth 100000 in
theorem k_X0_requireAlive {p : Program} {l : Launch} {e : Env} {R : Room} {s : State} {m : MethodId} {args : Array Value} {below : List Frame} {meth : Method} {c : Code} {H : Heap} {locs : List Loc} {cells slots : Nat} {Q : State → Prop} {D : va_G} {z : ClassId × ClassId} {a : Nat → Nat} {lv lk pu fa he : Nat → Int32} {n : Nat} {nv du ta : Nat → Int32} {w : Nat} {mp mi : Nat → Int32} {k : Nat} {nt fu re : Int32} {cc : ByteArray} {nL pc : Nat} {ls : Array Slot} {rest : List Value} (hC : CallFix p m c cc nL s args lw_all RX0) (hK : kK D z s) (hP : va_P D vwCl (xW z a lv lk pu fa he n nv du ta w mp mi k nt fu re) H) (hl : ls.size = nL) (hR : 1 ≤ R.frames ∧ 21 ≤ R.locals) (hz : cells ≤ R.cells ∧ slots ≤ R.slots) (hr : (rest.map fun v => v.category).sum ≤ 8) {i : Nat} {x0 : Int32} (hx0 : x0 = nI i) (hi : i < 10) (ha : ¬ lv i = 0) (hdg : decode cc pc = .ok (.invokevirtual 70, 3)) (kk : W p l e R s m args below meth c H locs cells slots Q (F0 m (pc + 3) ls rest)) : W p l e R s m args below meth c H locs cells slots Q (F0 m pc ls (.int x0 :: .ref (a 0) :: rest)) := by
  subst hx0
  exact va_csv (W.runV (As := [.int (nI i)]) (rest := rest) hC (c_X0_requireAlive l i hi ha) (cwV 1 hC.2.2.2.2 (gi_V mM_X0_70 mV_X0_requireAlive mS_X0_requireAlive mI_MissRegistry mC_X0_requireAlive) rfl rfl rfl (by decide +kernel) hR) (xpre hK hP) rfl rfl hl rfl (lv_room hr) hdg hz) (fun _ => kk)
set_option maxHeartbeats 4000000 in
set_option maxRecDepth 100000 in
theorem c_X0_requireMiss (l : Launch) {D : va_G} {z : ClassId × ClassId} {a : Nat → Nat} {lv lk pu fa he : Nat → Int32} {n : Nat} {nv du ta : Nat → Int32} {w : Nat} {mp mi : Nat → Int32} {k : Nat} {nt fu re : Int32} (i : Nat) (hi : i < k) (hk : k ≤ 60) : Met l yX0_requireMiss (ws_ yX0_requireMiss cX0_requireMiss 2 none) ({ frames := 0, cells := 0, slots := 0, locals := 0 } : Room) (va_Pc [.ref (a 0), .int (nI i)] (xI D z a lv lk pu fa he n nv du ta w mp mi k nt fu re)) (va_Sv (fun _ => True)) 0 0 (fun _ => False) := by
  refine Met.ofW (cc := cX0_requireMiss) (maxL := 2) (ret := none) (by decide) rfl ?_
  intro p e s m args below meth c s₁ B hml hv
  obtain ⟨rfl, hP, hK⟩ := hv
  have hx := B.exec
  have hb := B.bytes
  have hr := B.returns
  have hts := atoms_spec (ws := ws_ yX0_requireMiss cX0_requireMiss 2 none) B.pre
  have hts : ∀ w ∈ lw_all, w.before _ s = true := fun w h => hts w (List.mem_cons_of_mem _ h)
  have hown : s.vm.findClass RX0 = some m.cls := findClass_of_methodNamed B.named
  have hlocks := B.notSynchronized
  have hC : CallFix p m c cX0_requireMiss 2 s _ lw_all RX0 := ⟨hx, hb, hml, hown, hts⟩
  have hl := lv_entry ([.ref (a 0), .int (nI i)]) (n := 2) (Nat.le_of_ble_eq_true rfl)
  rw [lg_entry_eq]
  generalize (lg_sl ([.ref (a 0), .int (nI i)]) ++ List.replicate (2 - (lg_sl ([.ref (a 0), .int (nI i)])).length) Slot.unset).toArray = ls at hl ⊢
  have hl : lv_has ls 2 [(0, .ref (a 0)), (1, .int (nI i))] := hl
  refine lv_iload_n hx hb dX0_requireMiss_0 rfl (lv_at hl 1 rfl) ?_
  refine lv_if_lt (tgt := 12) hx hb dX0_requireMiss_1 (by decide) (fun c_1 => ?_) (fun c_1 => ?_)
  · exact absurd c_1 (nI_pos (by omega))
  · have nc_1 : 0 ≤ i := nn_nlt (by omega) c_1
    refine lv_iload_n hx hb dX0_requireMiss_4 rfl (lv_at hl 1 rfl) ?_
    refine lv_aload_n hx hb dX0_requireMiss_5 rfl (lv_at hl 0 rfl) ?_
    refine xg_k hC hK hP dX0_requireMiss_6 ?_
    refine lv_icmp_lt (tgt := 22) hx hb dX0_requireMiss_9 (by decide) (fun c_9 => ?_) (fun c_9 => ?_)
    · have nc_9 : i < k := nn_lt (by omega) c_9
      exact W.vret hx hb hr (fun t ht hW => ⟨rfl, trivial, ht⟩) (fun q hq => absurd hq List.not_mem_nil) dX0_requireMiss_22
    · exact absurd (nI_lt hi (by omega)) c_9
set_option maxRecDepth 100000 in
theorem k_X0_requireMiss {p : Program} {l : Launch} {e : Env} {R : Room} {s : State} {m : MethodId} {args : Array Value} {below : List Frame} {meth : Method} {c : Code} {H : Heap} {locs : List Loc} {cells slots : Nat} {Q : State → Prop} {D : va_G} {z : ClassId × ClassId} {a : Nat → Nat} {lv lk pu fa he : Nat → Int32} {n : Nat} {nv du ta : Nat → Int32} {w : Nat} {mp mi : Nat → Int32} {k : Nat} {nt fu re : Int32} {cc : ByteArray} {nL pc : Nat} {ls : Array Slot} {rest : List Value} (hC : CallFix p m c cc nL s args lw_all RX0) (hK : kK D z s) (hP : va_P D vwCl (xW z a lv lk pu fa he n nv du ta w mp mi k nt fu re) H) (hl : ls.size = nL) (hR : 1 ≤ R.frames ∧ 21 ≤ R.locals) (hz : cells ≤ R.cells ∧ slots ≤ R.slots) (hr : (rest.map fun v => v.category).sum ≤ 8) {i : Nat} {x0 : Int32} (hx0 : x0 = nI i) (hi : i < k) (hk : k ≤ 60) (hdg : decode cc pc = .ok (.invokevirtual 145, 3)) (kk : W p l e R s m args below meth c H locs cells slots Q (F0 m (pc + 3) ls rest)) : W p l e R s m args below meth c H locs cells slots Q (F0 m pc ls (.int x0 :: .ref (a 0) :: rest)) := by
  subst hx0
  exact va_csv (W.runV (As := [.int (nI i)]) (rest := rest) hC (c_X0_requireMiss l i hi hk) (cwV 1 hC.2.2.2.2 (gi_V mM_X0_145 mV_X0_requireMiss mS_X0_requireMiss mI_MissRegistry mC_X0_requireMiss) rfl rfl rfl (by decide +kernel) hR) (xpre hK hP) rfl rfl hl rfl (lv_room hr) hdg hz) (fun _ => kk)
set_option maxHeartbeats 4000000 in
set_option maxRecDepth 100000 in
theorem c_X0_requireInches (l : Launch) {D : va_G} {z : ClassId × ClassId} {a : Nat → Nat} {lv lk pu fa he : Nat → Int32} {n : Nat} {nv du ta : Nat → Int32} {w : Nat} {mp mi : Nat → Int32} {k : Nat} {nt fu re : Int32} (b : Int32) (h1 : ¬ b < 1) (h2 : b ≤ 60) : Met l yX0_requireInches (ws_ yX0_requireInches cX0_requireInches 2 none) ({ frames := 0, cells := 0, slots := 0, locals := 0 } : Room) (va_Pc [.ref (a 0), .int b] (xI D z a lv lk pu fa he n nv du ta w mp mi k nt fu re)) (va_Sv (fun _ => True)) 0 0 (fun _ => False) := by
  refine Met.ofW (cc := cX0_requireInches) (maxL := 2) (ret := none) (by decide) rfl ?_
  intro p e s m args below meth c s₁ B hml hv
  obtain ⟨rfl, hP, hK⟩ := hv
  have hx := B.exec
  have hb := B.bytes
  have hr := B.returns
  have hts := atoms_spec (ws := ws_ yX0_requireInches cX0_requireInches 2 none) B.pre
  have hts : ∀ w ∈ lw_all, w.before _ s = true := fun w h => hts w (List.mem_cons_of_mem _ h)
  have hown : s.vm.findClass RX0 = some m.cls := findClass_of_methodNamed B.named
  have hlocks := B.notSynchronized
  have hC : CallFix p m c cX0_requireInches 2 s _ lw_all RX0 := ⟨hx, hb, hml, hown, hts⟩
  have hl := lv_entry ([.ref (a 0), .int b]) (n := 2) (Nat.le_of_ble_eq_true rfl)
  rw [lg_entry_eq]
  generalize (lg_sl ([.ref (a 0), .int b]) ++ List.replicate (2 - (lg_sl ([.ref (a 0), .int b])).length) Slot.unset).toArray = ls at hl ⊢
  have hl : lv_has ls 2 [(0, .ref (a 0)), (1, .int b)] := hl
  refine lv_iload_n hx hb dX0_requireInches_0 rfl (lv_at hl 1 rfl) ?_
  refine lv_iconst (v := 1) hx hb dX0_requireInches_1 (by decide) ?_
  refine lv_icmp_lt (tgt := 11) hx hb dX0_requireInches_2 (by decide) (fun c_2 => ?_) (fun c_2 => ?_)
  · exact absurd c_2 h1
  · refine lv_iload_n hx hb dX0_requireInches_5 rfl (lv_at hl 1 rfl) ?_
    refine lv_bipush (v := 60) hx hb dX0_requireInches_6 (by decide) ?_
    refine lv_icmp_le (tgt := 21) hx hb dX0_requireInches_8 (by decide) (fun c_8 => ?_) (fun c_8 => ?_)
    · exact W.vret hx hb hr (fun t ht hW => ⟨rfl, trivial, ht⟩) (fun q hq => absurd hq List.not_mem_nil) dX0_requireInches_21
    · exact absurd h2 c_8
set_option maxRecDepth 100000 in
theorem k_X0_requireInches {p : Program} {l : Launch} {e : Env} {R : Room} {s : State} {m : MethodId} {args : Array Value} {below : List Frame} {meth : Method} {c : Code} {H : Heap} {locs : List Loc} {cells slots : Nat} {Q : State → Prop} {D : va_G} {z : ClassId × ClassId} {a : Nat → Nat} {lv lk pu fa he : Nat → Int32} {n : Nat} {nv du ta : Nat → Int32} {w : Nat} {mp mi : Nat → Int32} {k : Nat} {nt fu re : Int32} {cc : ByteArray} {nL pc : Nat} {ls : Array Slot} {rest : List Value} (hC : CallFix p m c cc nL s args lw_all RX0) (hK : kK D z s) (hP : va_P D vwCl (xW z a lv lk pu fa he n nv du ta w mp mi k nt fu re) H) (hl : ls.size = nL) (hR : 1 ≤ R.frames ∧ 21 ≤ R.locals) (hz : cells ≤ R.cells ∧ slots ≤ R.slots) (hr : (rest.map fun v => v.category).sum ≤ 8) {b : Int32}  (h1 : ¬ b < 1) (h2 : b ≤ 60) (hdg : decode cc pc = .ok (.invokevirtual 87, 3)) (kk : W p l e R s m args below meth c H locs cells slots Q (F0 m (pc + 3) ls rest)) : W p l e R s m args below meth c H locs cells slots Q (F0 m pc ls (.int b :: .ref (a 0) :: rest)) := by
  exact va_csv (W.runV (As := [.int b]) (rest := rest) hC (c_X0_requireInches l b h1 h2) (cwV 1 hC.2.2.2.2 (gi_V mM_X0_87 mV_X0_requireInches mS_X0_requireInches mI_MissRegistry mC_X0_requireInches) rfl rfl rfl (by decide +kernel) hR) (xpre hK hP) rfl rfl hl rfl (lv_room hr) hdg hz) (fun _ => kk)
set_option maxHeartbeats 4000000 in
set_option maxRecDepth 100000 in
theorem c_X0_isAlive (l : Launch) {D : va_G} {z : ClassId × ClassId} {a : Nat → Nat} {lv lk pu fa he : Nat → Int32} {n : Nat} {nv du ta : Nat → Int32} {w : Nat} {mp mi : Nat → Int32} {k : Nat} {nt fu re : Int32} (i : Nat) (hi : i < n) (hn : n ≤ 10) (h01 : lv i = 0 ∨ lv i = 1) : Met l yX0_isAlive (ws_ yX0_isAlive cX0_isAlive 2 (some .boolean)) ({ frames := 2, cells := 0, slots := 0, locals := 42 } : Room) (va_Pc [.ref (a 0), .int (nI i)] (xI D z a lv lk pu fa he n nv du ta w mp mi k nt fu re)) (vp_Si (fun r : Int32 => r = lv i)) 0 0 (fun _ => False) := by
  refine Met.ofW (cc := cX0_isAlive) (maxL := 2) (ret := (some .boolean)) (by decide) rfl ?_
  intro p e s m args below meth c s₁ B hml hv
  obtain ⟨rfl, hP, hK⟩ := hv
  have hx := B.exec
  have hb := B.bytes
  have hr := B.returns
  have hts := atoms_spec (ws := ws_ yX0_isAlive cX0_isAlive 2 (some .boolean)) B.pre
  have hts : ∀ w ∈ lw_all, w.before _ s = true := fun w h => hts w (List.mem_cons_of_mem _ h)
  have hown : s.vm.findClass RX0 = some m.cls := findClass_of_methodNamed B.named
  have hlocks := B.notSynchronized
  have hC : CallFix p m c cX0_isAlive 2 s _ lw_all RX0 := ⟨hx, hb, hml, hown, hts⟩
  have hl := lv_entry ([.ref (a 0), .int (nI i)]) (n := 2) (Nat.le_of_ble_eq_true rfl)
  rw [lg_entry_eq]
  generalize (lg_sl ([.ref (a 0), .int (nI i)]) ++ List.replicate (2 - (lg_sl ([.ref (a 0), .int (nI i)])).length) Slot.unset).toArray = ls at hl ⊢
  have hl : lv_has ls 2 [(0, .ref (a 0)), (1, .int (nI i))] := hl
  refine lv_aload_n hx hb dX0_isAlive_0 rfl (lv_at hl 0 rfl) ?_
  refine lv_iload_n hx hb dX0_isAlive_1 rfl (lv_at hl 1 rfl) ?_
  refine k_X0_requirePerson hC hK hP hl.1 ⟨Nat.le_of_ble_eq_true rfl, Nat.le_of_ble_eq_true rfl⟩ ⟨Nat.zero_le _, Nat.zero_le _⟩ (Nat.le_of_ble_eq_true rfl) rfl (by first | assumption | omega) (by first | assumption | omega) dX0_isAlive_2 ?_
  refine lv_aload_n hx hb dX0_isAlive_5 rfl (lv_at hl 0 rfl) ?_
  refine xg_lv hC hK hP dX0_isAlive_6 ?_
  refine lv_iload_n hx hb dX0_isAlive_9 rfl (lv_at hl 1 rfl) ?_
  refine xl_lv hC hK hP i rfl (by omega) dX0_isAlive_10 ?_
  exact W.zret (v := lv i) hx hb hr (nar_bool h01) (fun t ht hW => ⟨lv i, rfl, rfl, ht⟩) (fun q hq => absurd hq List.not_mem_nil) dX0_isAlive_11
set_option maxHeartbeats 4000000 in
set_option maxRecDepth 100000 in
theorem c_X0_luckOf (l : Launch) {D : va_G} {z : ClassId × ClassId} {a : Nat → Nat} {lv lk pu fa he : Nat → Int32} {n : Nat} {nv du ta : Nat → Int32} {w : Nat} {mp mi : Nat → Int32} {k : Nat} {nt fu re : Int32} (i : Nat) (hi : i < n) (hn : n ≤ 10) : Met l yX0_luckOf (ws_ yX0_luckOf cX0_luckOf 2 (some .int)) ({ frames := 2, cells := 0, slots := 0, locals := 42 } : Room) (va_Pc [.ref (a 0), .int (nI i)] (xI D z a lv lk pu fa he n nv du ta w mp mi k nt fu re)) (vp_Si (fun r : Int32 => r = lk i)) 0 0 (fun _ => False) := by
  refine Met.ofW (cc := cX0_luckOf) (maxL := 2) (ret := (some .int)) (by decide) rfl ?_
  intro p e s m args below meth c s₁ B hml hv
  obtain ⟨rfl, hP, hK⟩ := hv
  have hx := B.exec
  have hb := B.bytes
  have hr := B.returns
  have hts := atoms_spec (ws := ws_ yX0_luckOf cX0_luckOf 2 (some .int)) B.pre
  have hts : ∀ w ∈ lw_all, w.before _ s = true := fun w h => hts w (List.mem_cons_of_mem _ h)
  have hown : s.vm.findClass RX0 = some m.cls := findClass_of_methodNamed B.named
  have hlocks := B.notSynchronized
  have hC : CallFix p m c cX0_luckOf 2 s _ lw_all RX0 := ⟨hx, hb, hml, hown, hts⟩
  have hl := lv_entry ([.ref (a 0), .int (nI i)]) (n := 2) (Nat.le_of_ble_eq_true rfl)
  rw [lg_entry_eq]
  generalize (lg_sl ([.ref (a 0), .int (nI i)]) ++ List.replicate (2 - (lg_sl ([.ref (a 0), .int (nI i)])).length) Slot.unset).toArray = ls at hl ⊢
  have hl : lv_has ls 2 [(0, .ref (a 0)), (1, .int (nI i))] := hl
  refine lv_aload_n hx hb dX0_luckOf_0 rfl (lv_at hl 0 rfl) ?_
  refine lv_iload_n hx hb dX0_luckOf_1 rfl (lv_at hl 1 rfl) ?_
  refine k_X0_requirePerson hC hK hP hl.1 ⟨Nat.le_of_ble_eq_true rfl, Nat.le_of_ble_eq_true rfl⟩ ⟨Nat.zero_le _, Nat.zero_le _⟩ (Nat.le_of_ble_eq_true rfl) rfl (by first | assumption | omega) (by first | assumption | omega) dX0_luckOf_2 ?_
  refine lv_aload_n hx hb dX0_luckOf_5 rfl (lv_at hl 0 rfl) ?_
  refine xg_lk hC hK hP dX0_luckOf_6 ?_
  refine lv_iload_n hx hb dX0_luckOf_9 rfl (lv_at hl 1 rfl) ?_
  refine xl_lk hC hK hP i rfl (by omega) dX0_luckOf_10 ?_
  exact W.iret (v := lk i) hx hb hr (fun t ht hW => ⟨lk i, rfl, rfl, ht⟩) (fun q hq => absurd hq List.not_mem_nil) dX0_luckOf_11
set_option maxHeartbeats 4000000 in
set_option maxRecDepth 100000 in
theorem c_X0_purseOf (l : Launch) {D : va_G} {z : ClassId × ClassId} {a : Nat → Nat} {lv lk pu fa he : Nat → Int32} {n : Nat} {nv du ta : Nat → Int32} {w : Nat} {mp mi : Nat → Int32} {k : Nat} {nt fu re : Int32} (i : Nat) (hi : i < n) (hn : n ≤ 10) : Met l yX0_purseOf (ws_ yX0_purseOf cX0_purseOf 2 (some .int)) ({ frames := 2, cells := 0, slots := 0, locals := 42 } : Room) (va_Pc [.ref (a 0), .int (nI i)] (xI D z a lv lk pu fa he n nv du ta w mp mi k nt fu re)) (vp_Si (fun r : Int32 => r = pu i)) 0 0 (fun _ => False) := by
  refine Met.ofW (cc := cX0_purseOf) (maxL := 2) (ret := (some .int)) (by decide) rfl ?_
  intro p e s m args below meth c s₁ B hml hv
  obtain ⟨rfl, hP, hK⟩ := hv
  have hx := B.exec
  have hb := B.bytes
  have hr := B.returns
  have hts := atoms_spec (ws := ws_ yX0_purseOf cX0_purseOf 2 (some .int)) B.pre
  have hts : ∀ w ∈ lw_all, w.before _ s = true := fun w h => hts w (List.mem_cons_of_mem _ h)
  have hown : s.vm.findClass RX0 = some m.cls := findClass_of_methodNamed B.named
  have hlocks := B.notSynchronized
  have hC : CallFix p m c cX0_purseOf 2 s _ lw_all RX0 := ⟨hx, hb, hml, hown, hts⟩
  have hl := lv_entry ([.ref (a 0), .int (nI i)]) (n := 2) (Nat.le_of_ble_eq_true rfl)
  rw [lg_entry_eq]
  generalize (lg_sl ([.ref (a 0), .int (nI i)]) ++ List.replicate (2 - (lg_sl ([.ref (a 0), .int (nI i)])).length) Slot.unset).toArray = ls at hl ⊢
  have hl : lv_has ls 2 [(0, .ref (a 0)), (1, .int (nI i))] := hl
  refine lv_aload_n hx hb dX0_purseOf_0 rfl (lv_at hl 0 rfl) ?_
  refine lv_iload_n hx hb dX0_purseOf_1 rfl (lv_at hl 1 rfl) ?_
  refine k_X0_requirePerson hC hK hP hl.1 ⟨Nat.le_of_ble_eq_true rfl, Nat.le_of_ble_eq_true rfl⟩ ⟨Nat.zero_le _, Nat.zero_le _⟩ (Nat.le_of_ble_eq_true rfl) rfl (by first | assumption | omega) (by first | assumption | omega) dX0_purseOf_2 ?_
  refine lv_aload_n hx hb dX0_purseOf_5 rfl (lv_at hl 0 rfl) ?_
  refine xg_pu hC hK hP dX0_purseOf_6 ?_
  refine lv_iload_n hx hb dX0_purseOf_9 rfl (lv_at hl 1 rfl) ?_
  refine xl_pu hC hK hP i rfl (by omega) dX0_purseOf_10 ?_
  exact W.iret (v := pu i) hx hb hr (fun t ht hW => ⟨pu i, rfl, rfl, ht⟩) (fun q hq => absurd hq List.not_mem_nil) dX0_purseOf_11
set_option maxHeartbeats 4000000 in
set_option maxRecDepth 100000 in
theorem c_X0_fatesOf (l : Launch) {D : va_G} {z : ClassId × ClassId} {a : Nat → Nat} {lv lk pu fa he : Nat → Int32} {n : Nat} {nv du ta : Nat → Int32} {w : Nat} {mp mi : Nat → Int32} {k : Nat} {nt fu re : Int32} (i : Nat) (hi : i < n) (hn : n ≤ 10) : Met l yX0_fatesOf (ws_ yX0_fatesOf cX0_fatesOf 2 (some .int)) ({ frames := 2, cells := 0, slots := 0, locals := 42 } : Room) (va_Pc [.ref (a 0), .int (nI i)] (xI D z a lv lk pu fa he n nv du ta w mp mi k nt fu re)) (vp_Si (fun r : Int32 => r = fa i)) 0 0 (fun _ => False) := by
  refine Met.ofW (cc := cX0_fatesOf) (maxL := 2) (ret := (some .int)) (by decide) rfl ?_
  intro p e s m args below meth c s₁ B hml hv
  obtain ⟨rfl, hP, hK⟩ := hv
  have hx := B.exec
  have hb := B.bytes
  have hr := B.returns
  have hts := atoms_spec (ws := ws_ yX0_fatesOf cX0_fatesOf 2 (some .int)) B.pre
  have hts : ∀ w ∈ lw_all, w.before _ s = true := fun w h => hts w (List.mem_cons_of_mem _ h)
  have hown : s.vm.findClass RX0 = some m.cls := findClass_of_methodNamed B.named
  have hlocks := B.notSynchronized
  have hC : CallFix p m c cX0_fatesOf 2 s _ lw_all RX0 := ⟨hx, hb, hml, hown, hts⟩
  have hl := lv_entry ([.ref (a 0), .int (nI i)]) (n := 2) (Nat.le_of_ble_eq_true rfl)
  rw [lg_entry_eq]
  generalize (lg_sl ([.ref (a 0), .int (nI i)]) ++ List.replicate (2 - (lg_sl ([.ref (a 0), .int (nI i)])).length) Slot.unset).toArray = ls at hl ⊢
  have hl : lv_has ls 2 [(0, .ref (a 0)), (1, .int (nI i))] := hl
  refine lv_aload_n hx hb dX0_fatesOf_0 rfl (lv_at hl 0 rfl) ?_
  refine lv_iload_n hx hb dX0_fatesOf_1 rfl (lv_at hl 1 rfl) ?_
  refine k_X0_requirePerson hC hK hP hl.1 ⟨Nat.le_of_ble_eq_true rfl, Nat.le_of_ble_eq_true rfl⟩ ⟨Nat.zero_le _, Nat.zero_le _⟩ (Nat.le_of_ble_eq_true rfl) rfl (by first | assumption | omega) (by first | assumption | omega) dX0_fatesOf_2 ?_
  refine lv_aload_n hx hb dX0_fatesOf_5 rfl (lv_at hl 0 rfl) ?_
  refine xg_fa hC hK hP dX0_fatesOf_6 ?_
  refine lv_iload_n hx hb dX0_fatesOf_9 rfl (lv_at hl 1 rfl) ?_
  refine xl_fa hC hK hP i rfl (by omega) dX0_fatesOf_10 ?_
  exact W.iret (v := fa i) hx hb hr (fun t ht hW => ⟨fa i, rfl, rfl, ht⟩) (fun q hq => absurd hq List.not_mem_nil) dX0_fatesOf_11
set_option maxHeartbeats 4000000 in
set_option maxRecDepth 100000 in
theorem c_X0_heirOf (l : Launch) {D : va_G} {z : ClassId × ClassId} {a : Nat → Nat} {lv lk pu fa he : Nat → Int32} {n : Nat} {nv du ta : Nat → Int32} {w : Nat} {mp mi : Nat → Int32} {k : Nat} {nt fu re : Int32} (i : Nat) (hi : i < n) (hn : n ≤ 10) : Met l yX0_heirOf (ws_ yX0_heirOf cX0_heirOf 2 (some .int)) ({ frames := 2, cells := 0, slots := 0, locals := 42 } : Room) (va_Pc [.ref (a 0), .int (nI i)] (xI D z a lv lk pu fa he n nv du ta w mp mi k nt fu re)) (vp_Si (fun r : Int32 => r = he i)) 0 0 (fun _ => False) := by
  refine Met.ofW (cc := cX0_heirOf) (maxL := 2) (ret := (some .int)) (by decide) rfl ?_
  intro p e s m args below meth c s₁ B hml hv
  obtain ⟨rfl, hP, hK⟩ := hv
  have hx := B.exec
  have hb := B.bytes
  have hr := B.returns
  have hts := atoms_spec (ws := ws_ yX0_heirOf cX0_heirOf 2 (some .int)) B.pre
  have hts : ∀ w ∈ lw_all, w.before _ s = true := fun w h => hts w (List.mem_cons_of_mem _ h)
  have hown : s.vm.findClass RX0 = some m.cls := findClass_of_methodNamed B.named
  have hlocks := B.notSynchronized
  have hC : CallFix p m c cX0_heirOf 2 s _ lw_all RX0 := ⟨hx, hb, hml, hown, hts⟩
  have hl := lv_entry ([.ref (a 0), .int (nI i)]) (n := 2) (Nat.le_of_ble_eq_true rfl)
  rw [lg_entry_eq]
  generalize (lg_sl ([.ref (a 0), .int (nI i)]) ++ List.replicate (2 - (lg_sl ([.ref (a 0), .int (nI i)])).length) Slot.unset).toArray = ls at hl ⊢
  have hl : lv_has ls 2 [(0, .ref (a 0)), (1, .int (nI i))] := hl
  refine lv_aload_n hx hb dX0_heirOf_0 rfl (lv_at hl 0 rfl) ?_
  refine lv_iload_n hx hb dX0_heirOf_1 rfl (lv_at hl 1 rfl) ?_
  refine k_X0_requirePerson hC hK hP hl.1 ⟨Nat.le_of_ble_eq_true rfl, Nat.le_of_ble_eq_true rfl⟩ ⟨Nat.zero_le _, Nat.zero_le _⟩ (Nat.le_of_ble_eq_true rfl) rfl (by first | assumption | omega) (by first | assumption | omega) dX0_heirOf_2 ?_
  refine lv_aload_n hx hb dX0_heirOf_5 rfl (lv_at hl 0 rfl) ?_
  refine xg_he hC hK hP dX0_heirOf_6 ?_
  refine lv_iload_n hx hb dX0_heirOf_9 rfl (lv_at hl 1 rfl) ?_
  refine xl_he hC hK hP i rfl (by omega) dX0_heirOf_10 ?_
  exact W.iret (v := he i) hx hb hr (fun t ht hW => ⟨he i, rfl, rfl, ht⟩) (fun q hq => absurd hq List.not_mem_nil) dX0_heirOf_11
set_option maxHeartbeats 4000000 in
set_option maxRecDepth 100000 in
theorem c_X0_lastHeirOf (l : Launch) {D : va_G} {z : ClassId × ClassId} {a : Nat → Nat} {lv lk pu fa he : Nat → Int32} {n : Nat} {nv du ta : Nat → Int32} {w : Nat} {mp mi : Nat → Int32} {k : Nat} {nt fu re : Int32} (i : Nat) (hi : i < n) (hn : n ≤ 10) : Met l yX0_lastHeirOf (ws_ yX0_lastHeirOf cX0_lastHeirOf 2 (some .int)) ({ frames := 2, cells := 0, slots := 0, locals := 44 } : Room) (va_Pc [.ref (a 0), .int (nI i)] (xI D z a lv lk pu fa he n nv du ta w mp mi k nt fu re)) (vp_Si (fun r : Int32 => r = sp_heir he lv n i n (he i))) 0 0 (fun _ => False) := by
  refine Met.ofW (cc := cX0_lastHeirOf) (maxL := 2) (ret := (some .int)) (by decide) rfl ?_
  intro p e s m args below meth c s₁ B hml hv
  obtain ⟨rfl, hP, hK⟩ := hv
  have hx := B.exec
  have hb := B.bytes
  have hr := B.returns
  have hts := atoms_spec (ws := ws_ yX0_lastHeirOf cX0_lastHeirOf 2 (some .int)) B.pre
  have hts : ∀ w ∈ lw_all, w.before _ s = true := fun w h => hts w (List.mem_cons_of_mem _ h)
  have hown : s.vm.findClass RX0 = some m.cls := findClass_of_methodNamed B.named
  have hlocks := B.notSynchronized
  have hC : CallFix p m c cX0_lastHeirOf 2 s _ lw_all RX0 := ⟨hx, hb, hml, hown, hts⟩
  have hl := lv_entry ([.ref (a 0), .int (nI i)]) (n := 2) (Nat.le_of_ble_eq_true rfl)
  rw [lg_entry_eq]
  generalize (lg_sl ([.ref (a 0), .int (nI i)]) ++ List.replicate (2 - (lg_sl ([.ref (a 0), .int (nI i)])).length) Slot.unset).toArray = ls at hl ⊢
  have hl : lv_has ls 2 [(0, .ref (a 0)), (1, .int (nI i))] := hl
  refine lv_aload_n hx hb dX0_lastHeirOf_0 rfl (lv_at hl 0 rfl) ?_
  refine lv_iload_n hx hb dX0_lastHeirOf_1 rfl (lv_at hl 1 rfl) ?_
  refine k_X0_requirePerson hC hK hP hl.1 ⟨Nat.le_of_ble_eq_true rfl, Nat.le_of_ble_eq_true rfl⟩ ⟨Nat.zero_le _, Nat.zero_le _⟩ (Nat.le_of_ble_eq_true rfl) rfl (by first | assumption | omega) (by first | assumption | omega) dX0_lastHeirOf_2 ?_
  refine lv_aload_n hx hb dX0_lastHeirOf_5 rfl (lv_at hl 0 rfl) ?_
  refine lv_iload_n hx hb dX0_lastHeirOf_6 rfl (lv_at hl 1 rfl) ?_
  refine k_X0_findLastHeir hC hK hP hl.1 ⟨Nat.le_of_ble_eq_true rfl, Nat.le_of_ble_eq_true rfl⟩ ⟨Nat.zero_le _, Nat.zero_le _⟩ (Nat.le_of_ble_eq_true rfl) rfl (by first | assumption | omega) (by first | assumption | omega) dX0_lastHeirOf_7 ?_
  exact W.iret (v := sp_heir he lv n i n (he i)) hx hb hr (fun t ht hW => ⟨sp_heir he lv n i n (he i), rfl, rfl, ht⟩) (fun q hq => absurd hq List.not_mem_nil) dX0_lastHeirOf_10
set_option maxHeartbeats 4000000 in
set_option maxRecDepth 100000 in
theorem c_X0_priceFor (l : Launch) {D : va_G} {z : ClassId × ClassId} {a : Nat → Nat} {lv lk pu fa he : Nat → Int32} {n : Nat} {nv du ta : Nat → Int32} {w : Nat} {mp mi : Nat → Int32} {k : Nat} {nt fu re : Int32} (i : Nat) (hi : i < n) (hn : n ≤ 10) : Met l yX0_priceFor (ws_ yX0_priceFor cX0_priceFor 2 (some .int)) ({ frames := 2, cells := 0, slots := 0, locals := 42 } : Room) (va_Pc [.ref (a 0), .int (nI i)] (xI D z a lv lk pu fa he n nv du ta w mp mi k nt fu re)) (vp_Si (fun r : Int32 => r = sp_price (lk i))) 0 0 (fun _ => False) := by
  refine Met.ofW (cc := cX0_priceFor) (maxL := 2) (ret := (some .int)) (by decide) rfl ?_
  intro p e s m args below meth c s₁ B hml hv
  obtain ⟨rfl, hP, hK⟩ := hv
  have hx := B.exec
  have hb := B.bytes
  have hr := B.returns
  have hts := atoms_spec (ws := ws_ yX0_priceFor cX0_priceFor 2 (some .int)) B.pre
  have hts : ∀ w ∈ lw_all, w.before _ s = true := fun w h => hts w (List.mem_cons_of_mem _ h)
  have hown : s.vm.findClass RX0 = some m.cls := findClass_of_methodNamed B.named
  have hlocks := B.notSynchronized
  have hC : CallFix p m c cX0_priceFor 2 s _ lw_all RX0 := ⟨hx, hb, hml, hown, hts⟩
  have hl := lv_entry ([.ref (a 0), .int (nI i)]) (n := 2) (Nat.le_of_ble_eq_true rfl)
  rw [lg_entry_eq]
  generalize (lg_sl ([.ref (a 0), .int (nI i)]) ++ List.replicate (2 - (lg_sl ([.ref (a 0), .int (nI i)])).length) Slot.unset).toArray = ls at hl ⊢
  have hl : lv_has ls 2 [(0, .ref (a 0)), (1, .int (nI i))] := hl
  refine lv_aload_n hx hb dX0_priceFor_0 rfl (lv_at hl 0 rfl) ?_
  refine lv_iload_n hx hb dX0_priceFor_1 rfl (lv_at hl 1 rfl) ?_
  refine k_X0_requirePerson hC hK hP hl.1 ⟨Nat.le_of_ble_eq_true rfl, Nat.le_of_ble_eq_true rfl⟩ ⟨Nat.zero_le _, Nat.zero_le _⟩ (Nat.le_of_ble_eq_true rfl) rfl (by first | assumption | omega) (by first | assumption | omega) dX0_priceFor_2 ?_
  refine lv_aload_n hx hb dX0_priceFor_5 rfl (lv_at hl 0 rfl) ?_
  refine lv_iload_n hx hb dX0_priceFor_6 rfl (lv_at hl 1 rfl) ?_
  refine k_X0_fatePrice hC hK hP hl.1 ⟨Nat.le_of_ble_eq_true rfl, Nat.le_of_ble_eq_true rfl⟩ ⟨Nat.zero_le _, Nat.zero_le _⟩ (Nat.le_of_ble_eq_true rfl) rfl (by first | assumption | omega) dX0_priceFor_7 ?_
  exact W.iret (v := sp_price (lk i)) hx hb hr (fun t ht hW => ⟨sp_price (lk i), rfl, rfl, ht⟩) (fun q hq => absurd hq List.not_mem_nil) dX0_priceFor_10
set_option maxHeartbeats 4000000 in
set_option maxRecDepth 100000 in
theorem c_X0_missesOf (l : Launch) {D : va_G} {z : ClassId × ClassId} {a : Nat → Nat} {lv lk pu fa he : Nat → Int32} {n : Nat} {nv du ta : Nat → Int32} {w : Nat} {mp mi : Nat → Int32} {k : Nat} {nt fu re : Int32} (i : Nat) (hi : i < n) (hn : n ≤ 10) (hk : k ≤ 60) : Met l yX0_missesOf (ws_ yX0_missesOf cX0_missesOf 4 (some .int)) ({ frames := 2, cells := 0, slots := 0, locals := 42 } : Room) (va_Pc [.ref (a 0), .int (nI i)] (xI D z a lv lk pu fa he n nv du ta w mp mi k nt fu re)) (vp_Si (fun r : Int32 => r = sp_many mp (nI i) k)) 0 0 (fun _ => False) := by
  refine Met.ofW (cc := cX0_missesOf) (maxL := 4) (ret := (some .int)) (by decide) rfl ?_
  intro p e s m args below meth c s₁ B hml hv
  obtain ⟨rfl, hP, hK⟩ := hv
  have hx := B.exec
  have hb := B.bytes
  have hr := B.returns
  have hts := atoms_spec (ws := ws_ yX0_missesOf cX0_missesOf 4 (some .int)) B.pre
  have hts : ∀ w ∈ lw_all, w.before _ s = true := fun w h => hts w (List.mem_cons_of_mem _ h)
  have hown : s.vm.findClass RX0 = some m.cls := findClass_of_methodNamed B.named
  have hlocks := B.notSynchronized
  have hC : CallFix p m c cX0_missesOf 4 s _ lw_all RX0 := ⟨hx, hb, hml, hown, hts⟩
  have hl := lv_entry ([.ref (a 0), .int (nI i)]) (n := 4) (Nat.le_of_ble_eq_true rfl)
  rw [lg_entry_eq]
  generalize (lg_sl ([.ref (a 0), .int (nI i)]) ++ List.replicate (4 - (lg_sl ([.ref (a 0), .int (nI i)])).length) Slot.unset).toArray = ls at hl ⊢
  have hl : lv_has ls 4 [(0, .ref (a 0)), (1, .int (nI i))] := hl
  refine lv_aload_n hx hb dX0_missesOf_0 rfl (lv_at hl 0 rfl) ?_
  refine lv_iload_n hx hb dX0_missesOf_1 rfl (lv_at hl 1 rfl) ?_
  refine k_X0_requirePerson hC hK hP hl.1 ⟨Nat.le_of_ble_eq_true rfl, Nat.le_of_ble_eq_true rfl⟩ ⟨Nat.zero_le _, Nat.zero_le _⟩ (Nat.le_of_ble_eq_true rfl) rfl (by first | assumption | omega) (by first | assumption | omega) dX0_missesOf_2 ?_
  refine lv_iconst (v := 0) hx hb dX0_missesOf_5 (by decide) ?_
  refine lv_istore_n (lv' := [(2, .int 0), (0, .ref (a 0)), (1, .int (nI i))]) hx hb dX0_missesOf_6 rfl hl (by decide) rfl (fun ls hl => ?_)
  refine lv_iconst (v := 0) hx hb dX0_missesOf_7 (by decide) ?_
  refine lv_istore_n (lv' := [(3, .int 0), (2, .int 0), (0, .ref (a 0)), (1, .int (nI i))]) hx hb dX0_missesOf_8 rfl hl (by decide) rfl (fun ls hl => ?_)
  have loop_9 : ∀ (f : Nat) (j : Nat) (x : Int32), j ≤ k → k + 1 ≤ j + f → x = sp_many mp (nI i) j → ∀ ls : Array Slot, lv_has ls 4 [(0, .ref (a 0)), (1, .int (nI i)), (2, .int x), (3, .int (nI j))] → W p l e ({ frames := 2, cells := 0, slots := 0, locals := 42 } : Room) s m ([.ref (a 0), .int (nI i)] : List Value).toArray below meth c s.heap [] 0 0 (MQ below (vp_Si (fun r : Int32 => r = sp_many mp (nI i) k)) ([.ref (a 0), .int (nI i)] : List Value).toArray s 0 0 (fun _ => False)) (F0 m 9 ls []) := by
    intro f
    induction f with
    | zero =>
      intro j x hj hf ex
      exact absurd hf (by omega)
    | succ f ih9 =>
      intro j x hj hf ex ls hl
      refine lv_iload_n hx hb dX0_missesOf_9 rfl (lv_at hl 3 rfl) ?_
      refine lv_aload_n hx hb dX0_missesOf_10 rfl (lv_at hl 0 rfl) ?_
      refine xg_k hC hK hP dX0_missesOf_11 ?_
      refine lv_icmp_ge (tgt := 36) hx hb dX0_missesOf_14 (by decide) (fun c_14 => ?_) (fun c_14 => ?_)
      · have nc_14 : k ≤ j := nn_le (by omega) c_14
        refine lv_iload_n hx hb dX0_missesOf_36 rfl (lv_at hl 2 rfl) ?_
        exact W.iret (v := x) hx hb hr (fun t ht hW => ⟨x, rfl, (by rw [ex, show j = k by omega]), ht⟩) (fun q hq => absurd hq List.not_mem_nil) dX0_missesOf_37
      · have nc_14 : j < k := nn_nle (by omega) c_14
        refine lv_aload_n hx hb dX0_missesOf_17 rfl (lv_at hl 0 rfl) ?_
        refine xg_mp hC hK hP dX0_missesOf_18 ?_
        refine lv_iload_n hx hb dX0_missesOf_21 rfl (lv_at hl 3 rfl) ?_
        refine xl_mp hC hK hP j rfl (by omega) dX0_missesOf_22 ?_
        refine lv_iload_n hx hb dX0_missesOf_23 rfl (lv_at hl 1 rfl) ?_
        refine lv_icmp_ne (tgt := 30) hx hb dX0_missesOf_24 (by decide) (fun c_24 => ?_) (fun c_24 => ?_)
        · refine lv_iinc (v := nI (j + 1)) (lv' := [(3, .int (nI (j + 1))), (0, .ref (a 0)), (1, .int (nI i)), (2, .int x)]) hx hb dX0_missesOf_30 hl (k := 3) rfl (nI_1 _) (by decide) rfl (fun ls hl => ?_)
          refine lv_goto (tgt := 9) hx hb dX0_missesOf_33 (by decide) ?_
          exact ih9 (j + 1) x (by omega) (by omega) (by simp [ex, sp_many, c_24]) _ (lv_sub hl [1, 2, 3, 0] rfl)
        · refine lv_iinc (v := x + 1) (lv' := [(2, .int (x + 1)), (0, .ref (a 0)), (1, .int (nI i)), (3, .int (nI j))]) hx hb dX0_missesOf_27 hl (k := 2) rfl rfl (by decide) rfl (fun ls hl => ?_)
          refine lv_iinc (v := nI (j + 1)) (lv' := [(3, .int (nI (j + 1))), (2, .int (x + 1)), (0, .ref (a 0)), (1, .int (nI i))]) hx hb dX0_missesOf_30 hl (k := 3) rfl (nI_1 _) (by decide) rfl (fun ls hl => ?_)
          refine lv_goto (tgt := 9) hx hb dX0_missesOf_33 (by decide) ?_
          exact ih9 (j + 1) (x + 1) (by omega) (by omega) (by simp [ex, sp_many, c_24]) _ (lv_sub hl [2, 3, 1, 0] rfl)
  exact loop_9 (k + 1) 0 0 (Nat.zero_le _) (by omega) rfl _ (lv_sub hl [2, 3, 1, 0] rfl)
set_option maxHeartbeats 4000000 in
set_option maxRecDepth 100000 in
theorem c_X0_closestOf (l : Launch) {D : va_G} {z : ClassId × ClassId} {a : Nat → Nat} {lv lk pu fa he : Nat → Int32} {n : Nat} {nv du ta : Nat → Int32} {w : Nat} {mp mi : Nat → Int32} {k : Nat} {nt fu re : Int32} (i : Nat) (hi : i < n) (hn : n ≤ 10) (hk : k ≤ 60) : Met l yX0_closestOf (ws_ yX0_closestOf cX0_closestOf 5 (some .int)) ({ frames := 2, cells := 0, slots := 0, locals := 42 } : Room) (va_Pc [.ref (a 0), .int (nI i)] (xI D z a lv lk pu fa he n nv du ta w mp mi k nt fu re)) (vp_Si (fun r : Int32 => r = sp_close mp mi (nI i) k)) 0 0 (fun _ => False) := by
  refine Met.ofW (cc := cX0_closestOf) (maxL := 5) (ret := (some .int)) (by decide) rfl ?_
  intro p e s m args below meth c s₁ B hml hv
  obtain ⟨rfl, hP, hK⟩ := hv
  have hx := B.exec
  have hb := B.bytes
  have hr := B.returns
  have hts := atoms_spec (ws := ws_ yX0_closestOf cX0_closestOf 5 (some .int)) B.pre
  have hts : ∀ w ∈ lw_all, w.before _ s = true := fun w h => hts w (List.mem_cons_of_mem _ h)
  have hown : s.vm.findClass RX0 = some m.cls := findClass_of_methodNamed B.named
  have hlocks := B.notSynchronized
  have hC : CallFix p m c cX0_closestOf 5 s _ lw_all RX0 := ⟨hx, hb, hml, hown, hts⟩
  have hl := lv_entry ([.ref (a 0), .int (nI i)]) (n := 5) (Nat.le_of_ble_eq_true rfl)
  rw [lg_entry_eq]
  generalize (lg_sl ([.ref (a 0), .int (nI i)]) ++ List.replicate (5 - (lg_sl ([.ref (a 0), .int (nI i)])).length) Slot.unset).toArray = ls at hl ⊢
  have hl : lv_has ls 5 [(0, .ref (a 0)), (1, .int (nI i))] := hl
  refine lv_aload_n hx hb dX0_closestOf_0 rfl (lv_at hl 0 rfl) ?_
  refine lv_iload_n hx hb dX0_closestOf_1 rfl (lv_at hl 1 rfl) ?_
  refine k_X0_requirePerson hC hK hP hl.1 ⟨Nat.le_of_ble_eq_true rfl, Nat.le_of_ble_eq_true rfl⟩ ⟨Nat.zero_le _, Nat.zero_le _⟩ (Nat.le_of_ble_eq_true rfl) rfl (by first | assumption | omega) (by first | assumption | omega) dX0_closestOf_2 ?_
  refine lv_iconst (v := 0) hx hb dX0_closestOf_5 (by decide) ?_
  refine lv_istore_n (lv' := [(2, .int 0), (0, .ref (a 0)), (1, .int (nI i))]) hx hb dX0_closestOf_6 rfl hl (by decide) rfl (fun ls hl => ?_)
  refine lv_iconst (v := 0) hx hb dX0_closestOf_7 (by decide) ?_
  refine lv_istore_n (lv' := [(3, .int 0), (2, .int 0), (0, .ref (a 0)), (1, .int (nI i))]) hx hb dX0_closestOf_8 rfl hl (by decide) rfl (fun ls hl => ?_)
  have loop_9 : ∀ (f : Nat) (j : Nat) (x : Int32), j ≤ k → k + 1 ≤ j + f → x = sp_close mp mi (nI i) j → ∀ ls : Array Slot, lv_has ls 5 [(0, .ref (a 0)), (1, .int (nI i)), (2, .int x), (3, .int (nI j))] → W p l e ({ frames := 2, cells := 0, slots := 0, locals := 42 } : Room) s m ([.ref (a 0), .int (nI i)] : List Value).toArray below meth c s.heap [] 0 0 (MQ below (vp_Si (fun r : Int32 => r = sp_close mp mi (nI i) k)) ([.ref (a 0), .int (nI i)] : List Value).toArray s 0 0 (fun _ => False)) (F0 m 9 ls []) := by
    intro f
    induction f with
    | zero =>
      intro j x hj hf ex
      exact absurd hf (by omega)
    | succ f ih9 =>
      intro j x hj hf ex ls hl
      refine lv_iload_n hx hb dX0_closestOf_9 rfl (lv_at hl 3 rfl) ?_
      refine lv_aload_n hx hb dX0_closestOf_10 rfl (lv_at hl 0 rfl) ?_
      refine xg_k hC hK hP dX0_closestOf_11 ?_
      refine lv_icmp_ge (tgt := 59) hx hb dX0_closestOf_14 (by decide) (fun c_14 => ?_) (fun c_14 => ?_)
      · have nc_14 : k ≤ j := nn_le (by omega) c_14
        refine lv_iload_n hx hb dX0_closestOf_59 rfl (lv_at hl 2 rfl) ?_
        exact W.iret (v := x) hx hb hr (fun t ht hW => ⟨x, rfl, (by rw [ex, show j = k by omega]), ht⟩) (fun q hq => absurd hq List.not_mem_nil) dX0_closestOf_60
      · have nc_14 : j < k := nn_nle (by omega) c_14
        refine lv_aload_n hx hb dX0_closestOf_17 rfl (lv_at hl 0 rfl) ?_
        refine xg_mi hC hK hP dX0_closestOf_18 ?_
        refine lv_iload_n hx hb dX0_closestOf_21 rfl (lv_at hl 3 rfl) ?_
        refine xl_mi hC hK hP j rfl (by omega) dX0_closestOf_22 ?_
        refine lv_istore (lv' := [(4, .int (mi j)), (0, .ref (a 0)), (1, .int (nI i)), (2, .int x), (3, .int (nI j))]) hx hb dX0_closestOf_23 hl (by decide) rfl (fun ls hl => ?_)
        refine lv_aload_n hx hb dX0_closestOf_25 rfl (lv_at hl 1 rfl) ?_
        refine xg_mp hC hK hP dX0_closestOf_26 ?_
        refine lv_iload_n hx hb dX0_closestOf_29 rfl (lv_at hl 4 rfl) ?_
        refine xl_mp hC hK hP j rfl (by omega) dX0_closestOf_30 ?_
        refine lv_iload_n hx hb dX0_closestOf_31 rfl (lv_at hl 2 rfl) ?_
        refine lv_icmp_ne (tgt := 53) hx hb dX0_closestOf_32 (by decide) (fun c_32 => ?_) (fun c_32 => ?_)
        · refine lv_iinc (v := nI (j + 1)) (lv' := [(3, .int (nI (j + 1))), (4, .int (mi j)), (0, .ref (a 0)), (1, .int (nI i)), (2, .int x)]) hx hb dX0_closestOf_53 hl (k := 4) rfl (nI_1 _) (by decide) rfl (fun ls hl => ?_)
          refine lv_goto (tgt := 9) hx hb dX0_closestOf_56 (by decide) ?_
          exact ih9 (j + 1) x (by omega) (by omega) (by rw [ex] at *; simp [sp_close, c_32]) _ (lv_sub hl [2, 3, 4, 0] rfl)
        · refine lv_iload hx hb dX0_closestOf_35 (lv_at hl 0 rfl) ?_
          refine lv_if_le (tgt := 53) hx hb dX0_closestOf_37 (by decide) (fun c_37 => ?_) (fun c_37 => ?_)
          · refine lv_iinc (v := nI (j + 1)) (lv' := [(3, .int (nI (j + 1))), (4, .int (mi j)), (0, .ref (a 0)), (1, .int (nI i)), (2, .int x)]) hx hb dX0_closestOf_53 hl (k := 4) rfl (nI_1 _) (by decide) rfl (fun ls hl => ?_)
            refine lv_goto (tgt := 9) hx hb dX0_closestOf_56 (by decide) ?_
            exact ih9 (j + 1) x (by omega) (by omega) (by rw [ex] at *; simp [sp_close, c_32, c_37]) _ (lv_sub hl [2, 3, 4, 0] rfl)
          · refine lv_iload_n hx hb dX0_closestOf_40 rfl (lv_at hl 3 rfl) ?_
            refine lv_if_eq (tgt := 50) hx hb dX0_closestOf_41 (by decide) (fun c_41 => ?_) (fun c_41 => ?_)
            · refine lv_iload hx hb dX0_closestOf_50 (lv_at hl 0 rfl) ?_
              refine lv_istore_n (lv' := [(2, .int (mi j)), (4, .int (mi j)), (0, .ref (a 0)), (1, .int (nI i)), (3, .int (nI j))]) hx hb dX0_closestOf_52 rfl hl (by decide) rfl (fun ls hl => ?_)
              refine lv_iinc (v := nI (j + 1)) (lv' := [(3, .int (nI (j + 1))), (2, .int (mi j)), (4, .int (mi j)), (0, .ref (a 0)), (1, .int (nI i))]) hx hb dX0_closestOf_53 hl (k := 4) rfl (nI_1 _) (by decide) rfl (fun ls hl => ?_)
              refine lv_goto (tgt := 9) hx hb dX0_closestOf_56 (by decide) ?_
              exact ih9 (j + 1) (mi j) (by omega) (by omega) (by rw [ex] at *; simp [sp_close, c_32, c_37, c_41]) _ (lv_sub hl [3, 4, 1, 0] rfl)
            · refine lv_iload hx hb dX0_closestOf_44 (lv_at hl 0 rfl) ?_
              refine lv_iload_n hx hb dX0_closestOf_46 rfl (lv_at hl 3 rfl) ?_
              refine lv_icmp_ge (tgt := 53) hx hb dX0_closestOf_47 (by decide) (fun c_47 => ?_) (fun c_47 => ?_)
              · refine lv_iinc (v := nI (j + 1)) (lv' := [(3, .int (nI (j + 1))), (4, .int (mi j)), (0, .ref (a 0)), (1, .int (nI i)), (2, .int x)]) hx hb dX0_closestOf_53 hl (k := 4) rfl (nI_1 _) (by decide) rfl (fun ls hl => ?_)
                refine lv_goto (tgt := 9) hx hb dX0_closestOf_56 (by decide) ?_
                exact ih9 (j + 1) x (by omega) (by omega) (by rw [ex] at *; simp [sp_close, c_32, c_37, c_41, c_47]) _ (lv_sub hl [2, 3, 4, 0] rfl)
              · refine lv_iload hx hb dX0_closestOf_50 (lv_at hl 0 rfl) ?_
                refine lv_istore_n (lv' := [(2, .int (mi j)), (4, .int (mi j)), (0, .ref (a 0)), (1, .int (nI i)), (3, .int (nI j))]) hx hb dX0_closestOf_52 rfl hl (by decide) rfl (fun ls hl => ?_)
                refine lv_iinc (v := nI (j + 1)) (lv' := [(3, .int (nI (j + 1))), (2, .int (mi j)), (4, .int (mi j)), (0, .ref (a 0)), (1, .int (nI i))]) hx hb dX0_closestOf_53 hl (k := 4) rfl (nI_1 _) (by decide) rfl (fun ls hl => ?_)
                refine lv_goto (tgt := 9) hx hb dX0_closestOf_56 (by decide) ?_
                exact ih9 (j + 1) (mi j) (by omega) (by omega) (by rw [ex] at *; simp [sp_close, c_32, c_37, c_41, c_47]) _ (lv_sub hl [3, 4, 1, 0] rfl)
  exact loop_9 (k + 1) 0 0 (Nat.zero_le _) (by omega) rfl _ (lv_sub hl [2, 3, 1, 0] rfl)
set_option maxHeartbeats 4000000 in
set_option maxRecDepth 100000 in
theorem c_X0_nerveOf (l : Launch) {D : va_G} {z : ClassId × ClassId} {a : Nat → Nat} {lv lk pu fa he : Nat → Int32} {n : Nat} {nv du ta : Nat → Int32} {w : Nat} {mp mi : Nat → Int32} {k : Nat} {nt fu re : Int32} (i : Nat) (hi : i < w) (hw : w ≤ 6) : Met l yX0_nerveOf (ws_ yX0_nerveOf cX0_nerveOf 2 (some .int)) ({ frames := 2, cells := 0, slots := 0, locals := 42 } : Room) (va_Pc [.ref (a 0), .int (nI i)] (xI D z a lv lk pu fa he n nv du ta w mp mi k nt fu re)) (vp_Si (fun r : Int32 => r = nv i)) 0 0 (fun _ => False) := by
  refine Met.ofW (cc := cX0_nerveOf) (maxL := 2) (ret := (some .int)) (by decide) rfl ?_
  intro p e s m args below meth c s₁ B hml hv
  obtain ⟨rfl, hP, hK⟩ := hv
  have hx := B.exec
  have hb := B.bytes
  have hr := B.returns
  have hts := atoms_spec (ws := ws_ yX0_nerveOf cX0_nerveOf 2 (some .int)) B.pre
  have hts : ∀ w ∈ lw_all, w.before _ s = true := fun w h => hts w (List.mem_cons_of_mem _ h)
  have hown : s.vm.findClass RX0 = some m.cls := findClass_of_methodNamed B.named
  have hlocks := B.notSynchronized
  have hC : CallFix p m c cX0_nerveOf 2 s _ lw_all RX0 := ⟨hx, hb, hml, hown, hts⟩
  have hl := lv_entry ([.ref (a 0), .int (nI i)]) (n := 2) (Nat.le_of_ble_eq_true rfl)
  rw [lg_entry_eq]
  generalize (lg_sl ([.ref (a 0), .int (nI i)]) ++ List.replicate (2 - (lg_sl ([.ref (a 0), .int (nI i)])).length) Slot.unset).toArray = ls at hl ⊢
  have hl : lv_has ls 2 [(0, .ref (a 0)), (1, .int (nI i))] := hl
  refine lv_aload_n hx hb dX0_nerveOf_0 rfl (lv_at hl 0 rfl) ?_
  refine lv_iload_n hx hb dX0_nerveOf_1 rfl (lv_at hl 1 rfl) ?_
  refine k_X0_requireWitness hC hK hP hl.1 ⟨Nat.le_of_ble_eq_true rfl, Nat.le_of_ble_eq_true rfl⟩ ⟨Nat.zero_le _, Nat.zero_le _⟩ (Nat.le_of_ble_eq_true rfl) rfl (by first | assumption | omega) (by first | assumption | omega) dX0_nerveOf_2 ?_
  refine lv_aload_n hx hb dX0_nerveOf_5 rfl (lv_at hl 0 rfl) ?_
  refine xg_nv hC hK hP dX0_nerveOf_6 ?_
  refine lv_iload_n hx hb dX0_nerveOf_9 rfl (lv_at hl 1 rfl) ?_
  refine xl_nv hC hK hP i rfl (by omega) dX0_nerveOf_10 ?_
  exact W.iret (v := nv i) hx hb hr (fun t ht hW => ⟨nv i, rfl, rfl, ht⟩) (fun q hq => absurd hq List.not_mem_nil) dX0_nerveOf_11
set_option maxHeartbeats 4000000 in
set_option maxRecDepth 100000 in
theorem c_X0_isOnDuty (l : Launch) {D : va_G} {z : ClassId × ClassId} {a : Nat → Nat} {lv lk pu fa he : Nat → Int32} {n : Nat} {nv du ta : Nat → Int32} {w : Nat} {mp mi : Nat → Int32} {k : Nat} {nt fu re : Int32} (i : Nat) (hi : i < w) (hw : w ≤ 6) (h01 : du i = 0 ∨ du i = 1) : Met l yX0_isOnDuty (ws_ yX0_isOnDuty cX0_isOnDuty 2 (some .boolean)) ({ frames := 2, cells := 0, slots := 0, locals := 42 } : Room) (va_Pc [.ref (a 0), .int (nI i)] (xI D z a lv lk pu fa he n nv du ta w mp mi k nt fu re)) (vp_Si (fun r : Int32 => r = du i)) 0 0 (fun _ => False) := by
  refine Met.ofW (cc := cX0_isOnDuty) (maxL := 2) (ret := (some .boolean)) (by decide) rfl ?_
  intro p e s m args below meth c s₁ B hml hv
  obtain ⟨rfl, hP, hK⟩ := hv
  have hx := B.exec
  have hb := B.bytes
  have hr := B.returns
  have hts := atoms_spec (ws := ws_ yX0_isOnDuty cX0_isOnDuty 2 (some .boolean)) B.pre
  have hts : ∀ w ∈ lw_all, w.before _ s = true := fun w h => hts w (List.mem_cons_of_mem _ h)
  have hown : s.vm.findClass RX0 = some m.cls := findClass_of_methodNamed B.named
  have hlocks := B.notSynchronized
  have hC : CallFix p m c cX0_isOnDuty 2 s _ lw_all RX0 := ⟨hx, hb, hml, hown, hts⟩
  have hl := lv_entry ([.ref (a 0), .int (nI i)]) (n := 2) (Nat.le_of_ble_eq_true rfl)
  rw [lg_entry_eq]
  generalize (lg_sl ([.ref (a 0), .int (nI i)]) ++ List.replicate (2 - (lg_sl ([.ref (a 0), .int (nI i)])).length) Slot.unset).toArray = ls at hl ⊢
  have hl : lv_has ls 2 [(0, .ref (a 0)), (1, .int (nI i))] := hl
  refine lv_aload_n hx hb dX0_isOnDuty_0 rfl (lv_at hl 0 rfl) ?_
  refine lv_iload_n hx hb dX0_isOnDuty_1 rfl (lv_at hl 1 rfl) ?_
  refine k_X0_requireWitness hC hK hP hl.1 ⟨Nat.le_of_ble_eq_true rfl, Nat.le_of_ble_eq_true rfl⟩ ⟨Nat.zero_le _, Nat.zero_le _⟩ (Nat.le_of_ble_eq_true rfl) rfl (by first | assumption | omega) (by first | assumption | omega) dX0_isOnDuty_2 ?_
  refine lv_aload_n hx hb dX0_isOnDuty_5 rfl (lv_at hl 0 rfl) ?_
  refine xg_du hC hK hP dX0_isOnDuty_6 ?_
  refine lv_iload_n hx hb dX0_isOnDuty_9 rfl (lv_at hl 1 rfl) ?_
  refine xl_du hC hK hP i rfl (by omega) dX0_isOnDuty_10 ?_
  exact W.zret (v := du i) hx hb hr (nar_bool h01) (fun t ht hW => ⟨du i, rfl, rfl, ht⟩) (fun q hq => absurd hq List.not_mem_nil) dX0_isOnDuty_11
set_option maxHeartbeats 4000000 in
set_option maxRecDepth 100000 in
theorem c_X0_wouldTell (l : Launch) {D : va_G} {z : ClassId × ClassId} {a : Nat → Nat} {lv lk pu fa he : Nat → Int32} {n : Nat} {nv du ta : Nat → Int32} {w : Nat} {mp mi : Nat → Int32} {k : Nat} {nt fu re : Int32} (i : Nat) (hi : i < w) (hw : w ≤ 6) (b : Int32) (h1 : ¬ b < 1) (h2 : b ≤ 60) : Met l yX0_wouldTell (ws_ yX0_wouldTell cX0_wouldTell 3 (some .int)) ({ frames := 2, cells := 0, slots := 0, locals := 43 } : Room) (va_Pc [.ref (a 0), .int (nI i), .int b] (xI D z a lv lk pu fa he n nv du ta w mp mi k nt fu re)) (vp_Si (fun r : Int32 => r = sp_tale (nv i) b)) 0 0 (fun _ => False) := by
  refine Met.ofW (cc := cX0_wouldTell) (maxL := 3) (ret := (some .int)) (by decide) rfl ?_
  intro p e s m args below meth c s₁ B hml hv
  obtain ⟨rfl, hP, hK⟩ := hv
  have hx := B.exec
  have hb := B.bytes
  have hr := B.returns
  have hts := atoms_spec (ws := ws_ yX0_wouldTell cX0_wouldTell 3 (some .int)) B.pre
  have hts : ∀ w ∈ lw_all, w.before _ s = true := fun w h => hts w (List.mem_cons_of_mem _ h)
  have hown : s.vm.findClass RX0 = some m.cls := findClass_of_methodNamed B.named
  have hlocks := B.notSynchronized
  have hC : CallFix p m c cX0_wouldTell 3 s _ lw_all RX0 := ⟨hx, hb, hml, hown, hts⟩
  have hl := lv_entry ([.ref (a 0), .int (nI i), .int b]) (n := 3) (Nat.le_of_ble_eq_true rfl)
  rw [lg_entry_eq]
  generalize (lg_sl ([.ref (a 0), .int (nI i), .int b]) ++ List.replicate (3 - (lg_sl ([.ref (a 0), .int (nI i), .int b])).length) Slot.unset).toArray = ls at hl ⊢
  have hl : lv_has ls 3 [(0, .ref (a 0)), (1, .int (nI i)), (2, .int b)] := hl
  refine lv_aload_n hx hb dX0_wouldTell_0 rfl (lv_at hl 0 rfl) ?_
  refine lv_iload_n hx hb dX0_wouldTell_1 rfl (lv_at hl 1 rfl) ?_
  refine k_X0_requireWitness hC hK hP hl.1 ⟨Nat.le_of_ble_eq_true rfl, Nat.le_of_ble_eq_true rfl⟩ ⟨Nat.zero_le _, Nat.zero_le _⟩ (Nat.le_of_ble_eq_true rfl) rfl (by first | assumption | omega) (by first | assumption | omega) dX0_wouldTell_2 ?_
  refine lv_aload_n hx hb dX0_wouldTell_5 rfl (lv_at hl 0 rfl) ?_
  refine lv_iload_n hx hb dX0_wouldTell_6 rfl (lv_at hl 2 rfl) ?_
  refine k_X0_requireInches hC hK hP hl.1 ⟨Nat.le_of_ble_eq_true rfl, Nat.le_of_ble_eq_true rfl⟩ ⟨Nat.zero_le _, Nat.zero_le _⟩ (Nat.le_of_ble_eq_true rfl)  (by first | assumption | omega) (by first | assumption | omega) dX0_wouldTell_7 ?_
  refine lv_aload_n hx hb dX0_wouldTell_10 rfl (lv_at hl 0 rfl) ?_
  refine lv_iload_n hx hb dX0_wouldTell_11 rfl (lv_at hl 1 rfl) ?_
  refine lv_iload_n hx hb dX0_wouldTell_12 rfl (lv_at hl 2 rfl) ?_
  refine k_X0_tale hC hK hP hl.1 ⟨Nat.le_of_ble_eq_true rfl, Nat.le_of_ble_eq_true rfl⟩ ⟨Nat.zero_le _, Nat.zero_le _⟩ (Nat.le_of_ble_eq_true rfl) rfl (by first | assumption | omega) dX0_wouldTell_13 ?_
  exact W.iret (v := sp_tale (nv i) b) hx hb hr (fun t ht hW => ⟨sp_tale (nv i) b, rfl, rfl, ht⟩) (fun q hq => absurd hq List.not_mem_nil) dX0_wouldTell_16
set_option maxHeartbeats 4000000 in
set_option maxRecDepth 100000 in
theorem c_X0_personOf (l : Launch) {D : va_G} {z : ClassId × ClassId} {a : Nat → Nat} {lv lk pu fa he : Nat → Int32} {n : Nat} {nv du ta : Nat → Int32} {w : Nat} {mp mi : Nat → Int32} {k : Nat} {nt fu re : Int32} (i : Nat) (hi : i < k) (hk : k ≤ 60) : Met l yX0_personOf (ws_ yX0_personOf cX0_personOf 2 (some .int)) ({ frames := 1, cells := 0, slots := 0, locals := 21 } : Room) (va_Pc [.ref (a 0), .int (nI i)] (xI D z a lv lk pu fa he n nv du ta w mp mi k nt fu re)) (vp_Si (fun r : Int32 => r = mp i)) 0 0 (fun _ => False) := by
  refine Met.ofW (cc := cX0_personOf) (maxL := 2) (ret := (some .int)) (by decide) rfl ?_
  intro p e s m args below meth c s₁ B hml hv
  obtain ⟨rfl, hP, hK⟩ := hv
  have hx := B.exec
  have hb := B.bytes
  have hr := B.returns
  have hts := atoms_spec (ws := ws_ yX0_personOf cX0_personOf 2 (some .int)) B.pre
  have hts : ∀ w ∈ lw_all, w.before _ s = true := fun w h => hts w (List.mem_cons_of_mem _ h)
  have hown : s.vm.findClass RX0 = some m.cls := findClass_of_methodNamed B.named
  have hlocks := B.notSynchronized
  have hC : CallFix p m c cX0_personOf 2 s _ lw_all RX0 := ⟨hx, hb, hml, hown, hts⟩
  have hl := lv_entry ([.ref (a 0), .int (nI i)]) (n := 2) (Nat.le_of_ble_eq_true rfl)
  rw [lg_entry_eq]
  generalize (lg_sl ([.ref (a 0), .int (nI i)]) ++ List.replicate (2 - (lg_sl ([.ref (a 0), .int (nI i)])).length) Slot.unset).toArray = ls at hl ⊢
  have hl : lv_has ls 2 [(0, .ref (a 0)), (1, .int (nI i))] := hl
  refine lv_aload_n hx hb dX0_personOf_0 rfl (lv_at hl 0 rfl) ?_
  refine lv_iload_n hx hb dX0_personOf_1 rfl (lv_at hl 1 rfl) ?_
  refine k_X0_requireMiss hC hK hP hl.1 ⟨Nat.le_of_ble_eq_true rfl, Nat.le_of_ble_eq_true rfl⟩ ⟨Nat.zero_le _, Nat.zero_le _⟩ (Nat.le_of_ble_eq_true rfl) rfl (by first | assumption | omega) (by first | assumption | omega) dX0_personOf_2 ?_
  refine lv_aload_n hx hb dX0_personOf_5 rfl (lv_at hl 0 rfl) ?_
  refine xg_mp hC hK hP dX0_personOf_6 ?_
  refine lv_iload_n hx hb dX0_personOf_9 rfl (lv_at hl 1 rfl) ?_
  refine xl_mp hC hK hP i rfl (by omega) dX0_personOf_10 ?_
  exact W.iret (v := mp i) hx hb hr (fun t ht hW => ⟨mp i, rfl, rfl, ht⟩) (fun q hq => absurd hq List.not_mem_nil) dX0_personOf_11
set_option maxHeartbeats 4000000 in
set_option maxRecDepth 100000 in
theorem c_X0_inchesOf (l : Launch) {D : va_G} {z : ClassId × ClassId} {a : Nat → Nat} {lv lk pu fa he : Nat → Int32} {n : Nat} {nv du ta : Nat → Int32} {w : Nat} {mp mi : Nat → Int32} {k : Nat} {nt fu re : Int32} (i : Nat) (hi : i < k) (hk : k ≤ 60) : Met l yX0_inchesOf (ws_ yX0_inchesOf cX0_inchesOf 2 (some .int)) ({ frames := 1, cells := 0, slots := 0, locals := 21 } : Room) (va_Pc [.ref (a 0), .int (nI i)] (xI D z a lv lk pu fa he n nv du ta w mp mi k nt fu re)) (vp_Si (fun r : Int32 => r = mi i)) 0 0 (fun _ => False) := by
  refine Met.ofW (cc := cX0_inchesOf) (maxL := 2) (ret := (some .int)) (by decide) rfl ?_
  intro p e s m args below meth c s₁ B hml hv
  obtain ⟨rfl, hP, hK⟩ := hv
  have hx := B.exec
  have hb := B.bytes
  have hr := B.returns
  have hts := atoms_spec (ws := ws_ yX0_inchesOf cX0_inchesOf 2 (some .int)) B.pre
  have hts : ∀ w ∈ lw_all, w.before _ s = true := fun w h => hts w (List.mem_cons_of_mem _ h)
  have hown : s.vm.findClass RX0 = some m.cls := findClass_of_methodNamed B.named
  have hlocks := B.notSynchronized
  have hC : CallFix p m c cX0_inchesOf 2 s _ lw_all RX0 := ⟨hx, hb, hml, hown, hts⟩
  have hl := lv_entry ([.ref (a 0), .int (nI i)]) (n := 2) (Nat.le_of_ble_eq_true rfl)
  rw [lg_entry_eq]
  generalize (lg_sl ([.ref (a 0), .int (nI i)]) ++ List.replicate (2 - (lg_sl ([.ref (a 0), .int (nI i)])).length) Slot.unset).toArray = ls at hl ⊢
  have hl : lv_has ls 2 [(0, .ref (a 0)), (1, .int (nI i))] := hl
  refine lv_aload_n hx hb dX0_inchesOf_0 rfl (lv_at hl 0 rfl) ?_
  refine lv_iload_n hx hb dX0_inchesOf_1 rfl (lv_at hl 1 rfl) ?_
  refine k_X0_requireMiss hC hK hP hl.1 ⟨Nat.le_of_ble_eq_true rfl, Nat.le_of_ble_eq_true rfl⟩ ⟨Nat.zero_le _, Nat.zero_le _⟩ (Nat.le_of_ble_eq_true rfl) rfl (by first | assumption | omega) (by first | assumption | omega) dX0_inchesOf_2 ?_
  refine lv_aload_n hx hb dX0_inchesOf_5 rfl (lv_at hl 0 rfl) ?_
  refine xg_mi hC hK hP dX0_inchesOf_6 ?_
  refine lv_iload_n hx hb dX0_inchesOf_9 rfl (lv_at hl 1 rfl) ?_
  refine xl_mi hC hK hP i rfl (by omega) dX0_inchesOf_10 ?_
  exact W.iret (v := mi i) hx hb hr (fun t ht hW => ⟨mi i, rfl, rfl, ht⟩) (fun q hq => absurd hq List.not_mem_nil) dX0_inchesOf_11
set_option maxHeartbeats 4000000 in
set_option maxRecDepth 100000 in
theorem c_X0_missesUntilShaken (l : Launch) {D : va_G} {z : ClassId × ClassId} {a : Nat → Nat} {lv lk pu fa he : Nat → Int32} {n : Nat} {nv du ta : Nat → Int32} {w : Nat} {mp mi : Nat → Int32} {k : Nat} {nt fu re : Int32} (b : Int32) (h1 : ¬ b < 1) (h2 : b ≤ 60) (hw : w ≤ 6) : Met l yX0_missesUntilShaken (ws_ yX0_missesUntilShaken cX0_missesUntilShaken 5 (some .int)) ({ frames := 1, cells := 0, slots := 0, locals := 23 } : Room) (va_Pc [.ref (a 0), .int b] (xI D z a lv lk pu fa he n nv du ta w mp mi k nt fu re)) (vp_Si (fun r : Int32 => r = sp_mus nv du w b)) 0 0 (fun _ => False) := by
  refine Met.ofW (cc := cX0_missesUntilShaken) (maxL := 5) (ret := (some .int)) (by decide) rfl ?_
  intro p e s m args below meth c s₁ B hml hv
  obtain ⟨rfl, hP, hK⟩ := hv
  have hx := B.exec
  have hb := B.bytes
  have hr := B.returns
  have hts := atoms_spec (ws := ws_ yX0_missesUntilShaken cX0_missesUntilShaken 5 (some .int)) B.pre
  have hts : ∀ w ∈ lw_all, w.before _ s = true := fun w h => hts w (List.mem_cons_of_mem _ h)
  have hown : s.vm.findClass RX0 = some m.cls := findClass_of_methodNamed B.named
  have hlocks := B.notSynchronized
  have hC : CallFix p m c cX0_missesUntilShaken 5 s _ lw_all RX0 := ⟨hx, hb, hml, hown, hts⟩
  have hl := lv_entry ([.ref (a 0), .int b]) (n := 5) (Nat.le_of_ble_eq_true rfl)
  rw [lg_entry_eq]
  generalize (lg_sl ([.ref (a 0), .int b]) ++ List.replicate (5 - (lg_sl ([.ref (a 0), .int b])).length) Slot.unset).toArray = ls at hl ⊢
  have hl : lv_has ls 5 [(0, .ref (a 0)), (1, .int b)] := hl
  refine lv_aload_n hx hb dX0_missesUntilShaken_0 rfl (lv_at hl 0 rfl) ?_
  refine lv_iload_n hx hb dX0_missesUntilShaken_1 rfl (lv_at hl 1 rfl) ?_
  refine k_X0_requireInches hC hK hP hl.1 ⟨Nat.le_of_ble_eq_true rfl, Nat.le_of_ble_eq_true rfl⟩ ⟨Nat.zero_le _, Nat.zero_le _⟩ (Nat.le_of_ble_eq_true rfl)  (by first | assumption | omega) (by first | assumption | omega) dX0_missesUntilShaken_2 ?_
  refine lv_aload_n hx hb dX0_missesUntilShaken_5 rfl (lv_at hl 0 rfl) ?_
  refine k_X0_steadiest hC hK hP hl.1 ⟨Nat.le_of_ble_eq_true rfl, Nat.le_of_ble_eq_true rfl⟩ ⟨Nat.zero_le _, Nat.zero_le _⟩ (Nat.le_of_ble_eq_true rfl)  (by first | assumption | omega) dX0_missesUntilShaken_6 ?_
  refine lv_istore_n (lv' := [(2, .int ((sp_best du nv w).1)), (0, .ref (a 0)), (1, .int b)]) hx hb dX0_missesUntilShaken_9 rfl hl (by decide) rfl (fun ls hl => ?_)
  refine lv_aload_n hx hb dX0_missesUntilShaken_10 rfl (lv_at hl 1 rfl) ?_
  refine lv_iload_n hx hb dX0_missesUntilShaken_11 rfl (lv_at hl 0 rfl) ?_
  refine k_X0_isWitness hC hK hP hl.1 ⟨Nat.le_of_ble_eq_true rfl, Nat.le_of_ble_eq_true rfl⟩ ⟨Nat.zero_le _, Nat.zero_le _⟩ (Nat.le_of_ble_eq_true rfl)   dX0_missesUntilShaken_12 ?_
  refine lv_if_ne (tgt := 20) hx hb dX0_missesUntilShaken_15 (by decide) (fun c_15 => ?_) (fun c_15 => ?_)
  · obtain ⟨y, hyw, hy⟩ := isP_ex (by omega) c_15
    have eNy : (sp_best du nv w).1.toNatClampNeg = y := by rw [hy]; exact nI_clamp (by omega)
    refine lv_iload_n hx hb dX0_missesUntilShaken_20 rfl (lv_at hl 2 rfl) ?_
    refine k_X0_nerveLoss hC hl.1 ⟨Nat.le_of_ble_eq_true rfl, Nat.le_of_ble_eq_true rfl⟩ ⟨Nat.zero_le _, Nat.zero_le _⟩ (Nat.le_of_ble_eq_true rfl)   dX0_missesUntilShaken_21 ?_
    refine lv_istore_n (lv' := [(3, .int (sp_loss b)), (2, .int ((sp_best du nv w).1)), (0, .ref (a 0)), (1, .int b)]) hx hb dX0_missesUntilShaken_24 rfl hl (by decide) rfl (fun ls hl => ?_)
    refine lv_iconst (v := 0) hx hb dX0_missesUntilShaken_25 (by decide) ?_
    refine lv_istore (lv' := [(4, .int 0), (3, .int (sp_loss b)), (2, .int ((sp_best du nv w).1)), (0, .ref (a 0)), (1, .int b)]) hx hb dX0_missesUntilShaken_26 hl (by decide) rfl (fun ls hl => ?_)
    have loop_28 : ∀ (f : Nat) (j : Nat), j ≤ 9 → j + f = 10 → sp_musN (nv y) (sp_loss b) f j = sp_musN (nv y) (sp_loss b) 10 0 → ∀ ls : Array Slot, lv_has ls 5 [(0, .ref (a 0)), (1, .int b), (2, .int ((sp_best du nv w).1)), (3, .int (sp_loss b)), (4, .int (nI j))] → W p l e ({ frames := 1, cells := 0, slots := 0, locals := 23 } : Room) s m ([.ref (a 0), .int b] : List Value).toArray below meth c s.heap [] 0 0 (MQ below (vp_Si (fun r : Int32 => r = sp_mus nv du w b)) ([.ref (a 0), .int b] : List Value).toArray s 0 0 (fun _ => False)) (F0 m 28 ls []) := by
      intro f
      induction f with
      | zero =>
        intro j hj hf er
        exact absurd hf (by omega)
      | succ f ih28 =>
        intro j hj hf er ls hl
        refine lv_iload hx hb dX0_missesUntilShaken_28 (lv_at hl 4 rfl) ?_
        refine lv_bipush (v := 9) hx hb dX0_missesUntilShaken_30 (by decide) ?_
        refine lv_icmp_ge (tgt := 56) hx hb dX0_missesUntilShaken_32 (by decide) (fun c_32 => ?_) (fun c_32 => ?_)
        · have nc_32 : 9 ≤ j := nn_le (by omega) c_32
          refine lv_iload hx hb dX0_missesUntilShaken_56 (lv_at hl 4 rfl) ?_
          exact W.iret (v := nI j) hx hb hr (fun t ht hW => ⟨nI j, rfl, (by unfold sp_mus; rw [if_neg c_15, eNy, ← er]; simp [sp_musN, nc_32]), ht⟩) (fun q hq => absurd hq List.not_mem_nil) dX0_missesUntilShaken_58
        · have nc_32 : j < 9 := nn_nle (by omega) c_32
          refine lv_aload_n hx hb dX0_missesUntilShaken_35 rfl (lv_at hl 0 rfl) ?_
          refine xg_nv hC hK hP dX0_missesUntilShaken_36 ?_
          refine lv_iload_n hx hb dX0_missesUntilShaken_39 rfl (lv_at hl 2 rfl) ?_
          refine xl_nv hC hK hP y hy (by omega) dX0_missesUntilShaken_40 ?_
          refine lv_iload hx hb dX0_missesUntilShaken_41 (lv_at hl 4 rfl) ?_
          refine lv_iload_n hx hb dX0_missesUntilShaken_43 rfl (lv_at hl 3 rfl) ?_
          refine lv_imul hx hb dX0_missesUntilShaken_44 ?_
          refine lv_isub hx hb dX0_missesUntilShaken_45 ?_
          refine lv_iconst (v := 2) hx hb dX0_missesUntilShaken_46 (by decide) ?_
          refine lv_icmp_le (tgt := 56) hx hb dX0_missesUntilShaken_47 (by decide) (fun c_47 => ?_) (fun c_47 => ?_)
          · refine lv_iload hx hb dX0_missesUntilShaken_56 (lv_at hl 4 rfl) ?_
            exact W.iret (v := nI j) hx hb hr (fun t ht hW => ⟨nI j, rfl, (by unfold sp_mus; rw [if_neg c_15, eNy, ← er]; simp [sp_musN, c_47]), ht⟩) (fun q hq => absurd hq List.not_mem_nil) dX0_missesUntilShaken_58
          · refine lv_iinc (v := nI (j + 1)) (lv' := [(4, .int (nI (j + 1))), (0, .ref (a 0)), (1, .int b), (2, .int ((sp_best du nv w).1)), (3, .int (sp_loss b))]) hx hb dX0_missesUntilShaken_50 hl (k := 4) rfl (nI_1 _) (by decide) rfl (fun ls hl => ?_)
            refine lv_goto (tgt := 28) hx hb dX0_missesUntilShaken_53 (by decide) ?_
            exact ih28 (j + 1) (by omega) (by omega) (by rw [← er]; simp [sp_musN, c_47, Nat.not_le.mpr nc_32]) _ (lv_sub hl [1, 2, 3, 4, 0] rfl)
    exact loop_28 10 0 (by omega) (by omega) rfl _ (lv_sub hl [3, 4, 2, 1, 0] rfl)
  · refine lv_iconst (v := 0) hx hb dX0_missesUntilShaken_18 (by decide) ?_
    exact W.iret (v := 0) hx hb hr (fun t ht hW => ⟨0, rfl, (by unfold sp_mus; rw [if_pos c_15]), ht⟩) (fun q hq => absurd hq List.not_mem_nil) dX0_missesUntilShaken_19
end
section
def sp_ins (t : Int32) : Nat → (Nat → Int32) → (Nat → Int32)
  | 0, g => upd g 0 t
  | p + 1, g => if g p ≤ t then upd g (p + 1) t else sp_ins t p (upd g (p + 1) (g p))
def sp_tn (du nv : Nat → Int32) : Nat → Nat
  | 0 => 0
  | j + 1 => if du j = 0 then sp_tn du nv j else if sp_sh (nv j) = 0 then sp_tn du nv j + 1 else sp_tn du nv j
def sp_tarr (du nv : Nat → Int32) (b : Int32) (g : Nat → Int32) : Nat → (Nat → Int32)
  | 0 => g
  | j + 1 => if du j = 0 then sp_tarr du nv b g j else if sp_sh (nv j) = 0 then sp_ins (sp_tale (nv j) b) (sp_tn du nv j) (sp_tarr du nv b g j) else sp_tarr du nv b g j
def sp_mid (du nv : Nat → Int32) (b : Int32) (g : Nat → Int32) (w : Nat) : Int32 := if sp_tn du nv w = 0 then 0 else sp_tarr du nv b g w ((sp_tn du nv w - 1) / 2)
def sp_fr (du : Nat → Int32) (q : Int32) (nv : Nat → Int32) : Nat → (Nat → Int32)
  | 0 => nv
  | j + 1 => if du j = 0 then sp_fr du q nv j else upd (sp_fr du q nv j) j (imax 0 (sp_fr du q nv j j - q))
def sp_nn (du nv : Nat → Int32) : Nat → (Nat → Int32)
  | 0 => nv
  | j + 1 => upd (sp_nn du nv j) j (imin 9 (sp_nn du nv j j + sp_gain (du j)))
def sp_nl (lv lk : Nat → Int32) : Nat → (Nat → Int32)
  | 0 => lk
  | j + 1 => if lv j = 0 then sp_nl lv lk j else upd (sp_nl lv lk j) j (imin 99 (sp_nl lv lk j j + 1))
def sp_pn (du : Nat → Int32) (w : Nat) (nv : Nat → Int32) : Nat → (Nat → Int32)
  | 0 => nv
  | t + 1 => sp_nn du (sp_pn du w nv t) w
def sp_pl (lv : Nat → Int32) (n : Nat) (lk : Nat → Int32) : Nat → (Nat → Int32)
  | 0 => lk
  | t + 1 => sp_nl lv (sp_pl lv n lk t) n
theorem ni_m1 {i : Nat} (h : i < 2 ^ 31) : ¬ nI i = -1 := fun q => by
  have h1 := congrArg Int32.toInt q
  rw [nI_toInt h] at h1
  have h2 : (-1 : Int32).toInt = -1 := by decide
  omega
def sp_not (x : Int32) : Int32 := if x = 0 then 1 else 0
theorem ix_mid {q : Nat} (h0 : 0 < q) (h : q < 100) : (nI q - 1) / 2 = nI ((q - 1) / 2) := by
  rw [show nI q - 1 = nI (q - 1) from pk_sub (a := q) (b := 1) h0]
  exact pk_div (a := q - 1) (d := 2) (by omega) (by decide) (by decide)

set_option maxHeartbeats 4000000 in
set_option maxRecDepth 100000 in
theorem c_X0_insertTale (l : Launch) (sz : Nat) {D : va_G} {z : ClassId × ClassId} {a : Nat → Nat} {lv lk pu fa he : Nat → Int32} {n : Nat} {nv du ta : Nat → Int32} {w : Nat} {mp mi : Nat → Int32} {k : Nat} {nt fu re : Int32} (j : Nat) (hj : j < 6) (tv : Int32) : Met l yX0_insertTale (ws_ yX0_insertTale cX0_insertTale 4 none) ({ frames := 0, cells := 0, slots := 0, locals := 0 } : Room) (va_Pc [.ref (a 0), .int (nI j), .int tv] (fun U => U.heap.size = sz ∧ xI D z a lv lk pu fa he n nv du ta w mp mi k nt fu re U ∧ va_D (fun _ => True) (xW z a lv lk pu fa he n nv du ta w mp mi k nt fu re))) (va_Qv (fun _ : Unit => True) (fun _ t9 => va_P D vwCl (xW z a lv lk pu fa he n nv du (sp_ins tv j ta) w mp mi k nt fu re) t9.heap ∧ kK D z t9 ∧ va_D (va_A (xW z a lv lk pu fa he n nv du ta w mp mi k nt fu re) sz) (xW z a lv lk pu fa he n nv du (sp_ins tv j ta) w mp mi k nt fu re)) (va_A (xW z a lv lk pu fa he n nv du ta w mp mi k nt fu re) sz)) 0 0 (va_A (xW z a lv lk pu fa he n nv du ta w mp mi k nt fu re) sz) := by
  refine Met.ofW (cc := cX0_insertTale) (maxL := 4) (ret := none) (by decide) rfl ?_
  intro p e s m args below meth c s₁ B hml hv
  obtain ⟨rfl, hsz, ⟨hP, hK⟩, hD0⟩ := hv
  have hx := B.exec
  have hb := B.bytes
  have hr := B.returns
  have hts := atoms_spec (ws := ws_ yX0_insertTale cX0_insertTale 4 none) B.pre
  have hts : ∀ w ∈ lw_all, w.before _ s = true := fun w h => hts w (List.mem_cons_of_mem _ h)
  have hown : s.vm.findClass RX0 = some m.cls := findClass_of_methodNamed B.named
  have hlocks := B.notSynchronized
  have hC : CallFix p m c cX0_insertTale 4 s _ lw_all RX0 := ⟨hx, hb, hml, hown, hts⟩
  subst hsz
  have hD := hD0.self (sz := s.heap.size)
  generalize hAe : va_A (xW z a lv lk pu fa he n nv du ta w mp mi k nt fu re) s.heap.size = A at hD ⊢
  have hA : ∀ q : Nat, s.heap.size ≤ q → A q := fun q h => by rw [← hAe]; exact Or.inr h
  have hS : va_S A s.heap s.heap [] := va_S.rf
  have hl := lv_entry ([.ref (a 0), .int (nI j), .int tv]) (n := 4) (Nat.le_of_ble_eq_true rfl)
  rw [lg_entry_eq]
  generalize (lg_sl ([.ref (a 0), .int (nI j), .int tv]) ++ List.replicate (4 - (lg_sl ([.ref (a 0), .int (nI j), .int tv])).length) Slot.unset).toArray = ls at hl ⊢
  have hl : lv_has ls 4 [(0, .ref (a 0)), (1, .int (nI j)), (2, .int tv)] := hl
  refine lv_iload_n hx hb dX0_insertTale_0 rfl (lv_at hl 1 rfl) ?_
  refine lv_istore_n (lv' := [(3, .int (nI j)), (0, .ref (a 0)), (1, .int (nI j)), (2, .int tv)]) hx hb dX0_insertTale_1 rfl hl (by decide) rfl (fun ls hl => ?_)
  have loop_2 : ∀ (f : Nat) (pl : Nat) (g : Nat → Int32), pl ≤ j → pl + 1 ≤ f → sp_ins tv pl g = sp_ins tv j ta → ∀ (H : Heap) (locs : List Loc), va_P D vwCl (xW z a lv lk pu fa he n nv du g w mp mi k nt fu re) H → va_D A (xW z a lv lk pu fa he n nv du g w mp mi k nt fu re) → va_S A s.heap H locs → ∀ ls : Array Slot, lv_has ls 4 [(0, .ref (a 0)), (1, .int (nI j)), (2, .int tv), (3, .int (nI pl))] → W p l e ({ frames := 0, cells := 0, slots := 0, locals := 0 } : Room) s m ([.ref (a 0), .int (nI j), .int tv] : List Value).toArray below meth c H locs 0 0 (MQ below (va_Qv (fun _ : Unit => True) (fun _ t9 => va_P D vwCl (xW z a lv lk pu fa he n nv du (sp_ins tv j ta) w mp mi k nt fu re) t9.heap ∧ kK D z t9 ∧ va_D A (xW z a lv lk pu fa he n nv du (sp_ins tv j ta) w mp mi k nt fu re)) A) ([.ref (a 0), .int (nI j), .int tv] : List Value).toArray s 0 0 A) (F0 m 2 ls []) := by
    intro f
    induction f with
    | zero =>
      intro pl g hp hf eg
      exact absurd hf (by omega)
    | succ f ih2 =>
      intro pl g hp hf eg H locs hP hD hS ls hl
      refine lv_iload_n hx hb dX0_insertTale_2 rfl (lv_at hl 3 rfl) ?_
      refine lv_if_le (tgt := 38) hx hb dX0_insertTale_3 (by decide) (fun c_3 => ?_) (fun c_3 => ?_)
      · have nc_3 : pl ≤ 0 := nn_le (by omega) c_3
        refine lv_aload_n hx hb dX0_insertTale_38 rfl (lv_at hl 0 rfl) ?_
        refine xg_ta hC hK hP dX0_insertTale_39 ?_
        refine lv_iload_n hx hb dX0_insertTale_42 rfl (lv_at hl 3 rfl) ?_
        refine lv_iload_n hx hb dX0_insertTale_43 rfl (lv_at hl 2 rfl) ?_
        refine xs_ta hC hK hP hD hS pl rfl (by omega) dX0_insertTale_44 (fun H locs hP hD hS => ?_)
        have hW9 : (xW z a lv lk pu fa he n nv du (upd g pl tv) w mp mi k nt fu re : va_W) = xW z a lv lk pu fa he n nv du (sp_ins tv j ta) w mp mi k nt fu re := (by rw [← eg]; obtain rfl : pl = 0 := (by omega); rfl)
        rw [hW9] at hP hD
        exact W.vret hx hb hr (fun t ht hW => ⟨⟨(), rfl, trivial, by rw [ht]; exact hP, va_K.moved hW.alike hK, hD⟩, hS.F ht⟩) hS.2.2 dX0_insertTale_45
      · have nc_3 : 0 < pl := nn_nle (by omega) c_3
        obtain ⟨q, rfl⟩ : ∃ q : Nat, pl = q + 1 := ⟨pl - 1, by omega⟩
        refine lv_aload_n hx hb dX0_insertTale_6 rfl (lv_at hl 0 rfl) ?_
        refine xg_ta hC hK hP dX0_insertTale_7 ?_
        refine lv_iload_n hx hb dX0_insertTale_10 rfl (lv_at hl 3 rfl) ?_
        refine lv_iconst (v := 1) hx hb dX0_insertTale_11 (by decide) ?_
        refine lv_isub hx hb dX0_insertTale_12 ?_
        refine xl_ta hC hK hP q (nI_pred _) (by omega) dX0_insertTale_13 ?_
        refine lv_iload_n hx hb dX0_insertTale_14 rfl (lv_at hl 2 rfl) ?_
        refine lv_icmp_le (tgt := 38) hx hb dX0_insertTale_15 (by decide) (fun c_15 => ?_) (fun c_15 => ?_)
        · refine lv_aload_n hx hb dX0_insertTale_38 rfl (lv_at hl 0 rfl) ?_
          refine xg_ta hC hK hP dX0_insertTale_39 ?_
          refine lv_iload_n hx hb dX0_insertTale_42 rfl (lv_at hl 3 rfl) ?_
          refine lv_iload_n hx hb dX0_insertTale_43 rfl (lv_at hl 2 rfl) ?_
          refine xs_ta hC hK hP hD hS (q + 1) rfl (by omega) dX0_insertTale_44 (fun H locs hP hD hS => ?_)
          have hW9 : (xW z a lv lk pu fa he n nv du (upd g (q + 1) tv) w mp mi k nt fu re : va_W) = xW z a lv lk pu fa he n nv du (sp_ins tv j ta) w mp mi k nt fu re := (by rw [← eg]; simp [sp_ins, c_15])
          rw [hW9] at hP hD
          exact W.vret hx hb hr (fun t ht hW => ⟨⟨(), rfl, trivial, by rw [ht]; exact hP, va_K.moved hW.alike hK, hD⟩, hS.F ht⟩) hS.2.2 dX0_insertTale_45
        · refine lv_aload_n hx hb dX0_insertTale_18 rfl (lv_at hl 0 rfl) ?_
          refine xg_ta hC hK hP dX0_insertTale_19 ?_
          refine lv_iload_n hx hb dX0_insertTale_22 rfl (lv_at hl 3 rfl) ?_
          refine lv_aload_n hx hb dX0_insertTale_23 rfl (lv_at hl 0 rfl) ?_
          refine xg_ta hC hK hP dX0_insertTale_24 ?_
          refine lv_iload_n hx hb dX0_insertTale_27 rfl (lv_at hl 3 rfl) ?_
          refine lv_iconst (v := 1) hx hb dX0_insertTale_28 (by decide) ?_
          refine lv_isub hx hb dX0_insertTale_29 ?_
          refine xl_ta hC hK hP q (nI_pred _) (by omega) dX0_insertTale_30 ?_
          refine xs_ta hC hK hP hD hS (q + 1) rfl (by omega) dX0_insertTale_31 (fun H locs hP hD hS => ?_)
          refine lv_iinc (v := nI q) (lv' := [(3, .int (nI q)), (0, .ref (a 0)), (1, .int (nI j)), (2, .int tv)]) hx hb dX0_insertTale_32 hl (k := 3) rfl (pk_m1 _) (by decide) rfl (fun ls hl => ?_)
          refine lv_goto (tgt := 2) hx hb dX0_insertTale_35 (by decide) ?_
          exact ih2 q (upd g (q + 1) (g q)) (by omega) (by omega) (by rw [← eg]; simp [sp_ins, c_15]) _ _ hP hD hS _ (lv_sub hl [1, 2, 3, 0] rfl)
  exact loop_2 (j + 1) j ta (Nat.le_refl _) (Nat.le_refl _) rfl _ _ hP hD hS _ (lv_sub hl [1, 2, 3, 0] rfl)
set_option maxRecDepth 100000 in
theorem k_X0_insertTale {p : Program} {l : Launch} {e : Env} {R : Room} {s : State} {m : MethodId} {args : Array Value} {below : List Frame} {meth : Method} {c : Code} {H : Heap} {locs : List Loc} {cells slots : Nat} {Q : State → Prop} {D : va_G} {z : ClassId × ClassId} {a : Nat → Nat} {lv lk pu fa he : Nat → Int32} {n : Nat} {nv du ta : Nat → Int32} {w : Nat} {mp mi : Nat → Int32} {k : Nat} {nt fu re : Int32} {cc : ByteArray} {nL pc : Nat} {ls : Array Slot} {rest : List Value} {A : Nat → Prop} {H0 : Heap} (hC : CallFix p m c cc nL s args lw_all RX0) (hK : kK D z s) (hP : va_P D vwCl (xW z a lv lk pu fa he n nv du ta w mp mi k nt fu re) H) (hD : va_D A (xW z a lv lk pu fa he n nv du ta w mp mi k nt fu re)) (hS : va_S A H0 H locs) (hA : ∀ q : Nat, H0.size ≤ q → A q) (hl : ls.size = nL) (hR : 1 ≤ R.frames ∧ 23 ≤ R.locals) (hz : cells ≤ R.cells ∧ slots ≤ R.slots) (hr : (rest.map fun v => v.category).sum ≤ 8) {j : Nat} {tv : Int32} {x0 : Int32} (hx0 : x0 = nI j) (hj : j < 6) (hdg : decode cc pc = .ok (.invokevirtual 197, 3)) (kk : ∀ (H1 : Heap) (locs1 : List Loc), va_P D vwCl (xW z a lv lk pu fa he n nv du (sp_ins tv j ta) w mp mi k nt fu re) H1 → va_D A (xW z a lv lk pu fa he n nv du (sp_ins tv j ta) w mp mi k nt fu re) → va_S A H0 H1 locs1 → W p l e R s m args below meth c H1 locs1 cells slots Q (F0 m (pc + 3) ls rest)) : W p l e R s m args below meth c H locs cells slots Q (F0 m pc ls (.int tv :: .int x0 :: .ref (a 0) :: rest)) := by
  subst hx0
  have hF := va_free (wc := xW z a lv lk pu fa he n nv du ta w mp mi k nt fu re) hD hS hA [0, 1, 2, 3, 4, 5, 6, 7, 8, 9, 10] rfl
  refine va_callv (va_runV (As := [.int (nI j), .int tv]) (rest := rest) hC (c_X0_insertTale l H.size j hj tv) (cwV 2 hC.2.2.2.2 (gi_V mM_X0_197 mV_X0_insertTale mS_X0_insertTale mI_MissRegistry mC_X0_insertTale) rfl rfl rfl (by decide +kernel) hR) ⟨fun a1 U g mk q => ⟨q.1, q.2.1, ⟨q.2.2.1.1, va_K.moved (u := U) (U := U.calling g mk a1) (Vm.Alike.refl U.vm) q.2.2.1.2⟩, q.2.2.2⟩, va_recv hK hP (ci := 0) (q0 := 0) rfl rfl, fun U hU hW => ⟨rfl, by rw [hU], ⟨by rw [hU]; exact hP, va_K.moved hW.alike hK⟩, hD.weaken (fun _ _ _ _ => trivial)⟩⟩ rfl rfl hl rfl (lv_room hr) hdg hz) hS (fun q _ h => hF q h) hF (fun u t H1 locs1 ht hvm hw hB hz1 hk1 hS1 => ?_)
  obtain ⟨hP1, hK1, hD1⟩ := hB
  rw [ht] at hP1
  exact kk H1 locs1 hP1 (hD1.weaken (fun _ q9 _ h => hF q9.1 h)) hS1
set_option maxHeartbeats 4000000 in
set_option maxRecDepth 100000 in
theorem c_X0_middleTale (l : Launch) (sz : Nat) {D : va_G} {z : ClassId × ClassId} {a : Nat → Nat} {lv lk pu fa he : Nat → Int32} {n : Nat} {nv du ta : Nat → Int32} {w : Nat} {mp mi : Nat → Int32} {k : Nat} {nt fu re : Int32} (b : Int32) (hw : w ≤ 6) : Met l yX0_middleTale (ws_ yX0_middleTale cX0_middleTale 4 (some .int)) ({ frames := 2, cells := 0, slots := 0, locals := 43 } : Room) (va_Pc [.ref (a 0), .int b] (fun U => U.heap.size = sz ∧ xI D z a lv lk pu fa he n nv du ta w mp mi k nt fu re U ∧ va_D (fun _ => True) (xW z a lv lk pu fa he n nv du ta w mp mi k nt fu re))) (va_Qi (fun (r : Int32) (_ : Unit) => r = sp_mid du nv b ta w) (fun _ t9 => va_P D vwCl (xW z a lv lk pu fa he n nv du (sp_tarr du nv b ta w) w mp mi k nt fu re) t9.heap ∧ kK D z t9 ∧ va_D (va_A (xW z a lv lk pu fa he n nv du ta w mp mi k nt fu re) sz) (xW z a lv lk pu fa he n nv du (sp_tarr du nv b ta w) w mp mi k nt fu re)) (va_A (xW z a lv lk pu fa he n nv du ta w mp mi k nt fu re) sz)) 0 0 (va_A (xW z a lv lk pu fa he n nv du ta w mp mi k nt fu re) sz) := by
  refine Met.ofW (cc := cX0_middleTale) (maxL := 4) (ret := (some .int)) (by decide) rfl ?_
  intro p e s m args below meth c s₁ B hml hv
  obtain ⟨rfl, hsz, ⟨hP, hK⟩, hD0⟩ := hv
  have hx := B.exec
  have hb := B.bytes
  have hr := B.returns
  have hts := atoms_spec (ws := ws_ yX0_middleTale cX0_middleTale 4 (some .int)) B.pre
  have hts : ∀ w ∈ lw_all, w.before _ s = true := fun w h => hts w (List.mem_cons_of_mem _ h)
  have hown : s.vm.findClass RX0 = some m.cls := findClass_of_methodNamed B.named
  have hlocks := B.notSynchronized
  have hC : CallFix p m c cX0_middleTale 4 s _ lw_all RX0 := ⟨hx, hb, hml, hown, hts⟩
  subst hsz
  have hD := hD0.self (sz := s.heap.size)
  generalize hAe : va_A (xW z a lv lk pu fa he n nv du ta w mp mi k nt fu re) s.heap.size = A at hD ⊢
  have hA : ∀ q : Nat, s.heap.size ≤ q → A q := fun q h => by rw [← hAe]; exact Or.inr h
  have hS : va_S A s.heap s.heap [] := va_S.rf
  have hl := lv_entry ([.ref (a 0), .int b]) (n := 4) (Nat.le_of_ble_eq_true rfl)
  rw [lg_entry_eq]
  generalize (lg_sl ([.ref (a 0), .int b]) ++ List.replicate (4 - (lg_sl ([.ref (a 0), .int b])).length) Slot.unset).toArray = ls at hl ⊢
  have hl : lv_has ls 4 [(0, .ref (a 0)), (1, .int b)] := hl
  refine lv_iconst (v := 0) hx hb dX0_middleTale_0 (by decide) ?_
  refine lv_istore_n (lv' := [(2, .int 0), (0, .ref (a 0)), (1, .int b)]) hx hb dX0_middleTale_1 rfl hl (by decide) rfl (fun ls hl => ?_)
  refine lv_iconst (v := 0) hx hb dX0_middleTale_2 (by decide) ?_
  refine lv_istore_n (lv' := [(3, .int 0), (2, .int 0), (0, .ref (a 0)), (1, .int b)]) hx hb dX0_middleTale_3 rfl hl (by decide) rfl (fun ls hl => ?_)
  have loop_4 : ∀ (f : Nat) (j : Nat) (q : Nat) (g : Nat → Int32), j ≤ w → w + 1 ≤ j + f → q ≤ j → q = sp_tn du nv j → g = sp_tarr du nv b ta j → ∀ (H : Heap) (locs : List Loc), va_P D vwCl (xW z a lv lk pu fa he n nv du g w mp mi k nt fu re) H → va_D A (xW z a lv lk pu fa he n nv du g w mp mi k nt fu re) → va_S A s.heap H locs → ∀ ls : Array Slot, lv_has ls 4 [(0, .ref (a 0)), (1, .int b), (2, .int (nI q)), (3, .int (nI j))] → W p l e ({ frames := 2, cells := 0, slots := 0, locals := 43 } : Room) s m ([.ref (a 0), .int b] : List Value).toArray below meth c H locs 0 0 (MQ below (va_Qi (fun (r : Int32) (_ : Unit) => r = sp_mid du nv b ta w) (fun _ t9 => va_P D vwCl (xW z a lv lk pu fa he n nv du (sp_tarr du nv b ta w) w mp mi k nt fu re) t9.heap ∧ kK D z t9 ∧ va_D A (xW z a lv lk pu fa he n nv du (sp_tarr du nv b ta w) w mp mi k nt fu re)) A) ([.ref (a 0), .int b] : List Value).toArray s 0 0 A) (F0 m 4 ls []) := by
    intro f
    induction f with
    | zero =>
      intro j q g hj hf hqj hq hg
      exact absurd hf (by omega)
    | succ f ih4 =>
      intro j q g hj hf hqj hq hg H locs hP hD hS ls hl
      refine lv_iload_n hx hb dX0_middleTale_4 rfl (lv_at hl 3 rfl) ?_
      refine lv_aload_n hx hb dX0_middleTale_5 rfl (lv_at hl 0 rfl) ?_
      refine xg_w hC hK hP dX0_middleTale_6 ?_
      refine lv_icmp_ge (tgt := 49) hx hb dX0_middleTale_9 (by decide) (fun c_9 => ?_) (fun c_9 => ?_)
      · have nc_9 : w ≤ j := nn_le (by omega) c_9
        have ej : j = w := by omega
        rw [ej] at hq hg
        refine lv_iload_n hx hb dX0_middleTale_49 rfl (lv_at hl 2 rfl) ?_
        refine lv_if_ne (tgt := 55) hx hb dX0_middleTale_50 (by decide) (fun c_50 => ?_) (fun c_50 => ?_)
        · have nc_50 : ¬ q = 0 := nn_ne (by omega) c_50
          refine lv_aload_n hx hb dX0_middleTale_55 rfl (lv_at hl 0 rfl) ?_
          refine xg_ta hC hK hP dX0_middleTale_56 ?_
          refine lv_iload_n hx hb dX0_middleTale_59 rfl (lv_at hl 2 rfl) ?_
          refine lv_iconst (v := 1) hx hb dX0_middleTale_60 (by decide) ?_
          refine lv_isub hx hb dX0_middleTale_61 ?_
          refine lv_iconst (v := 2) hx hb dX0_middleTale_62 (by decide) ?_
          refine lv_idiv hx hb dX0_middleTale_63 (by decide) ?_
          refine xl_ta hC hK hP ((q - 1) / 2) (ix_mid (by omega) (by omega)) (by omega) dX0_middleTale_64 ?_
          have hW9 : (xW z a lv lk pu fa he n nv du g w mp mi k nt fu re : va_W) = xW z a lv lk pu fa he n nv du (sp_tarr du nv b ta w) w mp mi k nt fu re := (by rw [hg])
          rw [hW9] at hP hD
          exact W.iret (v := g ((q - 1) / 2)) hx hb hr (fun t ht hW => ⟨⟨g ((q - 1) / 2), (), rfl, (by unfold sp_mid; rw [if_neg (by omega), hg, hq]), by rw [ht]; exact hP, va_K.moved hW.alike hK, hD⟩, hS.F ht⟩) hS.2.2 dX0_middleTale_65
        · have nc_50 : q = 0 := nn_eq (by omega) c_50
          refine lv_iconst (v := 0) hx hb dX0_middleTale_53 (by decide) ?_
          have hW9 : (xW z a lv lk pu fa he n nv du g w mp mi k nt fu re : va_W) = xW z a lv lk pu fa he n nv du (sp_tarr du nv b ta w) w mp mi k nt fu re := (by rw [hg])
          rw [hW9] at hP hD
          exact W.iret (v := 0) hx hb hr (fun t ht hW => ⟨⟨0, (), rfl, (by unfold sp_mid; rw [if_pos (by omega)]), by rw [ht]; exact hP, va_K.moved hW.alike hK, hD⟩, hS.F ht⟩) hS.2.2 dX0_middleTale_54
      · have nc_9 : j < w := nn_nle (by omega) c_9
        refine lv_aload_n hx hb dX0_middleTale_12 rfl (lv_at hl 0 rfl) ?_
        refine xg_du hC hK hP dX0_middleTale_13 ?_
        refine lv_iload_n hx hb dX0_middleTale_16 rfl (lv_at hl 3 rfl) ?_
        refine xl_du hC hK hP j rfl (by omega) dX0_middleTale_17 ?_
        refine lv_if_eq (tgt := 43) hx hb dX0_middleTale_18 (by decide) (fun c_18 => ?_) (fun c_18 => ?_)
        · refine lv_iinc (v := nI (j + 1)) (lv' := [(3, .int (nI (j + 1))), (0, .ref (a 0)), (1, .int b), (2, .int (nI q))]) hx hb dX0_middleTale_43 hl (k := 3) rfl (nI_1 _) (by decide) rfl (fun ls hl => ?_)
          refine lv_goto (tgt := 4) hx hb dX0_middleTale_46 (by decide) ?_
          exact ih4 (j + 1) q g (by omega) (by omega) (by omega) (by simp [sp_tn, hq, c_18]) (by simp [sp_tarr, hg, hq, c_18]) _ _ hP hD hS _ (lv_sub hl [1, 2, 3, 0] rfl)
        · refine lv_aload_n hx hb dX0_middleTale_21 rfl (lv_at hl 0 rfl) ?_
          refine lv_iload_n hx hb dX0_middleTale_22 rfl (lv_at hl 3 rfl) ?_
          refine k_X0_isShaken hC hK hP hl.1 ⟨Nat.le_of_ble_eq_true rfl, Nat.le_of_ble_eq_true rfl⟩ ⟨Nat.zero_le _, Nat.zero_le _⟩ (Nat.le_of_ble_eq_true rfl) rfl (by first | assumption | omega) dX0_middleTale_23 ?_
          refine lv_if_ne (tgt := 43) hx hb dX0_middleTale_26 (by decide) (fun c_26 => ?_) (fun c_26 => ?_)
          · refine lv_iinc (v := nI (j + 1)) (lv' := [(3, .int (nI (j + 1))), (0, .ref (a 0)), (1, .int b), (2, .int (nI q))]) hx hb dX0_middleTale_43 hl (k := 3) rfl (nI_1 _) (by decide) rfl (fun ls hl => ?_)
            refine lv_goto (tgt := 4) hx hb dX0_middleTale_46 (by decide) ?_
            exact ih4 (j + 1) q g (by omega) (by omega) (by omega) (by simp [sp_tn, hq, c_18, c_26]) (by simp [sp_tarr, hg, hq, c_18, c_26]) _ _ hP hD hS _ (lv_sub hl [1, 2, 3, 0] rfl)
          · refine lv_aload_n hx hb dX0_middleTale_29 rfl (lv_at hl 0 rfl) ?_
            refine lv_iload_n hx hb dX0_middleTale_30 rfl (lv_at hl 2 rfl) ?_
            refine lv_aload_n hx hb dX0_middleTale_31 rfl (lv_at hl 0 rfl) ?_
            refine lv_iload_n hx hb dX0_middleTale_32 rfl (lv_at hl 3 rfl) ?_
            refine lv_iload_n hx hb dX0_middleTale_33 rfl (lv_at hl 1 rfl) ?_
            refine k_X0_tale hC hK hP hl.1 ⟨Nat.le_of_ble_eq_true rfl, Nat.le_of_ble_eq_true rfl⟩ ⟨Nat.zero_le _, Nat.zero_le _⟩ (Nat.le_of_ble_eq_true rfl) rfl (by first | assumption | omega) dX0_middleTale_34 ?_
            refine k_X0_insertTale hC hK hP hD hS hA hl.1 ⟨Nat.le_of_ble_eq_true rfl, Nat.le_of_ble_eq_true rfl⟩ ⟨Nat.zero_le _, Nat.zero_le _⟩ (Nat.le_of_ble_eq_true rfl) rfl (by first | assumption | omega) dX0_middleTale_37 (fun H locs hP hD hS => ?_)
            refine lv_iinc (v := nI (q + 1)) (lv' := [(2, .int (nI (q + 1))), (0, .ref (a 0)), (1, .int b), (3, .int (nI j))]) hx hb dX0_middleTale_40 hl (k := 2) rfl (nI_1 _) (by decide) rfl (fun ls hl => ?_)
            refine lv_iinc (v := nI (j + 1)) (lv' := [(3, .int (nI (j + 1))), (2, .int (nI (q + 1))), (0, .ref (a 0)), (1, .int b)]) hx hb dX0_middleTale_43 hl (k := 3) rfl (nI_1 _) (by decide) rfl (fun ls hl => ?_)
            refine lv_goto (tgt := 4) hx hb dX0_middleTale_46 (by decide) ?_
            exact ih4 (j + 1) (q + 1) (sp_ins (sp_tale (nv j) b) q g) (by omega) (by omega) (by omega) (by simp [sp_tn, hq, c_18, c_26]) (by simp [sp_tarr, hg, hq, c_18, c_26]) _ _ hP hD hS _ (lv_sub hl [2, 3, 1, 0] rfl)
  exact loop_4 (w + 1) 0 0 ta (Nat.zero_le _) (by omega) (Nat.le_refl _) rfl rfl _ _ hP hD hS _ (lv_sub hl [2, 3, 1, 0] rfl)
set_option maxRecDepth 100000 in
theorem k_X0_middleTale {p : Program} {l : Launch} {e : Env} {R : Room} {s : State} {m : MethodId} {args : Array Value} {below : List Frame} {meth : Method} {c : Code} {H : Heap} {locs : List Loc} {cells slots : Nat} {Q : State → Prop} {D : va_G} {z : ClassId × ClassId} {a : Nat → Nat} {lv lk pu fa he : Nat → Int32} {n : Nat} {nv du ta : Nat → Int32} {w : Nat} {mp mi : Nat → Int32} {k : Nat} {nt fu re : Int32} {cc : ByteArray} {nL pc : Nat} {ls : Array Slot} {rest : List Value} {A : Nat → Prop} {H0 : Heap} (hC : CallFix p m c cc nL s args lw_all RX0) (hK : kK D z s) (hP : va_P D vwCl (xW z a lv lk pu fa he n nv du ta w mp mi k nt fu re) H) (hD : va_D A (xW z a lv lk pu fa he n nv du ta w mp mi k nt fu re)) (hS : va_S A H0 H locs) (hA : ∀ q : Nat, H0.size ≤ q → A q) (hl : ls.size = nL) (hR : 3 ≤ R.frames ∧ 66 ≤ R.locals) (hz : cells ≤ R.cells ∧ slots ≤ R.slots) (hr : (rest.map fun v => v.category).sum ≤ 8) {b : Int32}  (hw : w ≤ 6) (hdg : decode cc pc = .ok (.invokevirtual 95, 3)) (kk : ∀ (H1 : Heap) (locs1 : List Loc), va_P D vwCl (xW z a lv lk pu fa he n nv du (sp_tarr du nv b ta w) w mp mi k nt fu re) H1 → va_D A (xW z a lv lk pu fa he n nv du (sp_tarr du nv b ta w) w mp mi k nt fu re) → va_S A H0 H1 locs1 → W p l e R s m args below meth c H1 locs1 cells slots Q (F0 m (pc + 3) ls (.int (sp_mid du nv b ta w) :: rest))) : W p l e R s m args below meth c H locs cells slots Q (F0 m pc ls (.int b :: .ref (a 0) :: rest)) := by
  have hF := va_free (wc := xW z a lv lk pu fa he n nv du ta w mp mi k nt fu re) hD hS hA [0, 1, 2, 3, 4, 5, 6, 7, 8, 9, 10] rfl
  refine va_calli (va_runV (As := [.int b]) (rest := rest) hC (c_X0_middleTale l H.size b hw) (cwV 1 hC.2.2.2.2 (gi_V mM_X0_95 mV_X0_middleTale mS_X0_middleTale mI_MissRegistry mC_X0_middleTale) rfl rfl rfl (by decide +kernel) hR) ⟨fun a1 U g mk q => ⟨q.1, q.2.1, ⟨q.2.2.1.1, va_K.moved (u := U) (U := U.calling g mk a1) (Vm.Alike.refl U.vm) q.2.2.1.2⟩, q.2.2.2⟩, va_recv hK hP (ci := 0) (q0 := 0) rfl rfl, fun U hU hW => ⟨rfl, by rw [hU], ⟨by rw [hU]; exact hP, va_K.moved hW.alike hK⟩, hD.weaken (fun _ _ _ _ => trivial)⟩⟩ rfl rfl hl rfl (lv_room hr) hdg hz) hS (fun q _ h => hF q h) hF (fun r u t H1 locs1 ht hvm hw hB hz1 hk1 hS1 => ?_)
  obtain ⟨hP1, hK1, hD1⟩ := hB
  rw [ht] at hP1
  have hw : r = sp_mid du nv b ta w := hw
  rw [hw]
  exact kk H1 locs1 hP1 (hD1.weaken (fun _ q9 _ h => hF q9.1 h)) hS1
set_option maxHeartbeats 4000000 in
set_option maxRecDepth 100000 in
theorem c_X0_refundFate (l : Launch) (sz : Nat) {D : va_G} {z : ClassId × ClassId} {a : Nat → Nat} {lv lk pu fa he : Nat → Int32} {n : Nat} {nv du ta : Nat → Int32} {w : Nat} {mp mi : Nat → Int32} {k : Nat} {nt fu re : Int32} (i : Nat) (hi : i < 10) (b : Int32) : Met l yX0_refundFate (ws_ yX0_refundFate cX0_refundFate 4 none) ({ frames := 2, cells := 0, slots := 0, locals := 44 } : Room) (va_Pc [.ref (a 0), .int (nI i), .int b] (fun U => U.heap.size = sz ∧ xI D z a lv lk pu fa he n nv du ta w mp mi k nt fu re U ∧ va_D (fun _ => True) (xW z a lv lk pu fa he n nv du ta w mp mi k nt fu re))) (va_Qv (fun _ : Unit => True) (fun _ t9 => va_P D vwCl (xW z a lv lk (if sp_uses (lv i) (fa i) b = 0 then pu else upd pu i (pu i + sp_coins (lv i) (fa i) (lk i) fu b)) (if sp_uses (lv i) (fa i) b = 0 then fa else upd fa i (fa i - 1)) he n nv du ta w mp mi k nt (if sp_uses (lv i) (fa i) b = 0 then fu else fu - sp_coins (lv i) (fa i) (lk i) fu b) (if sp_uses (lv i) (fa i) b = 0 then re else re + sp_coins (lv i) (fa i) (lk i) fu b)) t9.heap ∧ kK D z t9 ∧ va_D (va_A (xW z a lv lk pu fa he n nv du ta w mp mi k nt fu re) sz) (xW z a lv lk (if sp_uses (lv i) (fa i) b = 0 then pu else upd pu i (pu i + sp_coins (lv i) (fa i) (lk i) fu b)) (if sp_uses (lv i) (fa i) b = 0 then fa else upd fa i (fa i - 1)) he n nv du ta w mp mi k nt (if sp_uses (lv i) (fa i) b = 0 then fu else fu - sp_coins (lv i) (fa i) (lk i) fu b) (if sp_uses (lv i) (fa i) b = 0 then re else re + sp_coins (lv i) (fa i) (lk i) fu b))) (va_A (xW z a lv lk pu fa he n nv du ta w mp mi k nt fu re) sz)) 0 0 (va_A (xW z a lv lk pu fa he n nv du ta w mp mi k nt fu re) sz) := by
  refine Met.ofW (cc := cX0_refundFate) (maxL := 4) (ret := none) (by decide) rfl ?_
  intro p e s m args below meth c s₁ B hml hv
  obtain ⟨rfl, hsz, ⟨hP, hK⟩, hD0⟩ := hv
  have hx := B.exec
  have hb := B.bytes
  have hr := B.returns
  have hts := atoms_spec (ws := ws_ yX0_refundFate cX0_refundFate 4 none) B.pre
  have hts : ∀ w ∈ lw_all, w.before _ s = true := fun w h => hts w (List.mem_cons_of_mem _ h)
  have hown : s.vm.findClass RX0 = some m.cls := findClass_of_methodNamed B.named
  have hlocks := B.notSynchronized
  have hC : CallFix p m c cX0_refundFate 4 s _ lw_all RX0 := ⟨hx, hb, hml, hown, hts⟩
  subst hsz
  have hD := hD0.self (sz := s.heap.size)
  generalize hAe : va_A (xW z a lv lk pu fa he n nv du ta w mp mi k nt fu re) s.heap.size = A at hD ⊢
  have hA : ∀ q : Nat, s.heap.size ≤ q → A q := fun q h => by rw [← hAe]; exact Or.inr h
  have hS : va_S A s.heap s.heap [] := va_S.rf
  have hl := lv_entry ([.ref (a 0), .int (nI i), .int b]) (n := 4) (Nat.le_of_ble_eq_true rfl)
  rw [lg_entry_eq]
  generalize (lg_sl ([.ref (a 0), .int (nI i), .int b]) ++ List.replicate (4 - (lg_sl ([.ref (a 0), .int (nI i), .int b])).length) Slot.unset).toArray = ls at hl ⊢
  have hl : lv_has ls 4 [(0, .ref (a 0)), (1, .int (nI i)), (2, .int b)] := hl
  refine lv_aload_n hx hb dX0_refundFate_0 rfl (lv_at hl 0 rfl) ?_
  refine lv_iload_n hx hb dX0_refundFate_1 rfl (lv_at hl 1 rfl) ?_
  refine lv_iload_n hx hb dX0_refundFate_2 rfl (lv_at hl 2 rfl) ?_
  refine k_X0_usesFate hC hK hP hl.1 ⟨Nat.le_of_ble_eq_true rfl, Nat.le_of_ble_eq_true rfl⟩ ⟨Nat.zero_le _, Nat.zero_le _⟩ (Nat.le_of_ble_eq_true rfl) rfl (by first | assumption | omega) dX0_refundFate_3 ?_
  refine lv_if_eq (tgt := 56) hx hb dX0_refundFate_6 (by decide) (fun c_6 => ?_) (fun c_6 => ?_)
  · have hW9 : (xW z a lv lk pu fa he n nv du ta w mp mi k nt fu re : va_W) = xW z a lv lk (if sp_uses (lv i) (fa i) b = 0 then pu else upd pu i (pu i + sp_coins (lv i) (fa i) (lk i) fu b)) (if sp_uses (lv i) (fa i) b = 0 then fa else upd fa i (fa i - 1)) he n nv du ta w mp mi k nt (if sp_uses (lv i) (fa i) b = 0 then fu else fu - sp_coins (lv i) (fa i) (lk i) fu b) (if sp_uses (lv i) (fa i) b = 0 then re else re + sp_coins (lv i) (fa i) (lk i) fu b) := (by simp [c_6])
    rw [hW9] at hP hD
    exact W.vret hx hb hr (fun t ht hW => ⟨⟨(), rfl, trivial, by rw [ht]; exact hP, va_K.moved hW.alike hK, hD⟩, hS.F ht⟩) hS.2.2 dX0_refundFate_56
  · refine lv_aload_n hx hb dX0_refundFate_9 rfl (lv_at hl 0 rfl) ?_
    refine lv_iload_n hx hb dX0_refundFate_10 rfl (lv_at hl 1 rfl) ?_
    refine lv_iload_n hx hb dX0_refundFate_11 rfl (lv_at hl 2 rfl) ?_
    refine k_X0_refundCoins hC hK hP hl.1 ⟨Nat.le_of_ble_eq_true rfl, Nat.le_of_ble_eq_true rfl⟩ ⟨Nat.zero_le _, Nat.zero_le _⟩ (Nat.le_of_ble_eq_true rfl) rfl (by first | assumption | omega) dX0_refundFate_12 ?_
    refine lv_istore_n (lv' := [(3, .int (sp_coins (lv i) (fa i) (lk i) fu b)), (0, .ref (a 0)), (1, .int (nI i)), (2, .int b)]) hx hb dX0_refundFate_15 rfl hl (by decide) rfl (fun ls hl => ?_)
    refine lv_aload_n hx hb dX0_refundFate_16 rfl (lv_at hl 1 rfl) ?_
    refine xg_fa hC hK hP dX0_refundFate_17 ?_
    refine lv_iload_n hx hb dX0_refundFate_20 rfl (lv_at hl 2 rfl) ?_
    refine lv_dup2_11 hx hb dX0_refundFate_21 rfl rfl ?_
    refine xl_fa hC hK hP i rfl (by omega) dX0_refundFate_22 ?_
    refine lv_iconst (v := 1) hx hb dX0_refundFate_23 (by decide) ?_
    refine lv_isub hx hb dX0_refundFate_24 ?_
    refine xs_fa hC hK hP hD hS i rfl (by omega) dX0_refundFate_25 (fun H locs hP hD hS => ?_)
    refine lv_aload_n hx hb dX0_refundFate_26 rfl (lv_at hl 1 rfl) ?_
    refine lv_dup hx hb dX0_refundFate_27 rfl ?_
    refine xg_fu hC hK hP dX0_refundFate_28 ?_
    refine lv_iload_n hx hb dX0_refundFate_31 rfl (lv_at hl 0 rfl) ?_
    refine lv_isub hx hb dX0_refundFate_32 ?_
    refine xp_fu hC hK hP hD hS dX0_refundFate_33 (fun H locs hP hD hS => ?_)
    refine lv_aload_n hx hb dX0_refundFate_36 rfl (lv_at hl 1 rfl) ?_
    refine xg_pu hC hK hP dX0_refundFate_37 ?_
    refine lv_iload_n hx hb dX0_refundFate_40 rfl (lv_at hl 2 rfl) ?_
    refine lv_dup2_11 hx hb dX0_refundFate_41 rfl rfl ?_
    refine xl_pu hC hK hP i rfl (by omega) dX0_refundFate_42 ?_
    refine lv_iload_n hx hb dX0_refundFate_43 rfl (lv_at hl 0 rfl) ?_
    refine lv_iadd hx hb dX0_refundFate_44 ?_
    refine xs_pu hC hK hP hD hS i rfl (by omega) dX0_refundFate_45 (fun H locs hP hD hS => ?_)
    refine lv_aload_n hx hb dX0_refundFate_46 rfl (lv_at hl 1 rfl) ?_
    refine lv_dup hx hb dX0_refundFate_47 rfl ?_
    refine xg_re hC hK hP dX0_refundFate_48 ?_
    refine lv_iload_n hx hb dX0_refundFate_51 rfl (lv_at hl 0 rfl) ?_
    refine lv_iadd hx hb dX0_refundFate_52 ?_
    refine xp_re hC hK hP hD hS dX0_refundFate_53 (fun H locs hP hD hS => ?_)
    have hW9 : (xW z a lv lk (upd pu i ((pu i) + (sp_coins (lv i) (fa i) (lk i) fu b))) (upd fa i ((fa i) - 1)) he n nv du ta w mp mi k nt (fu - (sp_coins (lv i) (fa i) (lk i) fu b)) (re + (sp_coins (lv i) (fa i) (lk i) fu b)) : va_W) = xW z a lv lk (if sp_uses (lv i) (fa i) b = 0 then pu else upd pu i (pu i + sp_coins (lv i) (fa i) (lk i) fu b)) (if sp_uses (lv i) (fa i) b = 0 then fa else upd fa i (fa i - 1)) he n nv du ta w mp mi k nt (if sp_uses (lv i) (fa i) b = 0 then fu else fu - sp_coins (lv i) (fa i) (lk i) fu b) (if sp_uses (lv i) (fa i) b = 0 then re else re + sp_coins (lv i) (fa i) (lk i) fu b) := (by simp [c_6])
    rw [hW9] at hP hD
    exact W.vret hx hb hr (fun t ht hW => ⟨⟨(), rfl, trivial, by rw [ht]; exact hP, va_K.moved hW.alike hK, hD⟩, hS.F ht⟩) hS.2.2 dX0_refundFate_56
set_option maxRecDepth 100000 in
theorem k_X0_refundFate {p : Program} {l : Launch} {e : Env} {R : Room} {s : State} {m : MethodId} {args : Array Value} {below : List Frame} {meth : Method} {c : Code} {H : Heap} {locs : List Loc} {cells slots : Nat} {Q : State → Prop} {D : va_G} {z : ClassId × ClassId} {a : Nat → Nat} {lv lk pu fa he : Nat → Int32} {n : Nat} {nv du ta : Nat → Int32} {w : Nat} {mp mi : Nat → Int32} {k : Nat} {nt fu re : Int32} {cc : ByteArray} {nL pc : Nat} {ls : Array Slot} {rest : List Value} {A : Nat → Prop} {H0 : Heap} (hC : CallFix p m c cc nL s args lw_all RX0) (hK : kK D z s) (hP : va_P D vwCl (xW z a lv lk pu fa he n nv du ta w mp mi k nt fu re) H) (hD : va_D A (xW z a lv lk pu fa he n nv du ta w mp mi k nt fu re)) (hS : va_S A H0 H locs) (hA : ∀ q : Nat, H0.size ≤ q → A q) (hl : ls.size = nL) (hR : 3 ≤ R.frames ∧ 67 ≤ R.locals) (hz : cells ≤ R.cells ∧ slots ≤ R.slots) (hr : (rest.map fun v => v.category).sum ≤ 8) {i : Nat} {b : Int32} {x0 : Int32} (hx0 : x0 = nI i) (hi : i < 10) (hdg : decode cc pc = .ok (.invokevirtual 98, 3)) (kk : ∀ (H1 : Heap) (locs1 : List Loc), va_P D vwCl (xW z a lv lk (if sp_uses (lv i) (fa i) b = 0 then pu else upd pu i (pu i + sp_coins (lv i) (fa i) (lk i) fu b)) (if sp_uses (lv i) (fa i) b = 0 then fa else upd fa i (fa i - 1)) he n nv du ta w mp mi k nt (if sp_uses (lv i) (fa i) b = 0 then fu else fu - sp_coins (lv i) (fa i) (lk i) fu b) (if sp_uses (lv i) (fa i) b = 0 then re else re + sp_coins (lv i) (fa i) (lk i) fu b)) H1 → va_D A (xW z a lv lk (if sp_uses (lv i) (fa i) b = 0 then pu else upd pu i (pu i + sp_coins (lv i) (fa i) (lk i) fu b)) (if sp_uses (lv i) (fa i) b = 0 then fa else upd fa i (fa i - 1)) he n nv du ta w mp mi k nt (if sp_uses (lv i) (fa i) b = 0 then fu else fu - sp_coins (lv i) (fa i) (lk i) fu b) (if sp_uses (lv i) (fa i) b = 0 then re else re + sp_coins (lv i) (fa i) (lk i) fu b)) → va_S A H0 H1 locs1 → W p l e R s m args below meth c H1 locs1 cells slots Q (F0 m (pc + 3) ls rest)) : W p l e R s m args below meth c H locs cells slots Q (F0 m pc ls (.int b :: .int x0 :: .ref (a 0) :: rest)) := by
  subst hx0
  have hF := va_free (wc := xW z a lv lk pu fa he n nv du ta w mp mi k nt fu re) hD hS hA [0, 1, 2, 3, 4, 5, 6, 7, 8, 9, 10] rfl
  refine va_callv (va_runV (As := [.int (nI i), .int b]) (rest := rest) hC (c_X0_refundFate l H.size i hi b) (cwV 2 hC.2.2.2.2 (gi_V mM_X0_98 mV_X0_refundFate mS_X0_refundFate mI_MissRegistry mC_X0_refundFate) rfl rfl rfl (by decide +kernel) hR) ⟨fun a1 U g mk q => ⟨q.1, q.2.1, ⟨q.2.2.1.1, va_K.moved (u := U) (U := U.calling g mk a1) (Vm.Alike.refl U.vm) q.2.2.1.2⟩, q.2.2.2⟩, va_recv hK hP (ci := 0) (q0 := 0) rfl rfl, fun U hU hW => ⟨rfl, by rw [hU], ⟨by rw [hU]; exact hP, va_K.moved hW.alike hK⟩, hD.weaken (fun _ _ _ _ => trivial)⟩⟩ rfl rfl hl rfl (lv_room hr) hdg hz) hS (fun q _ h => hF q h) hF (fun u t H1 locs1 ht hvm hw hB hz1 hk1 hS1 => ?_)
  obtain ⟨hP1, hK1, hD1⟩ := hB
  rw [ht] at hP1
  exact kk H1 locs1 hP1 (hD1.weaken (fun _ q9 _ h => hF q9.1 h)) hS1
set_option maxHeartbeats 4000000 in
set_option maxRecDepth 100000 in
theorem c_X0_frightenWitnesses (l : Launch) (sz : Nat) {D : va_G} {z : ClassId × ClassId} {a : Nat → Nat} {lv lk pu fa he : Nat → Int32} {n : Nat} {nv du ta : Nat → Int32} {w : Nat} {mp mi : Nat → Int32} {k : Nat} {nt fu re : Int32} (q : Int32) (hw : w ≤ 6) : Met l yX0_frightenWitnesses (ws_ yX0_frightenWitnesses cX0_frightenWitnesses 3 none) ({ frames := 1, cells := 0, slots := 0, locals := 21 } : Room) (va_Pc [.ref (a 0), .int q] (fun U => U.heap.size = sz ∧ xI D z a lv lk pu fa he n nv du ta w mp mi k nt fu re U ∧ va_D (fun _ => True) (xW z a lv lk pu fa he n nv du ta w mp mi k nt fu re))) (va_Qv (fun _ : Unit => True) (fun _ t9 => va_P D vwCl (xW z a lv lk pu fa he n (sp_fr du q nv w) du ta w mp mi k nt fu re) t9.heap ∧ kK D z t9 ∧ va_D (va_A (xW z a lv lk pu fa he n nv du ta w mp mi k nt fu re) sz) (xW z a lv lk pu fa he n (sp_fr du q nv w) du ta w mp mi k nt fu re)) (va_A (xW z a lv lk pu fa he n nv du ta w mp mi k nt fu re) sz)) 0 0 (va_A (xW z a lv lk pu fa he n nv du ta w mp mi k nt fu re) sz) := by
  refine Met.ofW (cc := cX0_frightenWitnesses) (maxL := 3) (ret := none) (by decide) rfl ?_
  intro p e s m args below meth c s₁ B hml hv
  obtain ⟨rfl, hsz, ⟨hP, hK⟩, hD0⟩ := hv
  have hx := B.exec
  have hb := B.bytes
  have hr := B.returns
  have hts := atoms_spec (ws := ws_ yX0_frightenWitnesses cX0_frightenWitnesses 3 none) B.pre
  have hts : ∀ w ∈ lw_all, w.before _ s = true := fun w h => hts w (List.mem_cons_of_mem _ h)
  have hown : s.vm.findClass RX0 = some m.cls := findClass_of_methodNamed B.named
  have hlocks := B.notSynchronized
  have hC : CallFix p m c cX0_frightenWitnesses 3 s _ lw_all RX0 := ⟨hx, hb, hml, hown, hts⟩
  subst hsz
  have hD := hD0.self (sz := s.heap.size)
  generalize hAe : va_A (xW z a lv lk pu fa he n nv du ta w mp mi k nt fu re) s.heap.size = A at hD ⊢
  have hA : ∀ q : Nat, s.heap.size ≤ q → A q := fun q h => by rw [← hAe]; exact Or.inr h
  have hS : va_S A s.heap s.heap [] := va_S.rf
  have hl := lv_entry ([.ref (a 0), .int q]) (n := 3) (Nat.le_of_ble_eq_true rfl)
  rw [lg_entry_eq]
  generalize (lg_sl ([.ref (a 0), .int q]) ++ List.replicate (3 - (lg_sl ([.ref (a 0), .int q])).length) Slot.unset).toArray = ls at hl ⊢
  have hl : lv_has ls 3 [(0, .ref (a 0)), (1, .int q)] := hl
  refine lv_iconst (v := 0) hx hb dX0_frightenWitnesses_0 (by decide) ?_
  refine lv_istore_n (lv' := [(2, .int 0), (0, .ref (a 0)), (1, .int q)]) hx hb dX0_frightenWitnesses_1 rfl hl (by decide) rfl (fun ls hl => ?_)
  have loop_2 : ∀ (f : Nat) (j : Nat) (g : Nat → Int32), j ≤ w → w + 1 ≤ j + f → g = sp_fr du q nv j → ∀ (H : Heap) (locs : List Loc), va_P D vwCl (xW z a lv lk pu fa he n g du ta w mp mi k nt fu re) H → va_D A (xW z a lv lk pu fa he n g du ta w mp mi k nt fu re) → va_S A s.heap H locs → ∀ ls : Array Slot, lv_has ls 3 [(0, .ref (a 0)), (1, .int q), (2, .int (nI j))] → W p l e ({ frames := 1, cells := 0, slots := 0, locals := 21 } : Room) s m ([.ref (a 0), .int q] : List Value).toArray below meth c H locs 0 0 (MQ below (va_Qv (fun _ : Unit => True) (fun _ t9 => va_P D vwCl (xW z a lv lk pu fa he n (sp_fr du q nv w) du ta w mp mi k nt fu re) t9.heap ∧ kK D z t9 ∧ va_D A (xW z a lv lk pu fa he n (sp_fr du q nv w) du ta w mp mi k nt fu re)) A) ([.ref (a 0), .int q] : List Value).toArray s 0 0 A) (F0 m 2 ls []) := by
    intro f
    induction f with
    | zero =>
      intro j g hj hf hg
      exact absurd hf (by omega)
    | succ f ih2 =>
      intro j g hj hf hg H locs hP hD hS ls hl
      refine lv_iload_n hx hb dX0_frightenWitnesses_2 rfl (lv_at hl 2 rfl) ?_
      refine lv_aload_n hx hb dX0_frightenWitnesses_3 rfl (lv_at hl 0 rfl) ?_
      refine xg_w hC hK hP dX0_frightenWitnesses_4 ?_
      refine lv_icmp_ge (tgt := 43) hx hb dX0_frightenWitnesses_7 (by decide) (fun c_7 => ?_) (fun c_7 => ?_)
      · have nc_7 : w ≤ j := nn_le (by omega) c_7
        have hW9 : (xW z a lv lk pu fa he n g du ta w mp mi k nt fu re : va_W) = xW z a lv lk pu fa he n (sp_fr du q nv w) du ta w mp mi k nt fu re := (by rw [hg, show j = w by omega])
        rw [hW9] at hP hD
        exact W.vret hx hb hr (fun t ht hW => ⟨⟨(), rfl, trivial, by rw [ht]; exact hP, va_K.moved hW.alike hK, hD⟩, hS.F ht⟩) hS.2.2 dX0_frightenWitnesses_43
      · have nc_7 : j < w := nn_nle (by omega) c_7
        refine lv_aload_n hx hb dX0_frightenWitnesses_10 rfl (lv_at hl 0 rfl) ?_
        refine xg_du hC hK hP dX0_frightenWitnesses_11 ?_
        refine lv_iload_n hx hb dX0_frightenWitnesses_14 rfl (lv_at hl 2 rfl) ?_
        refine xl_du hC hK hP j rfl (by omega) dX0_frightenWitnesses_15 ?_
        refine lv_if_eq (tgt := 37) hx hb dX0_frightenWitnesses_16 (by decide) (fun c_16 => ?_) (fun c_16 => ?_)
        · refine lv_iinc (v := nI (j + 1)) (lv' := [(2, .int (nI (j + 1))), (0, .ref (a 0)), (1, .int q)]) hx hb dX0_frightenWitnesses_37 hl (k := 2) rfl (nI_1 _) (by decide) rfl (fun ls hl => ?_)
          refine lv_goto (tgt := 2) hx hb dX0_frightenWitnesses_40 (by decide) ?_
          exact ih2 (j + 1) g (by omega) (by omega) (by simp [sp_fr, hg, c_16]) _ _ hP hD hS _ (lv_sub hl [1, 2, 0] rfl)
        · refine lv_aload_n hx hb dX0_frightenWitnesses_19 rfl (lv_at hl 0 rfl) ?_
          refine xg_nv hC hK hP dX0_frightenWitnesses_20 ?_
          refine lv_iload_n hx hb dX0_frightenWitnesses_23 rfl (lv_at hl 2 rfl) ?_
          refine lv_iconst (v := 0) hx hb dX0_frightenWitnesses_24 (by decide) ?_
          refine lv_aload_n hx hb dX0_frightenWitnesses_25 rfl (lv_at hl 0 rfl) ?_
          refine xg_nv hC hK hP dX0_frightenWitnesses_26 ?_
          refine lv_iload_n hx hb dX0_frightenWitnesses_29 rfl (lv_at hl 2 rfl) ?_
          refine xl_nv hC hK hP j rfl (by omega) dX0_frightenWitnesses_30 ?_
          refine lv_iload_n hx hb dX0_frightenWitnesses_31 rfl (lv_at hl 1 rfl) ?_
          refine lv_isub hx hb dX0_frightenWitnesses_32 ?_
          refine va_mmax hx hb (hml.trans hl.1.symm) hown (hts _ mM_X0_102) (hts _ mT_max) (hts _ mI_Math) (hts _ mC_max) (Nat.le_of_ble_eq_true rfl) (Nat.le_of_ble_eq_true rfl) (Nat.zero_le _) (Nat.zero_le _) dX0_frightenWitnesses_33 ?_
          refine xs_nv hC hK hP hD hS j rfl (by omega) dX0_frightenWitnesses_36 (fun H locs hP hD hS => ?_)
          refine lv_iinc (v := nI (j + 1)) (lv' := [(2, .int (nI (j + 1))), (0, .ref (a 0)), (1, .int q)]) hx hb dX0_frightenWitnesses_37 hl (k := 2) rfl (nI_1 _) (by decide) rfl (fun ls hl => ?_)
          refine lv_goto (tgt := 2) hx hb dX0_frightenWitnesses_40 (by decide) ?_
          exact ih2 (j + 1) (upd g j (imax 0 ((g j) - q))) (by omega) (by omega) (by simp [sp_fr, hg, c_16]) _ _ hP hD hS _ (lv_sub hl [1, 2, 0] rfl)
  exact loop_2 (w + 1) 0 nv (Nat.zero_le _) (by omega) rfl _ _ hP hD hS _ (lv_sub hl [1, 2, 0] rfl)
set_option maxRecDepth 100000 in
theorem k_X0_frightenWitnesses {p : Program} {l : Launch} {e : Env} {R : Room} {s : State} {m : MethodId} {args : Array Value} {below : List Frame} {meth : Method} {c : Code} {H : Heap} {locs : List Loc} {cells slots : Nat} {Q : State → Prop} {D : va_G} {z : ClassId × ClassId} {a : Nat → Nat} {lv lk pu fa he : Nat → Int32} {n : Nat} {nv du ta : Nat → Int32} {w : Nat} {mp mi : Nat → Int32} {k : Nat} {nt fu re : Int32} {cc : ByteArray} {nL pc : Nat} {ls : Array Slot} {rest : List Value} {A : Nat → Prop} {H0 : Heap} (hC : CallFix p m c cc nL s args lw_all RX0) (hK : kK D z s) (hP : va_P D vwCl (xW z a lv lk pu fa he n nv du ta w mp mi k nt fu re) H) (hD : va_D A (xW z a lv lk pu fa he n nv du ta w mp mi k nt fu re)) (hS : va_S A H0 H locs) (hA : ∀ q : Nat, H0.size ≤ q → A q) (hl : ls.size = nL) (hR : 2 ≤ R.frames ∧ 43 ≤ R.locals) (hz : cells ≤ R.cells ∧ slots ≤ R.slots) (hr : (rest.map fun v => v.category).sum ≤ 8) {q : Int32}  (hw : w ≤ 6) (hdg : decode cc pc = .ok (.invokevirtual 111, 3)) (kk : ∀ (H1 : Heap) (locs1 : List Loc), va_P D vwCl (xW z a lv lk pu fa he n (sp_fr du q nv w) du ta w mp mi k nt fu re) H1 → va_D A (xW z a lv lk pu fa he n (sp_fr du q nv w) du ta w mp mi k nt fu re) → va_S A H0 H1 locs1 → W p l e R s m args below meth c H1 locs1 cells slots Q (F0 m (pc + 3) ls rest)) : W p l e R s m args below meth c H locs cells slots Q (F0 m pc ls (.int q :: .ref (a 0) :: rest)) := by
  have hF := va_free (wc := xW z a lv lk pu fa he n nv du ta w mp mi k nt fu re) hD hS hA [0, 1, 2, 3, 4, 5, 6, 7, 8, 9, 10] rfl
  refine va_callv (va_runV (As := [.int q]) (rest := rest) hC (c_X0_frightenWitnesses l H.size q hw) (cwV 1 hC.2.2.2.2 (gi_V mM_X0_111 mV_X0_frightenWitnesses mS_X0_frightenWitnesses mI_MissRegistry mC_X0_frightenWitnesses) rfl rfl rfl (by decide +kernel) hR) ⟨fun a1 U g mk q => ⟨q.1, q.2.1, ⟨q.2.2.1.1, va_K.moved (u := U) (U := U.calling g mk a1) (Vm.Alike.refl U.vm) q.2.2.1.2⟩, q.2.2.2⟩, va_recv hK hP (ci := 0) (q0 := 0) rfl rfl, fun U hU hW => ⟨rfl, by rw [hU], ⟨by rw [hU]; exact hP, va_K.moved hW.alike hK⟩, hD.weaken (fun _ _ _ _ => trivial)⟩⟩ rfl rfl hl rfl (lv_room hr) hdg hz) hS (fun q _ h => hF q h) hF (fun u t H1 locs1 ht hvm hw hB hz1 hk1 hS1 => ?_)
  obtain ⟨hP1, hK1, hD1⟩ := hB
  rw [ht] at hP1
  exact kk H1 locs1 hP1 (hD1.weaken (fun _ q9 _ h => hF q9.1 h)) hS1
set_option maxHeartbeats 4000000 in
set_option maxRecDepth 100000 in
theorem c_X0_passOneNight (l : Launch) (sz : Nat) {D : va_G} {z : ClassId × ClassId} {a : Nat → Nat} {lv lk pu fa he : Nat → Int32} {n : Nat} {nv du ta : Nat → Int32} {w : Nat} {mp mi : Nat → Int32} {k : Nat} {nt fu re : Int32} (hn : n ≤ 10) (hw : w ≤ 6) : Met l yX0_passOneNight (ws_ yX0_passOneNight cX0_passOneNight 2 none) ({ frames := 1, cells := 0, slots := 0, locals := 21 } : Room) (va_Pc [.ref (a 0)] (fun U => U.heap.size = sz ∧ xI D z a lv lk pu fa he n nv du ta w mp mi k nt fu re U ∧ va_D (fun _ => True) (xW z a lv lk pu fa he n nv du ta w mp mi k nt fu re))) (va_Qv (fun _ : Unit => True) (fun _ t9 => va_P D vwCl (xW z a lv (sp_nl lv lk n) pu fa he n (sp_nn du nv w) du ta w mp mi k (nt + 1) fu re) t9.heap ∧ kK D z t9 ∧ va_D (va_A (xW z a lv lk pu fa he n nv du ta w mp mi k nt fu re) sz) (xW z a lv (sp_nl lv lk n) pu fa he n (sp_nn du nv w) du ta w mp mi k (nt + 1) fu re)) (va_A (xW z a lv lk pu fa he n nv du ta w mp mi k nt fu re) sz)) 0 0 (va_A (xW z a lv lk pu fa he n nv du ta w mp mi k nt fu re) sz) := by
  refine Met.ofW (cc := cX0_passOneNight) (maxL := 2) (ret := none) (by decide) rfl ?_
  intro p e s m args below meth c s₁ B hml hv
  obtain ⟨rfl, hsz, ⟨hP, hK⟩, hD0⟩ := hv
  have hx := B.exec
  have hb := B.bytes
  have hr := B.returns
  have hts := atoms_spec (ws := ws_ yX0_passOneNight cX0_passOneNight 2 none) B.pre
  have hts : ∀ w ∈ lw_all, w.before _ s = true := fun w h => hts w (List.mem_cons_of_mem _ h)
  have hown : s.vm.findClass RX0 = some m.cls := findClass_of_methodNamed B.named
  have hlocks := B.notSynchronized
  have hC : CallFix p m c cX0_passOneNight 2 s _ lw_all RX0 := ⟨hx, hb, hml, hown, hts⟩
  subst hsz
  have hD := hD0.self (sz := s.heap.size)
  generalize hAe : va_A (xW z a lv lk pu fa he n nv du ta w mp mi k nt fu re) s.heap.size = A at hD ⊢
  have hA : ∀ q : Nat, s.heap.size ≤ q → A q := fun q h => by rw [← hAe]; exact Or.inr h
  have hS : va_S A s.heap s.heap [] := va_S.rf
  have hl := lv_entry ([.ref (a 0)]) (n := 2) (Nat.le_of_ble_eq_true rfl)
  rw [lg_entry_eq]
  generalize (lg_sl ([.ref (a 0)]) ++ List.replicate (2 - (lg_sl ([.ref (a 0)])).length) Slot.unset).toArray = ls at hl ⊢
  have hl : lv_has ls 2 [(0, .ref (a 0))] := hl
  refine lv_iconst (v := 0) hx hb dX0_passOneNight_0 (by decide) ?_
  refine lv_istore_n (lv' := [(1, .int 0), (0, .ref (a 0))]) hx hb dX0_passOneNight_1 rfl hl (by decide) rfl (fun ls hl => ?_)
  have loop_2 : ∀ (f : Nat) (j : Nat) (g : Nat → Int32), j ≤ w → w + 1 ≤ j + f → g = sp_nn du nv j → ∀ (H : Heap) (locs : List Loc), va_P D vwCl (xW z a lv lk pu fa he n g du ta w mp mi k nt fu re) H → va_D A (xW z a lv lk pu fa he n g du ta w mp mi k nt fu re) → va_S A s.heap H locs → ∀ ls : Array Slot, lv_has ls 2 [(0, .ref (a 0)), (1, .int (nI j))] → W p l e ({ frames := 1, cells := 0, slots := 0, locals := 21 } : Room) s m ([.ref (a 0)] : List Value).toArray below meth c H locs 0 0 (MQ below (va_Qv (fun _ : Unit => True) (fun _ t9 => va_P D vwCl (xW z a lv (sp_nl lv lk n) pu fa he n (sp_nn du nv w) du ta w mp mi k (nt + 1) fu re) t9.heap ∧ kK D z t9 ∧ va_D A (xW z a lv (sp_nl lv lk n) pu fa he n (sp_nn du nv w) du ta w mp mi k (nt + 1) fu re)) A) ([.ref (a 0)] : List Value).toArray s 0 0 A) (F0 m 2 ls []) := by
    intro f
    induction f with
    | zero =>
      intro j g hj hf hg
      exact absurd hf (by omega)
    | succ f ih2 =>
      intro j g hj hf hg H locs hP hD hS ls hl
      refine lv_iload_n hx hb dX0_passOneNight_2 rfl (lv_at hl 1 rfl) ?_
      refine lv_aload_n hx hb dX0_passOneNight_3 rfl (lv_at hl 0 rfl) ?_
      refine xg_w hC hK hP dX0_passOneNight_4 ?_
      refine lv_icmp_ge (tgt := 43) hx hb dX0_passOneNight_7 (by decide) (fun c_7 => ?_) (fun c_7 => ?_)
      · have nc_7 : w ≤ j := nn_le (by omega) c_7
        refine lv_iconst (v := 0) hx hb dX0_passOneNight_43 (by decide) ?_
        refine lv_istore_n (lv' := [(1, .int 0), (0, .ref (a 0))]) hx hb dX0_passOneNight_44 rfl hl (by decide) rfl (fun ls hl => ?_)
        have loop_45 : ∀ (f : Nat) (i : Nat) (d : Nat → Int32), i ≤ n → n + 1 ≤ i + f → d = sp_nl lv lk i → ∀ (H : Heap) (locs : List Loc), va_P D vwCl (xW z a lv d pu fa he n g du ta w mp mi k nt fu re) H → va_D A (xW z a lv d pu fa he n g du ta w mp mi k nt fu re) → va_S A s.heap H locs → ∀ ls : Array Slot, lv_has ls 2 [(0, .ref (a 0)), (1, .int (nI i))] → W p l e ({ frames := 1, cells := 0, slots := 0, locals := 21 } : Room) s m ([.ref (a 0)] : List Value).toArray below meth c H locs 0 0 (MQ below (va_Qv (fun _ : Unit => True) (fun _ t9 => va_P D vwCl (xW z a lv (sp_nl lv lk n) pu fa he n (sp_nn du nv w) du ta w mp mi k (nt + 1) fu re) t9.heap ∧ kK D z t9 ∧ va_D A (xW z a lv (sp_nl lv lk n) pu fa he n (sp_nn du nv w) du ta w mp mi k (nt + 1) fu re)) A) ([.ref (a 0)] : List Value).toArray s 0 0 A) (F0 m 45 ls []) := by
          intro f
          induction f with
          | zero =>
            intro i d hi hf2 hd
            exact absurd hf2 (by omega)
          | succ f ih45 =>
            intro i d hi hf2 hd H locs hP hD hS ls hl
            refine lv_iload_n hx hb dX0_passOneNight_45 rfl (lv_at hl 1 rfl) ?_
            refine lv_aload_n hx hb dX0_passOneNight_46 rfl (lv_at hl 0 rfl) ?_
            refine xg_n hC hK hP dX0_passOneNight_47 ?_
            refine lv_icmp_ge (tgt := 87) hx hb dX0_passOneNight_50 (by decide) (fun c_50 => ?_) (fun c_50 => ?_)
            · have nc_50 : n ≤ i := nn_le (by omega) c_50
              refine lv_aload_n hx hb dX0_passOneNight_87 rfl (lv_at hl 0 rfl) ?_
              refine lv_dup hx hb dX0_passOneNight_88 rfl ?_
              refine xg_nt hC hK hP dX0_passOneNight_89 ?_
              refine lv_iconst (v := 1) hx hb dX0_passOneNight_92 (by decide) ?_
              refine lv_iadd hx hb dX0_passOneNight_93 ?_
              refine xp_nt hC hK hP hD hS dX0_passOneNight_94 (fun H locs hP hD hS => ?_)
              have hW9 : (xW z a lv d pu fa he n g du ta w mp mi k (nt + 1) fu re : va_W) = xW z a lv (sp_nl lv lk n) pu fa he n (sp_nn du nv w) du ta w mp mi k (nt + 1) fu re := (by rw [hg, hd, show j = w by omega, show i = n by omega])
              rw [hW9] at hP hD
              exact W.vret hx hb hr (fun t ht hW => ⟨⟨(), rfl, trivial, by rw [ht]; exact hP, va_K.moved hW.alike hK, hD⟩, hS.F ht⟩) hS.2.2 dX0_passOneNight_97
            · have nc_50 : i < n := nn_nle (by omega) c_50
              refine lv_aload_n hx hb dX0_passOneNight_53 rfl (lv_at hl 0 rfl) ?_
              refine xg_lv hC hK hP dX0_passOneNight_54 ?_
              refine lv_iload_n hx hb dX0_passOneNight_57 rfl (lv_at hl 1 rfl) ?_
              refine xl_lv hC hK hP i rfl (by omega) dX0_passOneNight_58 ?_
              refine lv_if_eq (tgt := 81) hx hb dX0_passOneNight_59 (by decide) (fun c_59 => ?_) (fun c_59 => ?_)
              · refine lv_iinc (v := nI (i + 1)) (lv' := [(1, .int (nI (i + 1))), (0, .ref (a 0))]) hx hb dX0_passOneNight_81 hl (k := 1) rfl (nI_1 _) (by decide) rfl (fun ls hl => ?_)
                refine lv_goto (tgt := 45) hx hb dX0_passOneNight_84 (by decide) ?_
                exact ih45 (i + 1) d (by omega) (by omega) (by simp [sp_nl, hd, c_59]) _ _ hP hD hS _ (lv_sub hl [1, 0] rfl)
              · refine lv_aload_n hx hb dX0_passOneNight_62 rfl (lv_at hl 0 rfl) ?_
                refine xg_lk hC hK hP dX0_passOneNight_63 ?_
                refine lv_iload_n hx hb dX0_passOneNight_66 rfl (lv_at hl 1 rfl) ?_
                refine lv_bipush (v := 99) hx hb dX0_passOneNight_67 (by decide) ?_
                refine lv_aload_n hx hb dX0_passOneNight_69 rfl (lv_at hl 0 rfl) ?_
                refine xg_lk hC hK hP dX0_passOneNight_70 ?_
                refine lv_iload_n hx hb dX0_passOneNight_73 rfl (lv_at hl 1 rfl) ?_
                refine xl_lk hC hK hP i rfl (by omega) dX0_passOneNight_74 ?_
                refine lv_iconst (v := 1) hx hb dX0_passOneNight_75 (by decide) ?_
                refine lv_iadd hx hb dX0_passOneNight_76 ?_
                refine va_mmin hx hb (hml.trans hl.1.symm) hown (hts _ mM_X0_121) (hts _ mT_min) (hts _ mI_Math) (hts _ mC_min) (Nat.le_of_ble_eq_true rfl) (Nat.le_of_ble_eq_true rfl) (Nat.zero_le _) (Nat.zero_le _) dX0_passOneNight_77 ?_
                refine xs_lk hC hK hP hD hS i rfl (by omega) dX0_passOneNight_80 (fun H locs hP hD hS => ?_)
                refine lv_iinc (v := nI (i + 1)) (lv' := [(1, .int (nI (i + 1))), (0, .ref (a 0))]) hx hb dX0_passOneNight_81 hl (k := 1) rfl (nI_1 _) (by decide) rfl (fun ls hl => ?_)
                refine lv_goto (tgt := 45) hx hb dX0_passOneNight_84 (by decide) ?_
                exact ih45 (i + 1) (upd d i (imin 99 ((d i) + 1))) (by omega) (by omega) (by simp [sp_nl, hd, c_59]) _ _ hP hD hS _ (lv_sub hl [1, 0] rfl)
        exact loop_45 (n + 1) 0 lk (Nat.zero_le _) (by omega) rfl _ _ hP hD hS _ (lv_sub hl [1, 0] rfl)
      · have nc_7 : j < w := nn_nle (by omega) c_7
        refine lv_aload_n hx hb dX0_passOneNight_10 rfl (lv_at hl 0 rfl) ?_
        refine xg_nv hC hK hP dX0_passOneNight_11 ?_
        refine lv_iload_n hx hb dX0_passOneNight_14 rfl (lv_at hl 1 rfl) ?_
        refine lv_bipush (v := 9) hx hb dX0_passOneNight_15 (by decide) ?_
        refine lv_aload_n hx hb dX0_passOneNight_17 rfl (lv_at hl 0 rfl) ?_
        refine xg_nv hC hK hP dX0_passOneNight_18 ?_
        refine lv_iload_n hx hb dX0_passOneNight_21 rfl (lv_at hl 1 rfl) ?_
        refine xl_nv hC hK hP j rfl (by omega) dX0_passOneNight_22 ?_
        refine lv_aload_n hx hb dX0_passOneNight_23 rfl (lv_at hl 0 rfl) ?_
        refine xg_du hC hK hP dX0_passOneNight_24 ?_
        refine lv_iload_n hx hb dX0_passOneNight_27 rfl (lv_at hl 1 rfl) ?_
        refine xl_du hC hK hP j rfl (by omega) dX0_passOneNight_28 ?_
        refine k_X0_nerveGain hC hl.1 ⟨Nat.le_of_ble_eq_true rfl, Nat.le_of_ble_eq_true rfl⟩ ⟨Nat.zero_le _, Nat.zero_le _⟩ (Nat.le_of_ble_eq_true rfl)   dX0_passOneNight_29 ?_
        refine lv_iadd hx hb dX0_passOneNight_32 ?_
        refine va_mmin hx hb (hml.trans hl.1.symm) hown (hts _ mM_X0_121) (hts _ mT_min) (hts _ mI_Math) (hts _ mC_min) (Nat.le_of_ble_eq_true rfl) (Nat.le_of_ble_eq_true rfl) (Nat.zero_le _) (Nat.zero_le _) dX0_passOneNight_33 ?_
        refine xs_nv hC hK hP hD hS j rfl (by omega) dX0_passOneNight_36 (fun H locs hP hD hS => ?_)
        refine lv_iinc (v := nI (j + 1)) (lv' := [(1, .int (nI (j + 1))), (0, .ref (a 0))]) hx hb dX0_passOneNight_37 hl (k := 1) rfl (nI_1 _) (by decide) rfl (fun ls hl => ?_)
        refine lv_goto (tgt := 2) hx hb dX0_passOneNight_40 (by decide) ?_
        exact ih2 (j + 1) (upd g j (imin 9 ((g j) + (sp_gain (du j))))) (by omega) (by omega) (by simp [sp_nn, hg]) _ _ hP hD hS _ (lv_sub hl [1, 0] rfl)
  exact loop_2 (w + 1) 0 nv (Nat.zero_le _) (by omega) rfl _ _ hP hD hS _ (lv_sub hl [1, 0] rfl)
set_option maxRecDepth 100000 in
theorem k_X0_passOneNight {p : Program} {l : Launch} {e : Env} {R : Room} {s : State} {m : MethodId} {args : Array Value} {below : List Frame} {meth : Method} {c : Code} {H : Heap} {locs : List Loc} {cells slots : Nat} {Q : State → Prop} {D : va_G} {z : ClassId × ClassId} {a : Nat → Nat} {lv lk pu fa he : Nat → Int32} {n : Nat} {nv du ta : Nat → Int32} {w : Nat} {mp mi : Nat → Int32} {k : Nat} {nt fu re : Int32} {cc : ByteArray} {nL pc : Nat} {ls : Array Slot} {rest : List Value} {A : Nat → Prop} {H0 : Heap} (hC : CallFix p m c cc nL s args lw_all RX0) (hK : kK D z s) (hP : va_P D vwCl (xW z a lv lk pu fa he n nv du ta w mp mi k nt fu re) H) (hD : va_D A (xW z a lv lk pu fa he n nv du ta w mp mi k nt fu re)) (hS : va_S A H0 H locs) (hA : ∀ q : Nat, H0.size ≤ q → A q) (hl : ls.size = nL) (hR : 2 ≤ R.frames ∧ 42 ≤ R.locals) (hz : cells ≤ R.cells ∧ slots ≤ R.slots) (hr : (rest.map fun v => v.category).sum ≤ 8)   (hn : n ≤ 10) (hw : w ≤ 6) (hdg : decode cc pc = .ok (.invokevirtual 126, 3)) (kk : ∀ (H1 : Heap) (locs1 : List Loc), va_P D vwCl (xW z a lv (sp_nl lv lk n) pu fa he n (sp_nn du nv w) du ta w mp mi k (nt + 1) fu re) H1 → va_D A (xW z a lv (sp_nl lv lk n) pu fa he n (sp_nn du nv w) du ta w mp mi k (nt + 1) fu re) → va_S A H0 H1 locs1 → W p l e R s m args below meth c H1 locs1 cells slots Q (F0 m (pc + 3) ls rest)) : W p l e R s m args below meth c H locs cells slots Q (F0 m pc ls (.ref (a 0) :: rest)) := by
  have hF := va_free (wc := xW z a lv lk pu fa he n nv du ta w mp mi k nt fu re) hD hS hA [0, 1, 2, 3, 4, 5, 6, 7, 8, 9, 10] rfl
  refine va_callv (va_runV (As := []) (rest := rest) hC (c_X0_passOneNight l H.size hn hw) (cwV 0 hC.2.2.2.2 (gi_V mM_X0_126 mV_X0_passOneNight mS_X0_passOneNight mI_MissRegistry mC_X0_passOneNight) rfl rfl rfl (by decide +kernel) hR) ⟨fun a1 U g mk q => ⟨q.1, q.2.1, ⟨q.2.2.1.1, va_K.moved (u := U) (U := U.calling g mk a1) (Vm.Alike.refl U.vm) q.2.2.1.2⟩, q.2.2.2⟩, va_recv hK hP (ci := 0) (q0 := 0) rfl rfl, fun U hU hW => ⟨rfl, by rw [hU], ⟨by rw [hU]; exact hP, va_K.moved hW.alike hK⟩, hD.weaken (fun _ _ _ _ => trivial)⟩⟩ rfl rfl hl rfl (lv_room hr) hdg hz) hS (fun q _ h => hF q h) hF (fun u t H1 locs1 ht hvm hw hB hz1 hk1 hS1 => ?_)
  obtain ⟨hP1, hK1, hD1⟩ := hB
  rw [ht] at hP1
  exact kk H1 locs1 hP1 (hD1.weaken (fun _ q9 _ h => hF q9.1 h)) hS1
set_option maxHeartbeats 4000000 in
set_option maxRecDepth 100000 in
theorem c_X0_pass (l : Launch) (sz : Nat) {D : va_G} {z : ClassId × ClassId} {a : Nat → Nat} {lv lk pu fa he : Nat → Int32} {n : Nat} {nv du ta : Nat → Int32} {w : Nat} {mp mi : Nat → Int32} {k : Nat} {nt fu re : Int32} (tn : Nat) (h1 : 1 ≤ tn) (h2 : tn ≤ 30) (hn : n ≤ 10) (hw : w ≤ 6) : Met l yX0_pass (ws_ yX0_pass cX0_pass 3 (some .int)) ({ frames := 2, cells := 0, slots := 0, locals := 43 } : Room) (va_Pc [.ref (a 0), .int (nI tn)] (fun U => U.heap.size = sz ∧ xI D z a lv lk pu fa he n nv du ta w mp mi k nt fu re U ∧ va_D (fun _ => True) (xW z a lv lk pu fa he n nv du ta w mp mi k nt fu re))) (va_Qi (fun (r : Int32) (_ : Unit) => r = sp_shk (sp_pn du w nv tn) w) (fun _ t9 => va_P D vwCl (xW z a lv (sp_pl lv n lk tn) pu fa he n (sp_pn du w nv tn) du ta w mp mi k (nt + nI tn) fu re) t9.heap ∧ kK D z t9 ∧ va_D (va_A (xW z a lv lk pu fa he n nv du ta w mp mi k nt fu re) sz) (xW z a lv (sp_pl lv n lk tn) pu fa he n (sp_pn du w nv tn) du ta w mp mi k (nt + nI tn) fu re)) (va_A (xW z a lv lk pu fa he n nv du ta w mp mi k nt fu re) sz)) 0 0 (va_A (xW z a lv lk pu fa he n nv du ta w mp mi k nt fu re) sz) := by
  refine Met.ofW (cc := cX0_pass) (maxL := 3) (ret := (some .int)) (by decide) rfl ?_
  intro p e s m args below meth c s₁ B hml hv
  obtain ⟨rfl, hsz, ⟨hP, hK⟩, hD0⟩ := hv
  have hx := B.exec
  have hb := B.bytes
  have hr := B.returns
  have hts := atoms_spec (ws := ws_ yX0_pass cX0_pass 3 (some .int)) B.pre
  have hts : ∀ w ∈ lw_all, w.before _ s = true := fun w h => hts w (List.mem_cons_of_mem _ h)
  have hown : s.vm.findClass RX0 = some m.cls := findClass_of_methodNamed B.named
  have hlocks := B.notSynchronized
  have hC : CallFix p m c cX0_pass 3 s _ lw_all RX0 := ⟨hx, hb, hml, hown, hts⟩
  subst hsz
  have hD := hD0.self (sz := s.heap.size)
  generalize hAe : va_A (xW z a lv lk pu fa he n nv du ta w mp mi k nt fu re) s.heap.size = A at hD ⊢
  have hA : ∀ q : Nat, s.heap.size ≤ q → A q := fun q h => by rw [← hAe]; exact Or.inr h
  have hS : va_S A s.heap s.heap [] := va_S.rf
  have hl := lv_entry ([.ref (a 0), .int (nI tn)]) (n := 3) (Nat.le_of_ble_eq_true rfl)
  rw [lg_entry_eq]
  generalize (lg_sl ([.ref (a 0), .int (nI tn)]) ++ List.replicate (3 - (lg_sl ([.ref (a 0), .int (nI tn)])).length) Slot.unset).toArray = ls at hl ⊢
  have hl : lv_has ls 3 [(0, .ref (a 0)), (1, .int (nI tn))] := hl
  refine lv_iload_n hx hb dX0_pass_0 rfl (lv_at hl 1 rfl) ?_
  refine lv_iconst (v := 1) hx hb dX0_pass_1 (by decide) ?_
  refine lv_icmp_lt (tgt := 11) hx hb dX0_pass_2 (by decide) (fun c_2 => ?_) (fun c_2 => ?_)
  · exact absurd c_2 (nI_nlt (b := 1) h1 (by omega))
  · have nc_2 : 1 ≤ tn := nn_nlt (by omega) c_2
    refine lv_iload_n hx hb dX0_pass_5 rfl (lv_at hl 1 rfl) ?_
    refine lv_bipush (v := 30) hx hb dX0_pass_6 (by decide) ?_
    refine lv_icmp_le (tgt := 21) hx hb dX0_pass_8 (by decide) (fun c_8 => ?_) (fun c_8 => ?_)
    · have nc_8 : tn ≤ 30 := nn_le (by omega) c_8
      refine lv_iconst (v := 0) hx hb dX0_pass_21 (by decide) ?_
      refine lv_istore_n (lv' := [(2, .int 0), (0, .ref (a 0)), (1, .int (nI tn))]) hx hb dX0_pass_22 rfl hl (by decide) rfl (fun ls hl => ?_)
      have loop_23 : ∀ (f : Nat) (j : Nat) (g : Nat → Int32) (d : Nat → Int32) (y : Int32), j ≤ tn → tn + 1 ≤ j + f → g = sp_pn du w nv j → d = sp_pl lv n lk j → y = nt + nI j → ∀ (H : Heap) (locs : List Loc), va_P D vwCl (xW z a lv d pu fa he n g du ta w mp mi k y fu re) H → va_D A (xW z a lv d pu fa he n g du ta w mp mi k y fu re) → va_S A s.heap H locs → ∀ ls : Array Slot, lv_has ls 3 [(0, .ref (a 0)), (1, .int (nI tn)), (2, .int (nI j))] → W p l e ({ frames := 2, cells := 0, slots := 0, locals := 43 } : Room) s m ([.ref (a 0), .int (nI tn)] : List Value).toArray below meth c H locs 0 0 (MQ below (va_Qi (fun (r : Int32) (_ : Unit) => r = sp_shk (sp_pn du w nv tn) w) (fun _ t9 => va_P D vwCl (xW z a lv (sp_pl lv n lk tn) pu fa he n (sp_pn du w nv tn) du ta w mp mi k (nt + nI tn) fu re) t9.heap ∧ kK D z t9 ∧ va_D A (xW z a lv (sp_pl lv n lk tn) pu fa he n (sp_pn du w nv tn) du ta w mp mi k (nt + nI tn) fu re)) A) ([.ref (a 0), .int (nI tn)] : List Value).toArray s 0 0 A) (F0 m 23 ls []) := by
        intro f
        induction f with
        | zero =>
          intro j g d y hj hf hg hd hy
          exact absurd hf (by omega)
        | succ f ih23 =>
          intro j g d y hj hf hg hd hy H locs hP hD hS ls hl
          refine lv_iload_n hx hb dX0_pass_23 rfl (lv_at hl 2 rfl) ?_
          refine lv_iload_n hx hb dX0_pass_24 rfl (lv_at hl 1 rfl) ?_
          refine lv_icmp_ge (tgt := 38) hx hb dX0_pass_25 (by decide) (fun c_25 => ?_) (fun c_25 => ?_)
          · have nc_25 : tn ≤ j := nn_le (by omega) c_25
            refine lv_aload_n hx hb dX0_pass_38 rfl (lv_at hl 0 rfl) ?_
            refine k_X0_shaken hC hK hP hl.1 ⟨Nat.le_of_ble_eq_true rfl, Nat.le_of_ble_eq_true rfl⟩ ⟨Nat.zero_le _, Nat.zero_le _⟩ (Nat.le_of_ble_eq_true rfl)  (by first | assumption | omega) dX0_pass_39 ?_
            have hW9 : (xW z a lv d pu fa he n g du ta w mp mi k y fu re : va_W) = xW z a lv (sp_pl lv n lk tn) pu fa he n (sp_pn du w nv tn) du ta w mp mi k (nt + nI tn) fu re := (by rw [hg, hd, hy, show j = tn by omega])
            rw [hW9] at hP hD
            exact W.iret (v := sp_shk g w) hx hb hr (fun t ht hW => ⟨⟨sp_shk g w, (), rfl, (by rw [hg, show j = tn by omega]), by rw [ht]; exact hP, va_K.moved hW.alike hK, hD⟩, hS.F ht⟩) hS.2.2 dX0_pass_42
          · have nc_25 : j < tn := nn_nle (by omega) c_25
            refine lv_aload_n hx hb dX0_pass_28 rfl (lv_at hl 0 rfl) ?_
            refine k_X0_passOneNight hC hK hP hD hS hA hl.1 ⟨Nat.le_of_ble_eq_true rfl, Nat.le_of_ble_eq_true rfl⟩ ⟨Nat.zero_le _, Nat.zero_le _⟩ (Nat.le_of_ble_eq_true rfl)  (by first | assumption | omega) (by first | assumption | omega) dX0_pass_29 (fun H locs hP hD hS => ?_)
            refine lv_iinc (v := nI (j + 1)) (lv' := [(2, .int (nI (j + 1))), (0, .ref (a 0)), (1, .int (nI tn))]) hx hb dX0_pass_32 hl (k := 2) rfl (nI_1 _) (by decide) rfl (fun ls hl => ?_)
            refine lv_goto (tgt := 23) hx hb dX0_pass_35 (by decide) ?_
            exact ih23 (j + 1) (sp_nn du g w) (sp_nl lv d n) (y + 1) (by omega) (by omega) (by rw [hg]; rfl) (by rw [hd]; rfl) (by rw [hy, Int32.add_assoc, nI_1]) _ _ hP hD hS _ (lv_sub hl [1, 2, 0] rfl)
      exact loop_23 (tn + 1) 0 nv lk nt (Nat.zero_le _) (by omega) rfl rfl (Int32.add_zero nt).symm _ _ hP hD hS _ (lv_sub hl [1, 2, 0] rfl)
    · exact absurd (nI_le (b := 30) h2 (by omega)) c_8
set_option maxHeartbeats 4000000 in
set_option maxRecDepth 100000 in
theorem c_X0_addPerson (l : Launch) (sz : Nat) {D : va_G} {z : ClassId × ClassId} {a : Nat → Nat} {lv lk pu fa he : Nat → Int32} {n : Nat} {nv du ta : Nat → Int32} {w : Nat} {mp mi : Nat → Int32} {k : Nat} {nt fu re : Int32} (x : Int32) (h1 : ¬ x < 0) (h2 : x ≤ 99) (hn : n < 10) : Met l yX0_addPerson (ws_ yX0_addPerson cX0_addPerson 3 (some .int)) ({ frames := 0, cells := 0, slots := 0, locals := 0 } : Room) (va_Pc [.ref (a 0), .int x] (fun U => U.heap.size = sz ∧ xI D z a lv lk pu fa he n nv du ta w mp mi k nt fu re U ∧ va_D (fun _ => True) (xW z a lv lk pu fa he n nv du ta w mp mi k nt fu re))) (va_Qi (fun (r : Int32) (_ : Unit) => r = nI n) (fun _ t9 => va_P D vwCl (xW z a (upd lv n 1) (upd lk n x) (upd pu n 100) (upd fa n 0) (upd he n (-1)) (n + 1) nv du ta w mp mi k nt fu re) t9.heap ∧ kK D z t9 ∧ va_D (va_A (xW z a lv lk pu fa he n nv du ta w mp mi k nt fu re) sz) (xW z a (upd lv n 1) (upd lk n x) (upd pu n 100) (upd fa n 0) (upd he n (-1)) (n + 1) nv du ta w mp mi k nt fu re)) (va_A (xW z a lv lk pu fa he n nv du ta w mp mi k nt fu re) sz)) 0 0 (va_A (xW z a lv lk pu fa he n nv du ta w mp mi k nt fu re) sz) := by
  refine Met.ofW (cc := cX0_addPerson) (maxL := 3) (ret := (some .int)) (by decide) rfl ?_
  intro p e s m args below meth c s₁ B hml hv
  obtain ⟨rfl, hsz, ⟨hP, hK⟩, hD0⟩ := hv
  have hx := B.exec
  have hb := B.bytes
  have hr := B.returns
  have hts := atoms_spec (ws := ws_ yX0_addPerson cX0_addPerson 3 (some .int)) B.pre
  have hts : ∀ w ∈ lw_all, w.before _ s = true := fun w h => hts w (List.mem_cons_of_mem _ h)
  have hown : s.vm.findClass RX0 = some m.cls := findClass_of_methodNamed B.named
  have hlocks := B.notSynchronized
  have hC : CallFix p m c cX0_addPerson 3 s _ lw_all RX0 := ⟨hx, hb, hml, hown, hts⟩
  subst hsz
  have hD := hD0.self (sz := s.heap.size)
  generalize hAe : va_A (xW z a lv lk pu fa he n nv du ta w mp mi k nt fu re) s.heap.size = A at hD ⊢
  have hA : ∀ q : Nat, s.heap.size ≤ q → A q := fun q h => by rw [← hAe]; exact Or.inr h
  have hS : va_S A s.heap s.heap [] := va_S.rf
  have hl := lv_entry ([.ref (a 0), .int x]) (n := 3) (Nat.le_of_ble_eq_true rfl)
  rw [lg_entry_eq]
  generalize (lg_sl ([.ref (a 0), .int x]) ++ List.replicate (3 - (lg_sl ([.ref (a 0), .int x])).length) Slot.unset).toArray = ls at hl ⊢
  have hl : lv_has ls 3 [(0, .ref (a 0)), (1, .int x)] := hl
  refine lv_iload_n hx hb dX0_addPerson_0 rfl (lv_at hl 1 rfl) ?_
  refine lv_if_lt (tgt := 10) hx hb dX0_addPerson_1 (by decide) (fun c_1 => ?_) (fun c_1 => ?_)
  · exact absurd c_1 h1
  · refine lv_iload_n hx hb dX0_addPerson_4 rfl (lv_at hl 1 rfl) ?_
    refine lv_bipush (v := 99) hx hb dX0_addPerson_5 (by decide) ?_
    refine lv_icmp_le (tgt := 20) hx hb dX0_addPerson_7 (by decide) (fun c_7 => ?_) (fun c_7 => ?_)
    · refine lv_aload_n hx hb dX0_addPerson_20 rfl (lv_at hl 0 rfl) ?_
      refine xg_n hC hK hP dX0_addPerson_21 ?_
      refine lv_bipush (v := 10) hx hb dX0_addPerson_24 (by decide) ?_
      refine lv_icmp_lt (tgt := 39) hx hb dX0_addPerson_26 (by decide) (fun c_26 => ?_) (fun c_26 => ?_)
      · have nc_26 : n < 10 := nn_lt (by omega) c_26
        refine lv_aload_n hx hb dX0_addPerson_39 rfl (lv_at hl 0 rfl) ?_
        refine xg_n hC hK hP dX0_addPerson_40 ?_
        refine lv_istore_n (lv' := [(2, .int (nI n)), (0, .ref (a 0)), (1, .int x)]) hx hb dX0_addPerson_43 rfl hl (by decide) rfl (fun ls hl => ?_)
        refine lv_aload_n hx hb dX0_addPerson_44 rfl (lv_at hl 1 rfl) ?_
        refine xg_lv hC hK hP dX0_addPerson_45 ?_
        refine lv_iload_n hx hb dX0_addPerson_48 rfl (lv_at hl 0 rfl) ?_
        refine lv_iconst (v := 1) hx hb dX0_addPerson_49 (by decide) ?_
        refine xs_lv hC hK hP hD hS n rfl (by omega) (by decide) dX0_addPerson_50 (fun H locs hP hD hS => ?_)
        refine lv_aload_n hx hb dX0_addPerson_51 rfl (lv_at hl 1 rfl) ?_
        refine xg_lk hC hK hP dX0_addPerson_52 ?_
        refine lv_iload_n hx hb dX0_addPerson_55 rfl (lv_at hl 0 rfl) ?_
        refine lv_iload_n hx hb dX0_addPerson_56 rfl (lv_at hl 2 rfl) ?_
        refine xs_lk hC hK hP hD hS n rfl (by omega) dX0_addPerson_57 (fun H locs hP hD hS => ?_)
        refine lv_aload_n hx hb dX0_addPerson_58 rfl (lv_at hl 1 rfl) ?_
        refine xg_pu hC hK hP dX0_addPerson_59 ?_
        refine lv_iload_n hx hb dX0_addPerson_62 rfl (lv_at hl 0 rfl) ?_
        refine lv_bipush (v := 100) hx hb dX0_addPerson_63 (by decide) ?_
        refine xs_pu hC hK hP hD hS n rfl (by omega) dX0_addPerson_65 (fun H locs hP hD hS => ?_)
        refine lv_aload_n hx hb dX0_addPerson_66 rfl (lv_at hl 1 rfl) ?_
        refine xg_fa hC hK hP dX0_addPerson_67 ?_
        refine lv_iload_n hx hb dX0_addPerson_70 rfl (lv_at hl 0 rfl) ?_
        refine lv_iconst (v := 0) hx hb dX0_addPerson_71 (by decide) ?_
        refine xs_fa hC hK hP hD hS n rfl (by omega) dX0_addPerson_72 (fun H locs hP hD hS => ?_)
        refine lv_aload_n hx hb dX0_addPerson_73 rfl (lv_at hl 1 rfl) ?_
        refine xg_he hC hK hP dX0_addPerson_74 ?_
        refine lv_iload_n hx hb dX0_addPerson_77 rfl (lv_at hl 0 rfl) ?_
        refine lv_iconst (v := (-1)) hx hb dX0_addPerson_78 (by decide) ?_
        refine xs_he hC hK hP hD hS n rfl (by omega) dX0_addPerson_79 (fun H locs hP hD hS => ?_)
        refine lv_aload_n hx hb dX0_addPerson_80 rfl (lv_at hl 1 rfl) ?_
        refine lv_dup hx hb dX0_addPerson_81 rfl ?_
        refine xg_n hC hK hP dX0_addPerson_82 ?_
        refine lv_iconst (v := 1) hx hb dX0_addPerson_85 (by decide) ?_
        refine lv_iadd hx hb dX0_addPerson_86 ?_
        refine xp_n (n' := n + 1) hC hK hP hD hS (nI_1 _) dX0_addPerson_87 (fun H locs hP hD hS => ?_)
        refine lv_iload_n hx hb dX0_addPerson_90 rfl (lv_at hl 0 rfl) ?_
        exact W.iret (v := nI n) hx hb hr (fun t ht hW => ⟨⟨nI n, (), rfl, rfl, by rw [ht]; exact hP, va_K.moved hW.alike hK, hD⟩, hS.F ht⟩) hS.2.2 dX0_addPerson_91
      · exact absurd (nI_lt (b := 10) hn (by decide)) c_26
    · exact absurd h2 c_7
set_option maxHeartbeats 4000000 in
set_option maxRecDepth 100000 in
theorem c_X0_addWitness (l : Launch) (sz : Nat) {D : va_G} {z : ClassId × ClassId} {a : Nat → Nat} {lv lk pu fa he : Nat → Int32} {n : Nat} {nv du ta : Nat → Int32} {w : Nat} {mp mi : Nat → Int32} {k : Nat} {nt fu re : Int32} (x : Int32) (h1 : ¬ x < 0) (h2 : x ≤ 9) (hw : w < 6) : Met l yX0_addWitness (ws_ yX0_addWitness cX0_addWitness 3 (some .int)) ({ frames := 0, cells := 0, slots := 0, locals := 0 } : Room) (va_Pc [.ref (a 0), .int x] (fun U => U.heap.size = sz ∧ xI D z a lv lk pu fa he n nv du ta w mp mi k nt fu re U ∧ va_D (fun _ => True) (xW z a lv lk pu fa he n nv du ta w mp mi k nt fu re))) (va_Qi (fun (r : Int32) (_ : Unit) => r = nI w) (fun _ t9 => va_P D vwCl (xW z a lv lk pu fa he n (upd nv w x) (upd du w 1) ta (w + 1) mp mi k nt fu re) t9.heap ∧ kK D z t9 ∧ va_D (va_A (xW z a lv lk pu fa he n nv du ta w mp mi k nt fu re) sz) (xW z a lv lk pu fa he n (upd nv w x) (upd du w 1) ta (w + 1) mp mi k nt fu re)) (va_A (xW z a lv lk pu fa he n nv du ta w mp mi k nt fu re) sz)) 0 0 (va_A (xW z a lv lk pu fa he n nv du ta w mp mi k nt fu re) sz) := by
  refine Met.ofW (cc := cX0_addWitness) (maxL := 3) (ret := (some .int)) (by decide) rfl ?_
  intro p e s m args below meth c s₁ B hml hv
  obtain ⟨rfl, hsz, ⟨hP, hK⟩, hD0⟩ := hv
  have hx := B.exec
  have hb := B.bytes
  have hr := B.returns
  have hts := atoms_spec (ws := ws_ yX0_addWitness cX0_addWitness 3 (some .int)) B.pre
  have hts : ∀ w ∈ lw_all, w.before _ s = true := fun w h => hts w (List.mem_cons_of_mem _ h)
  have hown : s.vm.findClass RX0 = some m.cls := findClass_of_methodNamed B.named
  have hlocks := B.notSynchronized
  have hC : CallFix p m c cX0_addWitness 3 s _ lw_all RX0 := ⟨hx, hb, hml, hown, hts⟩
  subst hsz
  have hD := hD0.self (sz := s.heap.size)
  generalize hAe : va_A (xW z a lv lk pu fa he n nv du ta w mp mi k nt fu re) s.heap.size = A at hD ⊢
  have hA : ∀ q : Nat, s.heap.size ≤ q → A q := fun q h => by rw [← hAe]; exact Or.inr h
  have hS : va_S A s.heap s.heap [] := va_S.rf
  have hl := lv_entry ([.ref (a 0), .int x]) (n := 3) (Nat.le_of_ble_eq_true rfl)
  rw [lg_entry_eq]
  generalize (lg_sl ([.ref (a 0), .int x]) ++ List.replicate (3 - (lg_sl ([.ref (a 0), .int x])).length) Slot.unset).toArray = ls at hl ⊢
  have hl : lv_has ls 3 [(0, .ref (a 0)), (1, .int x)] := hl
  refine lv_iload_n hx hb dX0_addWitness_0 rfl (lv_at hl 1 rfl) ?_
  refine lv_if_lt (tgt := 10) hx hb dX0_addWitness_1 (by decide) (fun c_1 => ?_) (fun c_1 => ?_)
  · exact absurd c_1 h1
  · refine lv_iload_n hx hb dX0_addWitness_4 rfl (lv_at hl 1 rfl) ?_
    refine lv_bipush (v := 9) hx hb dX0_addWitness_5 (by decide) ?_
    refine lv_icmp_le (tgt := 20) hx hb dX0_addWitness_7 (by decide) (fun c_7 => ?_) (fun c_7 => ?_)
    · refine lv_aload_n hx hb dX0_addWitness_20 rfl (lv_at hl 0 rfl) ?_
      refine xg_w hC hK hP dX0_addWitness_21 ?_
      refine lv_bipush (v := 6) hx hb dX0_addWitness_24 (by decide) ?_
      refine lv_icmp_lt (tgt := 39) hx hb dX0_addWitness_26 (by decide) (fun c_26 => ?_) (fun c_26 => ?_)
      · have nc_26 : w < 6 := nn_lt (by omega) c_26
        refine lv_aload_n hx hb dX0_addWitness_39 rfl (lv_at hl 0 rfl) ?_
        refine xg_w hC hK hP dX0_addWitness_40 ?_
        refine lv_istore_n (lv' := [(2, .int (nI w)), (0, .ref (a 0)), (1, .int x)]) hx hb dX0_addWitness_43 rfl hl (by decide) rfl (fun ls hl => ?_)
        refine lv_aload_n hx hb dX0_addWitness_44 rfl (lv_at hl 1 rfl) ?_
        refine xg_nv hC hK hP dX0_addWitness_45 ?_
        refine lv_iload_n hx hb dX0_addWitness_48 rfl (lv_at hl 0 rfl) ?_
        refine lv_iload_n hx hb dX0_addWitness_49 rfl (lv_at hl 2 rfl) ?_
        refine xs_nv hC hK hP hD hS w rfl (by omega) dX0_addWitness_50 (fun H locs hP hD hS => ?_)
        refine lv_aload_n hx hb dX0_addWitness_51 rfl (lv_at hl 1 rfl) ?_
        refine xg_du hC hK hP dX0_addWitness_52 ?_
        refine lv_iload_n hx hb dX0_addWitness_55 rfl (lv_at hl 0 rfl) ?_
        refine lv_iconst (v := 1) hx hb dX0_addWitness_56 (by decide) ?_
        refine xs_du hC hK hP hD hS w rfl (by omega) (by decide) dX0_addWitness_57 (fun H locs hP hD hS => ?_)
        refine lv_aload_n hx hb dX0_addWitness_58 rfl (lv_at hl 1 rfl) ?_
        refine lv_dup hx hb dX0_addWitness_59 rfl ?_
        refine xg_w hC hK hP dX0_addWitness_60 ?_
        refine lv_iconst (v := 1) hx hb dX0_addWitness_63 (by decide) ?_
        refine lv_iadd hx hb dX0_addWitness_64 ?_
        refine xp_w (w' := w + 1) hC hK hP hD hS (nI_1 _) dX0_addWitness_65 (fun H locs hP hD hS => ?_)
        refine lv_iload_n hx hb dX0_addWitness_68 rfl (lv_at hl 0 rfl) ?_
        exact W.iret (v := nI w) hx hb hr (fun t ht hW => ⟨⟨nI w, (), rfl, rfl, by rw [ht]; exact hP, va_K.moved hW.alike hK, hD⟩, hS.F ht⟩) hS.2.2 dX0_addWitness_69
      · exact absurd (nI_lt (b := 6) hw (by decide)) c_26
    · exact absurd h2 c_7
set_option maxHeartbeats 4000000 in
set_option maxRecDepth 100000 in
theorem c_X0_setHeir_0 (l : Launch) (sz : Nat) {D : va_G} {z : ClassId × ClassId} {a : Nat → Nat} {lv lk pu fa he : Nat → Int32} {n : Nat} {nv du ta : Nat → Int32} {w : Nat} {mp mi : Nat → Int32} {k : Nat} {nt fu re : Int32} (i : Nat) (hi : i < n) (hn : n ≤ 10) (ha : ¬ lv i = 0) : Met l yX0_setHeir (ws_ yX0_setHeir cX0_setHeir 4 (some .int)) ({ frames := 2, cells := 0, slots := 0, locals := 42 } : Room) (va_Pc [.ref (a 0), .int (nI i), .int (-1)] (fun U => U.heap.size = sz ∧ xI D z a lv lk pu fa he n nv du ta w mp mi k nt fu re U ∧ va_D (fun _ => True) (xW z a lv lk pu fa he n nv du ta w mp mi k nt fu re))) (va_Qi (fun (r : Int32) (_ : Unit) => r = he i) (fun _ t9 => va_P D vwCl (xW z a lv lk pu fa (upd he i (-1)) n nv du ta w mp mi k nt fu re) t9.heap ∧ kK D z t9 ∧ va_D (va_A (xW z a lv lk pu fa he n nv du ta w mp mi k nt fu re) sz) (xW z a lv lk pu fa (upd he i (-1)) n nv du ta w mp mi k nt fu re)) (va_A (xW z a lv lk pu fa he n nv du ta w mp mi k nt fu re) sz)) 0 0 (va_A (xW z a lv lk pu fa he n nv du ta w mp mi k nt fu re) sz) := by
  refine Met.ofW (cc := cX0_setHeir) (maxL := 4) (ret := (some .int)) (by decide) rfl ?_
  intro p e s m args below meth c s₁ B hml hv
  obtain ⟨rfl, hsz, ⟨hP, hK⟩, hD0⟩ := hv
  have hx := B.exec
  have hb := B.bytes
  have hr := B.returns
  have hts := atoms_spec (ws := ws_ yX0_setHeir cX0_setHeir 4 (some .int)) B.pre
  have hts : ∀ w ∈ lw_all, w.before _ s = true := fun w h => hts w (List.mem_cons_of_mem _ h)
  have hown : s.vm.findClass RX0 = some m.cls := findClass_of_methodNamed B.named
  have hlocks := B.notSynchronized
  have hC : CallFix p m c cX0_setHeir 4 s _ lw_all RX0 := ⟨hx, hb, hml, hown, hts⟩
  subst hsz
  have hD := hD0.self (sz := s.heap.size)
  generalize hAe : va_A (xW z a lv lk pu fa he n nv du ta w mp mi k nt fu re) s.heap.size = A at hD ⊢
  have hA : ∀ q : Nat, s.heap.size ≤ q → A q := fun q h => by rw [← hAe]; exact Or.inr h
  have hS : va_S A s.heap s.heap [] := va_S.rf
  have hl := lv_entry ([.ref (a 0), .int (nI i), .int (-1)]) (n := 4) (Nat.le_of_ble_eq_true rfl)
  rw [lg_entry_eq]
  generalize (lg_sl ([.ref (a 0), .int (nI i), .int (-1)]) ++ List.replicate (4 - (lg_sl ([.ref (a 0), .int (nI i), .int (-1)])).length) Slot.unset).toArray = ls at hl ⊢
  have hl : lv_has ls 4 [(0, .ref (a 0)), (1, .int (nI i)), (2, .int (-1))] := hl
  refine lv_aload_n hx hb dX0_setHeir_0 rfl (lv_at hl 0 rfl) ?_
  refine lv_iload_n hx hb dX0_setHeir_1 rfl (lv_at hl 1 rfl) ?_
  refine k_X0_requirePerson hC hK hP hl.1 ⟨Nat.le_of_ble_eq_true rfl, Nat.le_of_ble_eq_true rfl⟩ ⟨Nat.zero_le _, Nat.zero_le _⟩ (Nat.le_of_ble_eq_true rfl) rfl (by first | assumption | omega) (by first | assumption | omega) dX0_setHeir_2 ?_
  refine lv_iload_n hx hb dX0_setHeir_5 rfl (lv_at hl 2 rfl) ?_
  refine lv_iconst (v := (-1)) hx hb dX0_setHeir_6 (by decide) ?_
  refine lv_icmp_eq (tgt := 15) hx hb dX0_setHeir_7 (by decide) (fun c_7 => ?_) (fun c_7 => ?_)
  · refine lv_iload_n hx hb dX0_setHeir_15 rfl (lv_at hl 1 rfl) ?_
    refine lv_iload_n hx hb dX0_setHeir_16 rfl (lv_at hl 2 rfl) ?_
    refine lv_icmp_ne (tgt := 30) hx hb dX0_setHeir_17 (by decide) (fun c_17 => ?_) (fun c_17 => ?_)
    · refine lv_aload_n hx hb dX0_setHeir_30 rfl (lv_at hl 0 rfl) ?_
      refine lv_iload_n hx hb dX0_setHeir_31 rfl (lv_at hl 1 rfl) ?_
      refine k_X0_requireAlive hC hK hP hl.1 ⟨Nat.le_of_ble_eq_true rfl, Nat.le_of_ble_eq_true rfl⟩ ⟨Nat.zero_le _, Nat.zero_le _⟩ (Nat.le_of_ble_eq_true rfl) rfl (by first | assumption | omega) (by first | assumption | omega) dX0_setHeir_32 ?_
      refine lv_aload_n hx hb dX0_setHeir_35 rfl (lv_at hl 0 rfl) ?_
      refine xg_he hC hK hP dX0_setHeir_36 ?_
      refine lv_iload_n hx hb dX0_setHeir_39 rfl (lv_at hl 1 rfl) ?_
      refine xl_he hC hK hP i rfl (by omega) dX0_setHeir_40 ?_
      refine lv_istore_n (lv' := [(3, .int (he i)), (0, .ref (a 0)), (1, .int (nI i)), (2, .int (-1))]) hx hb dX0_setHeir_41 rfl hl (by decide) rfl (fun ls hl => ?_)
      refine lv_aload_n hx hb dX0_setHeir_42 rfl (lv_at hl 1 rfl) ?_
      refine xg_he hC hK hP dX0_setHeir_43 ?_
      refine lv_iload_n hx hb dX0_setHeir_46 rfl (lv_at hl 2 rfl) ?_
      refine lv_iload_n hx hb dX0_setHeir_47 rfl (lv_at hl 3 rfl) ?_
      refine xs_he hC hK hP hD hS i rfl (by omega) dX0_setHeir_48 (fun H locs hP hD hS => ?_)
      refine lv_iload_n hx hb dX0_setHeir_49 rfl (lv_at hl 0 rfl) ?_
      exact W.iret (v := he i) hx hb hr (fun t ht hW => ⟨⟨he i, (), rfl, rfl, by rw [ht]; exact hP, va_K.moved hW.alike hK, hD⟩, hS.F ht⟩) hS.2.2 dX0_setHeir_50
    · exact absurd c_17 (ni_m1 (by omega))
  · exact absurd rfl c_7
set_option maxHeartbeats 4000000 in
set_option maxRecDepth 100000 in
theorem c_X0_setHeir_1 (l : Launch) (sz : Nat) {D : va_G} {z : ClassId × ClassId} {a : Nat → Nat} {lv lk pu fa he : Nat → Int32} {n : Nat} {nv du ta : Nat → Int32} {w : Nat} {mp mi : Nat → Int32} {k : Nat} {nt fu re : Int32} (i : Nat) (j : Nat) (hi : i < n) (hj : j < n) (hn : n ≤ 10) (hij : ¬ i = j) (ha : ¬ lv i = 0) : Met l yX0_setHeir (ws_ yX0_setHeir cX0_setHeir 4 (some .int)) ({ frames := 2, cells := 0, slots := 0, locals := 42 } : Room) (va_Pc [.ref (a 0), .int (nI i), .int (nI j)] (fun U => U.heap.size = sz ∧ xI D z a lv lk pu fa he n nv du ta w mp mi k nt fu re U ∧ va_D (fun _ => True) (xW z a lv lk pu fa he n nv du ta w mp mi k nt fu re))) (va_Qi (fun (r : Int32) (_ : Unit) => r = he i) (fun _ t9 => va_P D vwCl (xW z a lv lk pu fa (upd he i (nI j)) n nv du ta w mp mi k nt fu re) t9.heap ∧ kK D z t9 ∧ va_D (va_A (xW z a lv lk pu fa he n nv du ta w mp mi k nt fu re) sz) (xW z a lv lk pu fa (upd he i (nI j)) n nv du ta w mp mi k nt fu re)) (va_A (xW z a lv lk pu fa he n nv du ta w mp mi k nt fu re) sz)) 0 0 (va_A (xW z a lv lk pu fa he n nv du ta w mp mi k nt fu re) sz) := by
  refine Met.ofW (cc := cX0_setHeir) (maxL := 4) (ret := (some .int)) (by decide) rfl ?_
  intro p e s m args below meth c s₁ B hml hv
  obtain ⟨rfl, hsz, ⟨hP, hK⟩, hD0⟩ := hv
  have hx := B.exec
  have hb := B.bytes
  have hr := B.returns
  have hts := atoms_spec (ws := ws_ yX0_setHeir cX0_setHeir 4 (some .int)) B.pre
  have hts : ∀ w ∈ lw_all, w.before _ s = true := fun w h => hts w (List.mem_cons_of_mem _ h)
  have hown : s.vm.findClass RX0 = some m.cls := findClass_of_methodNamed B.named
  have hlocks := B.notSynchronized
  have hC : CallFix p m c cX0_setHeir 4 s _ lw_all RX0 := ⟨hx, hb, hml, hown, hts⟩
  subst hsz
  have hD := hD0.self (sz := s.heap.size)
  generalize hAe : va_A (xW z a lv lk pu fa he n nv du ta w mp mi k nt fu re) s.heap.size = A at hD ⊢
  have hA : ∀ q : Nat, s.heap.size ≤ q → A q := fun q h => by rw [← hAe]; exact Or.inr h
  have hS : va_S A s.heap s.heap [] := va_S.rf
  have hl := lv_entry ([.ref (a 0), .int (nI i), .int (nI j)]) (n := 4) (Nat.le_of_ble_eq_true rfl)
  rw [lg_entry_eq]
  generalize (lg_sl ([.ref (a 0), .int (nI i), .int (nI j)]) ++ List.replicate (4 - (lg_sl ([.ref (a 0), .int (nI i), .int (nI j)])).length) Slot.unset).toArray = ls at hl ⊢
  have hl : lv_has ls 4 [(0, .ref (a 0)), (1, .int (nI i)), (2, .int (nI j))] := hl
  refine lv_aload_n hx hb dX0_setHeir_0 rfl (lv_at hl 0 rfl) ?_
  refine lv_iload_n hx hb dX0_setHeir_1 rfl (lv_at hl 1 rfl) ?_
  refine k_X0_requirePerson hC hK hP hl.1 ⟨Nat.le_of_ble_eq_true rfl, Nat.le_of_ble_eq_true rfl⟩ ⟨Nat.zero_le _, Nat.zero_le _⟩ (Nat.le_of_ble_eq_true rfl) rfl (by first | assumption | omega) (by first | assumption | omega) dX0_setHeir_2 ?_
  refine lv_iload_n hx hb dX0_setHeir_5 rfl (lv_at hl 2 rfl) ?_
  refine lv_iconst (v := (-1)) hx hb dX0_setHeir_6 (by decide) ?_
  refine lv_icmp_eq (tgt := 15) hx hb dX0_setHeir_7 (by decide) (fun c_7 => ?_) (fun c_7 => ?_)
  · exact absurd c_7 (ni_m1 (by omega))
  · refine lv_aload_n hx hb dX0_setHeir_10 rfl (lv_at hl 0 rfl) ?_
    refine lv_iload_n hx hb dX0_setHeir_11 rfl (lv_at hl 2 rfl) ?_
    refine k_X0_requirePerson hC hK hP hl.1 ⟨Nat.le_of_ble_eq_true rfl, Nat.le_of_ble_eq_true rfl⟩ ⟨Nat.zero_le _, Nat.zero_le _⟩ (Nat.le_of_ble_eq_true rfl) rfl (by first | assumption | omega) (by first | assumption | omega) dX0_setHeir_12 ?_
    refine lv_iload_n hx hb dX0_setHeir_15 rfl (lv_at hl 1 rfl) ?_
    refine lv_iload_n hx hb dX0_setHeir_16 rfl (lv_at hl 2 rfl) ?_
    refine lv_icmp_ne (tgt := 30) hx hb dX0_setHeir_17 (by decide) (fun c_17 => ?_) (fun c_17 => ?_)
    · refine lv_aload_n hx hb dX0_setHeir_30 rfl (lv_at hl 0 rfl) ?_
      refine lv_iload_n hx hb dX0_setHeir_31 rfl (lv_at hl 1 rfl) ?_
      refine k_X0_requireAlive hC hK hP hl.1 ⟨Nat.le_of_ble_eq_true rfl, Nat.le_of_ble_eq_true rfl⟩ ⟨Nat.zero_le _, Nat.zero_le _⟩ (Nat.le_of_ble_eq_true rfl) rfl (by first | assumption | omega) (by first | assumption | omega) dX0_setHeir_32 ?_
      refine lv_aload_n hx hb dX0_setHeir_35 rfl (lv_at hl 0 rfl) ?_
      refine xg_he hC hK hP dX0_setHeir_36 ?_
      refine lv_iload_n hx hb dX0_setHeir_39 rfl (lv_at hl 1 rfl) ?_
      refine xl_he hC hK hP i rfl (by omega) dX0_setHeir_40 ?_
      refine lv_istore_n (lv' := [(3, .int (he i)), (0, .ref (a 0)), (1, .int (nI i)), (2, .int (nI j))]) hx hb dX0_setHeir_41 rfl hl (by decide) rfl (fun ls hl => ?_)
      refine lv_aload_n hx hb dX0_setHeir_42 rfl (lv_at hl 1 rfl) ?_
      refine xg_he hC hK hP dX0_setHeir_43 ?_
      refine lv_iload_n hx hb dX0_setHeir_46 rfl (lv_at hl 2 rfl) ?_
      refine lv_iload_n hx hb dX0_setHeir_47 rfl (lv_at hl 3 rfl) ?_
      refine xs_he hC hK hP hD hS i rfl (by omega) dX0_setHeir_48 (fun H locs hP hD hS => ?_)
      refine lv_iload_n hx hb dX0_setHeir_49 rfl (lv_at hl 0 rfl) ?_
      exact W.iret (v := he i) hx hb hr (fun t ht hW => ⟨⟨he i, (), rfl, rfl, by rw [ht]; exact hP, va_K.moved hW.alike hK, hD⟩, hS.F ht⟩) hS.2.2 dX0_setHeir_50
    · exact absurd c_17 (fun q => hij (nn_eq (by omega) q))
set_option maxHeartbeats 4000000 in
set_option maxRecDepth 100000 in
theorem c_X0_buyFate (l : Launch) (sz : Nat) {D : va_G} {z : ClassId × ClassId} {a : Nat → Nat} {lv lk pu fa he : Nat → Int32} {n : Nat} {nv du ta : Nat → Int32} {w : Nat} {mp mi : Nat → Int32} {k : Nat} {nt fu re : Int32} (i : Nat) (hi : i < n) (hn : n ≤ 10) (ha : ¬ lv i = 0) (hf : fa i < 9) (hp : sp_price (lk i) ≤ pu i) : Met l yX0_buyFate (ws_ yX0_buyFate cX0_buyFate 3 (some .int)) ({ frames := 2, cells := 0, slots := 0, locals := 42 } : Room) (va_Pc [.ref (a 0), .int (nI i)] (fun U => U.heap.size = sz ∧ xI D z a lv lk pu fa he n nv du ta w mp mi k nt fu re U ∧ va_D (fun _ => True) (xW z a lv lk pu fa he n nv du ta w mp mi k nt fu re))) (va_Qi (fun (r : Int32) (_ : Unit) => r = sp_price (lk i)) (fun _ t9 => va_P D vwCl (xW z a lv lk (upd pu i (pu i - sp_price (lk i))) (upd fa i (fa i + 1)) he n nv du ta w mp mi k nt (fu + sp_price (lk i)) re) t9.heap ∧ kK D z t9 ∧ va_D (va_A (xW z a lv lk pu fa he n nv du ta w mp mi k nt fu re) sz) (xW z a lv lk (upd pu i (pu i - sp_price (lk i))) (upd fa i (fa i + 1)) he n nv du ta w mp mi k nt (fu + sp_price (lk i)) re)) (va_A (xW z a lv lk pu fa he n nv du ta w mp mi k nt fu re) sz)) 0 0 (va_A (xW z a lv lk pu fa he n nv du ta w mp mi k nt fu re) sz) := by
  refine Met.ofW (cc := cX0_buyFate) (maxL := 3) (ret := (some .int)) (by decide) rfl ?_
  intro p e s m args below meth c s₁ B hml hv
  obtain ⟨rfl, hsz, ⟨hP, hK⟩, hD0⟩ := hv
  have hx := B.exec
  have hb := B.bytes
  have hr := B.returns
  have hts := atoms_spec (ws := ws_ yX0_buyFate cX0_buyFate 3 (some .int)) B.pre
  have hts : ∀ w ∈ lw_all, w.before _ s = true := fun w h => hts w (List.mem_cons_of_mem _ h)
  have hown : s.vm.findClass RX0 = some m.cls := findClass_of_methodNamed B.named
  have hlocks := B.notSynchronized
  have hC : CallFix p m c cX0_buyFate 3 s _ lw_all RX0 := ⟨hx, hb, hml, hown, hts⟩
  subst hsz
  have hD := hD0.self (sz := s.heap.size)
  generalize hAe : va_A (xW z a lv lk pu fa he n nv du ta w mp mi k nt fu re) s.heap.size = A at hD ⊢
  have hA : ∀ q : Nat, s.heap.size ≤ q → A q := fun q h => by rw [← hAe]; exact Or.inr h
  have hS : va_S A s.heap s.heap [] := va_S.rf
  have hl := lv_entry ([.ref (a 0), .int (nI i)]) (n := 3) (Nat.le_of_ble_eq_true rfl)
  rw [lg_entry_eq]
  generalize (lg_sl ([.ref (a 0), .int (nI i)]) ++ List.replicate (3 - (lg_sl ([.ref (a 0), .int (nI i)])).length) Slot.unset).toArray = ls at hl ⊢
  have hl : lv_has ls 3 [(0, .ref (a 0)), (1, .int (nI i))] := hl
  refine lv_aload_n hx hb dX0_buyFate_0 rfl (lv_at hl 0 rfl) ?_
  refine lv_iload_n hx hb dX0_buyFate_1 rfl (lv_at hl 1 rfl) ?_
  refine k_X0_requirePerson hC hK hP hl.1 ⟨Nat.le_of_ble_eq_true rfl, Nat.le_of_ble_eq_true rfl⟩ ⟨Nat.zero_le _, Nat.zero_le _⟩ (Nat.le_of_ble_eq_true rfl) rfl (by first | assumption | omega) (by first | assumption | omega) dX0_buyFate_2 ?_
  refine lv_aload_n hx hb dX0_buyFate_5 rfl (lv_at hl 0 rfl) ?_
  refine lv_iload_n hx hb dX0_buyFate_6 rfl (lv_at hl 1 rfl) ?_
  refine k_X0_requireAlive hC hK hP hl.1 ⟨Nat.le_of_ble_eq_true rfl, Nat.le_of_ble_eq_true rfl⟩ ⟨Nat.zero_le _, Nat.zero_le _⟩ (Nat.le_of_ble_eq_true rfl) rfl (by first | assumption | omega) (by first | assumption | omega) dX0_buyFate_7 ?_
  refine lv_aload_n hx hb dX0_buyFate_10 rfl (lv_at hl 0 rfl) ?_
  refine xg_fa hC hK hP dX0_buyFate_11 ?_
  refine lv_iload_n hx hb dX0_buyFate_14 rfl (lv_at hl 1 rfl) ?_
  refine xl_fa hC hK hP i rfl (by omega) dX0_buyFate_15 ?_
  refine lv_bipush (v := 9) hx hb dX0_buyFate_16 (by decide) ?_
  refine lv_icmp_lt (tgt := 31) hx hb dX0_buyFate_18 (by decide) (fun c_18 => ?_) (fun c_18 => ?_)
  · refine lv_aload_n hx hb dX0_buyFate_31 rfl (lv_at hl 0 rfl) ?_
    refine lv_iload_n hx hb dX0_buyFate_32 rfl (lv_at hl 1 rfl) ?_
    refine k_X0_fatePrice hC hK hP hl.1 ⟨Nat.le_of_ble_eq_true rfl, Nat.le_of_ble_eq_true rfl⟩ ⟨Nat.zero_le _, Nat.zero_le _⟩ (Nat.le_of_ble_eq_true rfl) rfl (by first | assumption | omega) dX0_buyFate_33 ?_
    refine lv_istore_n (lv' := [(2, .int (sp_price (lk i))), (0, .ref (a 0)), (1, .int (nI i))]) hx hb dX0_buyFate_36 rfl hl (by decide) rfl (fun ls hl => ?_)
    refine lv_aload_n hx hb dX0_buyFate_37 rfl (lv_at hl 1 rfl) ?_
    refine xg_pu hC hK hP dX0_buyFate_38 ?_
    refine lv_iload_n hx hb dX0_buyFate_41 rfl (lv_at hl 2 rfl) ?_
    refine xl_pu hC hK hP i rfl (by omega) dX0_buyFate_42 ?_
    refine lv_iload_n hx hb dX0_buyFate_43 rfl (lv_at hl 0 rfl) ?_
    refine lv_icmp_ge (tgt := 57) hx hb dX0_buyFate_44 (by decide) (fun c_44 => ?_) (fun c_44 => ?_)
    · refine lv_aload_n hx hb dX0_buyFate_57 rfl (lv_at hl 1 rfl) ?_
      refine xg_pu hC hK hP dX0_buyFate_58 ?_
      refine lv_iload_n hx hb dX0_buyFate_61 rfl (lv_at hl 2 rfl) ?_
      refine lv_dup2_11 hx hb dX0_buyFate_62 rfl rfl ?_
      refine xl_pu hC hK hP i rfl (by omega) dX0_buyFate_63 ?_
      refine lv_iload_n hx hb dX0_buyFate_64 rfl (lv_at hl 0 rfl) ?_
      refine lv_isub hx hb dX0_buyFate_65 ?_
      refine xs_pu hC hK hP hD hS i rfl (by omega) dX0_buyFate_66 (fun H locs hP hD hS => ?_)
      refine lv_aload_n hx hb dX0_buyFate_67 rfl (lv_at hl 1 rfl) ?_
      refine lv_dup hx hb dX0_buyFate_68 rfl ?_
      refine xg_fu hC hK hP dX0_buyFate_69 ?_
      refine lv_iload_n hx hb dX0_buyFate_72 rfl (lv_at hl 0 rfl) ?_
      refine lv_iadd hx hb dX0_buyFate_73 ?_
      refine xp_fu hC hK hP hD hS dX0_buyFate_74 (fun H locs hP hD hS => ?_)
      refine lv_aload_n hx hb dX0_buyFate_77 rfl (lv_at hl 1 rfl) ?_
      refine xg_fa hC hK hP dX0_buyFate_78 ?_
      refine lv_iload_n hx hb dX0_buyFate_81 rfl (lv_at hl 2 rfl) ?_
      refine lv_dup2_11 hx hb dX0_buyFate_82 rfl rfl ?_
      refine xl_fa hC hK hP i rfl (by omega) dX0_buyFate_83 ?_
      refine lv_iconst (v := 1) hx hb dX0_buyFate_84 (by decide) ?_
      refine lv_iadd hx hb dX0_buyFate_85 ?_
      refine xs_fa hC hK hP hD hS i rfl (by omega) dX0_buyFate_86 (fun H locs hP hD hS => ?_)
      refine lv_iload_n hx hb dX0_buyFate_87 rfl (lv_at hl 0 rfl) ?_
      have hW9 : (xW z a lv lk (upd pu i ((pu i) - (sp_price (lk i)))) (upd fa i ((fa i) + 1)) he n nv du ta w mp mi k nt (fu + (sp_price (lk i))) re : va_W) = xW z a lv lk (upd pu i (pu i - sp_price (lk i))) (upd fa i (fa i + 1)) he n nv du ta w mp mi k nt (fu + sp_price (lk i)) re := rfl
      rw [hW9] at hP hD
      exact W.iret (v := sp_price (lk i)) hx hb hr (fun t ht hW => ⟨⟨sp_price (lk i), (), rfl, rfl, by rw [ht]; exact hP, va_K.moved hW.alike hK, hD⟩, hS.F ht⟩) hS.2.2 dX0_buyFate_88
    · exact absurd hp c_44
  · exact absurd hf c_18
set_option maxHeartbeats 4000000 in
set_option maxRecDepth 100000 in
theorem c_X0_turnDuty (l : Launch) (sz : Nat) {D : va_G} {z : ClassId × ClassId} {a : Nat → Nat} {lv lk pu fa he : Nat → Int32} {n : Nat} {nv du ta : Nat → Int32} {w : Nat} {mp mi : Nat → Int32} {k : Nat} {nt fu re : Int32} (i : Nat) (hi : i < w) (hw : w ≤ 6) : Met l yX0_turnDuty (ws_ yX0_turnDuty cX0_turnDuty 2 (some .boolean)) ({ frames := 2, cells := 0, slots := 0, locals := 42 } : Room) (va_Pc [.ref (a 0), .int (nI i)] (fun U => U.heap.size = sz ∧ xI D z a lv lk pu fa he n nv du ta w mp mi k nt fu re U ∧ va_D (fun _ => True) (xW z a lv lk pu fa he n nv du ta w mp mi k nt fu re))) (va_Qi (fun (r : Int32) (_ : Unit) => r = sp_not (du i)) (fun _ t9 => va_P D vwCl (xW z a lv lk pu fa he n nv (upd du i (sp_not (du i))) ta w mp mi k nt fu re) t9.heap ∧ kK D z t9 ∧ va_D (va_A (xW z a lv lk pu fa he n nv du ta w mp mi k nt fu re) sz) (xW z a lv lk pu fa he n nv (upd du i (sp_not (du i))) ta w mp mi k nt fu re)) (va_A (xW z a lv lk pu fa he n nv du ta w mp mi k nt fu re) sz)) 0 0 (va_A (xW z a lv lk pu fa he n nv du ta w mp mi k nt fu re) sz) := by
  refine Met.ofW (cc := cX0_turnDuty) (maxL := 2) (ret := (some .boolean)) (by decide) rfl ?_
  intro p e s m args below meth c s₁ B hml hv
  obtain ⟨rfl, hsz, ⟨hP, hK⟩, hD0⟩ := hv
  have hx := B.exec
  have hb := B.bytes
  have hr := B.returns
  have hts := atoms_spec (ws := ws_ yX0_turnDuty cX0_turnDuty 2 (some .boolean)) B.pre
  have hts : ∀ w ∈ lw_all, w.before _ s = true := fun w h => hts w (List.mem_cons_of_mem _ h)
  have hown : s.vm.findClass RX0 = some m.cls := findClass_of_methodNamed B.named
  have hlocks := B.notSynchronized
  have hC : CallFix p m c cX0_turnDuty 2 s _ lw_all RX0 := ⟨hx, hb, hml, hown, hts⟩
  subst hsz
  have hD := hD0.self (sz := s.heap.size)
  generalize hAe : va_A (xW z a lv lk pu fa he n nv du ta w mp mi k nt fu re) s.heap.size = A at hD ⊢
  have hA : ∀ q : Nat, s.heap.size ≤ q → A q := fun q h => by rw [← hAe]; exact Or.inr h
  have hS : va_S A s.heap s.heap [] := va_S.rf
  have hl := lv_entry ([.ref (a 0), .int (nI i)]) (n := 2) (Nat.le_of_ble_eq_true rfl)
  rw [lg_entry_eq]
  generalize (lg_sl ([.ref (a 0), .int (nI i)]) ++ List.replicate (2 - (lg_sl ([.ref (a 0), .int (nI i)])).length) Slot.unset).toArray = ls at hl ⊢
  have hl : lv_has ls 2 [(0, .ref (a 0)), (1, .int (nI i))] := hl
  refine lv_aload_n hx hb dX0_turnDuty_0 rfl (lv_at hl 0 rfl) ?_
  refine lv_iload_n hx hb dX0_turnDuty_1 rfl (lv_at hl 1 rfl) ?_
  refine k_X0_requireWitness hC hK hP hl.1 ⟨Nat.le_of_ble_eq_true rfl, Nat.le_of_ble_eq_true rfl⟩ ⟨Nat.zero_le _, Nat.zero_le _⟩ (Nat.le_of_ble_eq_true rfl) rfl (by first | assumption | omega) (by first | assumption | omega) dX0_turnDuty_2 ?_
  refine lv_aload_n hx hb dX0_turnDuty_5 rfl (lv_at hl 0 rfl) ?_
  refine xg_du hC hK hP dX0_turnDuty_6 ?_
  refine lv_iload_n hx hb dX0_turnDuty_9 rfl (lv_at hl 1 rfl) ?_
  refine lv_aload_n hx hb dX0_turnDuty_10 rfl (lv_at hl 0 rfl) ?_
  refine xg_du hC hK hP dX0_turnDuty_11 ?_
  refine lv_iload_n hx hb dX0_turnDuty_14 rfl (lv_at hl 1 rfl) ?_
  refine xl_du hC hK hP i rfl (by omega) dX0_turnDuty_15 ?_
  refine lv_if_ne (tgt := 23) hx hb dX0_turnDuty_16 (by decide) (fun c_16 => ?_) (fun c_16 => ?_)
  · refine lv_iconst (v := 0) hx hb dX0_turnDuty_23 (by decide) ?_
    refine xs_du hC hK hP hD hS i rfl (by omega) (by decide) dX0_turnDuty_24 (fun H locs hP hD hS => ?_)
    refine lv_aload_n hx hb dX0_turnDuty_25 rfl (lv_at hl 0 rfl) ?_
    refine xg_du hC hK hP dX0_turnDuty_26 ?_
    refine lv_iload_n hx hb dX0_turnDuty_29 rfl (lv_at hl 1 rfl) ?_
    refine xl_du hC hK hP i rfl (by omega) dX0_turnDuty_30 ?_
    have hW9 : (xW z a lv lk pu fa he n nv (upd du i 0) ta w mp mi k nt fu re : va_W) = xW z a lv lk pu fa he n nv (upd du i (sp_not (du i))) ta w mp mi k nt fu re := (by simp [sp_not, c_16])
    rw [hW9] at hP hD
    exact W.zret (v := (upd du i 0) i) hx hb hr (nar_bool (by simp [upd])) (fun t ht hW => ⟨⟨(upd du i 0) i, (), rfl, (by simp [sp_not, upd, c_16]), by rw [ht]; exact hP, va_K.moved hW.alike hK, hD⟩, hS.F ht⟩) hS.2.2 dX0_turnDuty_31
  · refine lv_iconst (v := 1) hx hb dX0_turnDuty_19 (by decide) ?_
    refine lv_goto (tgt := 24) hx hb dX0_turnDuty_20 (by decide) ?_
    refine xs_du hC hK hP hD hS i rfl (by omega) (by decide) dX0_turnDuty_24 (fun H locs hP hD hS => ?_)
    refine lv_aload_n hx hb dX0_turnDuty_25 rfl (lv_at hl 0 rfl) ?_
    refine xg_du hC hK hP dX0_turnDuty_26 ?_
    refine lv_iload_n hx hb dX0_turnDuty_29 rfl (lv_at hl 1 rfl) ?_
    refine xl_du hC hK hP i rfl (by omega) dX0_turnDuty_30 ?_
    have hW9 : (xW z a lv lk pu fa he n nv (upd du i 1) ta w mp mi k nt fu re : va_W) = xW z a lv lk pu fa he n nv (upd du i (sp_not (du i))) ta w mp mi k nt fu re := (by simp [sp_not, c_16])
    rw [hW9] at hP hD
    exact W.zret (v := (upd du i 1) i) hx hb hr (nar_bool (by simp [upd])) (fun t ht hW => ⟨⟨(upd du i 1) i, (), rfl, (by simp [sp_not, upd, c_16]), by rw [ht]; exact hP, va_K.moved hW.alike hK, hD⟩, hS.F ht⟩) hS.2.2 dX0_turnDuty_31
set_option maxHeartbeats 4000000 in
set_option maxRecDepth 100000 in
theorem c_X0_miss (l : Launch) (sz : Nat) {D : va_G} {z : ClassId × ClassId} {a : Nat → Nat} {lv lk pu fa he : Nat → Int32} {n : Nat} {nv du ta : Nat → Int32} {w : Nat} {mp mi : Nat → Int32} {k : Nat} {nt fu re : Int32} (i : Nat) (b : Int32) (hi : i < n) (hn : n ≤ 10) (hw : w ≤ 6) (hk : k < 60) (h1 : ¬ b < 1) (h2 : b ≤ 60) (ha : ¬ lv i = 0) : Met l yX0_miss (ws_ yX0_miss cX0_miss 4 (some .int)) ({ frames := 3, cells := 0, slots := 0, locals := 67 } : Room) (va_Pc [.ref (a 0), .int (nI i), .int b] (fun U => U.heap.size = sz ∧ xI D z a lv lk pu fa he n nv du ta w mp mi k nt fu re U ∧ va_D (fun _ => True) (xW z a lv lk pu fa he n nv du ta w mp mi k nt fu re))) (va_Qi (fun (r : Int32) (_ : Unit) => r = sp_mid du nv b ta w) (fun _ t9 => va_P D vwCl (xW z a lv (upd lk i (imax 0 (lk i - (60 - b) / 10))) (if sp_uses (lv i) (fa i) (sp_mid du nv b ta w) = 0 then pu else upd pu i (pu i + sp_coins (lv i) (fa i) (lk i) fu (sp_mid du nv b ta w))) (if sp_uses (lv i) (fa i) (sp_mid du nv b ta w) = 0 then fa else upd fa i (fa i - 1)) he n (sp_fr du (sp_loss b) nv w) du (sp_tarr du nv b ta w) w (upd mp k (nI i)) (upd mi k (sp_mid du nv b ta w)) (k + 1) nt (if sp_uses (lv i) (fa i) (sp_mid du nv b ta w) = 0 then fu else fu - sp_coins (lv i) (fa i) (lk i) fu (sp_mid du nv b ta w)) (if sp_uses (lv i) (fa i) (sp_mid du nv b ta w) = 0 then re else re + sp_coins (lv i) (fa i) (lk i) fu (sp_mid du nv b ta w))) t9.heap ∧ kK D z t9 ∧ va_D (va_A (xW z a lv lk pu fa he n nv du ta w mp mi k nt fu re) sz) (xW z a lv (upd lk i (imax 0 (lk i - (60 - b) / 10))) (if sp_uses (lv i) (fa i) (sp_mid du nv b ta w) = 0 then pu else upd pu i (pu i + sp_coins (lv i) (fa i) (lk i) fu (sp_mid du nv b ta w))) (if sp_uses (lv i) (fa i) (sp_mid du nv b ta w) = 0 then fa else upd fa i (fa i - 1)) he n (sp_fr du (sp_loss b) nv w) du (sp_tarr du nv b ta w) w (upd mp k (nI i)) (upd mi k (sp_mid du nv b ta w)) (k + 1) nt (if sp_uses (lv i) (fa i) (sp_mid du nv b ta w) = 0 then fu else fu - sp_coins (lv i) (fa i) (lk i) fu (sp_mid du nv b ta w)) (if sp_uses (lv i) (fa i) (sp_mid du nv b ta w) = 0 then re else re + sp_coins (lv i) (fa i) (lk i) fu (sp_mid du nv b ta w)))) (va_A (xW z a lv lk pu fa he n nv du ta w mp mi k nt fu re) sz)) 0 0 (va_A (xW z a lv lk pu fa he n nv du ta w mp mi k nt fu re) sz) := by
  refine Met.ofW (cc := cX0_miss) (maxL := 4) (ret := (some .int)) (by decide) rfl ?_
  intro p e s m args below meth c s₁ B hml hv
  obtain ⟨rfl, hsz, ⟨hP, hK⟩, hD0⟩ := hv
  have hx := B.exec
  have hb := B.bytes
  have hr := B.returns
  have hts := atoms_spec (ws := ws_ yX0_miss cX0_miss 4 (some .int)) B.pre
  have hts : ∀ w ∈ lw_all, w.before _ s = true := fun w h => hts w (List.mem_cons_of_mem _ h)
  have hown : s.vm.findClass RX0 = some m.cls := findClass_of_methodNamed B.named
  have hlocks := B.notSynchronized
  have hC : CallFix p m c cX0_miss 4 s _ lw_all RX0 := ⟨hx, hb, hml, hown, hts⟩
  subst hsz
  have hD := hD0.self (sz := s.heap.size)
  generalize hAe : va_A (xW z a lv lk pu fa he n nv du ta w mp mi k nt fu re) s.heap.size = A at hD ⊢
  have hA : ∀ q : Nat, s.heap.size ≤ q → A q := fun q h => by rw [← hAe]; exact Or.inr h
  have hS : va_S A s.heap s.heap [] := va_S.rf
  have hl := lv_entry ([.ref (a 0), .int (nI i), .int b]) (n := 4) (Nat.le_of_ble_eq_true rfl)
  rw [lg_entry_eq]
  generalize (lg_sl ([.ref (a 0), .int (nI i), .int b]) ++ List.replicate (4 - (lg_sl ([.ref (a 0), .int (nI i), .int b])).length) Slot.unset).toArray = ls at hl ⊢
  have hl : lv_has ls 4 [(0, .ref (a 0)), (1, .int (nI i)), (2, .int b)] := hl
  refine lv_aload_n hx hb dX0_miss_0 rfl (lv_at hl 0 rfl) ?_
  refine lv_iload_n hx hb dX0_miss_1 rfl (lv_at hl 1 rfl) ?_
  refine k_X0_requirePerson hC hK hP hl.1 ⟨Nat.le_of_ble_eq_true rfl, Nat.le_of_ble_eq_true rfl⟩ ⟨Nat.zero_le _, Nat.zero_le _⟩ (Nat.le_of_ble_eq_true rfl) rfl (by first | assumption | omega) (by first | assumption | omega) dX0_miss_2 ?_
  refine lv_aload_n hx hb dX0_miss_5 rfl (lv_at hl 0 rfl) ?_
  refine lv_iload_n hx hb dX0_miss_6 rfl (lv_at hl 2 rfl) ?_
  refine k_X0_requireInches hC hK hP hl.1 ⟨Nat.le_of_ble_eq_true rfl, Nat.le_of_ble_eq_true rfl⟩ ⟨Nat.zero_le _, Nat.zero_le _⟩ (Nat.le_of_ble_eq_true rfl)  (by first | assumption | omega) (by first | assumption | omega) dX0_miss_7 ?_
  refine lv_aload_n hx hb dX0_miss_10 rfl (lv_at hl 0 rfl) ?_
  refine lv_iload_n hx hb dX0_miss_11 rfl (lv_at hl 1 rfl) ?_
  refine k_X0_requireAlive hC hK hP hl.1 ⟨Nat.le_of_ble_eq_true rfl, Nat.le_of_ble_eq_true rfl⟩ ⟨Nat.zero_le _, Nat.zero_le _⟩ (Nat.le_of_ble_eq_true rfl) rfl (by first | assumption | omega) (by first | assumption | omega) dX0_miss_12 ?_
  refine lv_aload_n hx hb dX0_miss_15 rfl (lv_at hl 0 rfl) ?_
  refine xg_k hC hK hP dX0_miss_16 ?_
  refine lv_bipush (v := 60) hx hb dX0_miss_19 (by decide) ?_
  refine lv_icmp_lt (tgt := 34) hx hb dX0_miss_21 (by decide) (fun c_21 => ?_) (fun c_21 => ?_)
  · refine lv_aload_n hx hb dX0_miss_34 rfl (lv_at hl 0 rfl) ?_
    refine lv_iload_n hx hb dX0_miss_35 rfl (lv_at hl 2 rfl) ?_
    refine k_X0_middleTale hC hK hP hD hS hA hl.1 ⟨Nat.le_of_ble_eq_true rfl, Nat.le_of_ble_eq_true rfl⟩ ⟨Nat.zero_le _, Nat.zero_le _⟩ (Nat.le_of_ble_eq_true rfl)  (by first | assumption | omega) dX0_miss_36 (fun H locs hP hD hS => ?_)
    refine lv_istore_n (lv' := [(3, .int (sp_mid du nv b ta w)), (0, .ref (a 0)), (1, .int (nI i)), (2, .int b)]) hx hb dX0_miss_39 rfl hl (by decide) rfl (fun ls hl => ?_)
    refine lv_aload_n hx hb dX0_miss_40 rfl (lv_at hl 1 rfl) ?_
    refine lv_iload_n hx hb dX0_miss_41 rfl (lv_at hl 2 rfl) ?_
    refine lv_iload_n hx hb dX0_miss_42 rfl (lv_at hl 0 rfl) ?_
    refine k_X0_refundFate hC hK hP hD hS hA hl.1 ⟨Nat.le_of_ble_eq_true rfl, Nat.le_of_ble_eq_true rfl⟩ ⟨Nat.zero_le _, Nat.zero_le _⟩ (Nat.le_of_ble_eq_true rfl) rfl (by first | assumption | omega) dX0_miss_43 (fun H locs hP hD hS => ?_)
    refine lv_aload_n hx hb dX0_miss_46 rfl (lv_at hl 1 rfl) ?_
    refine xg_lk hC hK hP dX0_miss_47 ?_
    refine lv_iload_n hx hb dX0_miss_50 rfl (lv_at hl 2 rfl) ?_
    refine lv_iconst (v := 0) hx hb dX0_miss_51 (by decide) ?_
    refine lv_aload_n hx hb dX0_miss_52 rfl (lv_at hl 1 rfl) ?_
    refine xg_lk hC hK hP dX0_miss_53 ?_
    refine lv_iload_n hx hb dX0_miss_56 rfl (lv_at hl 2 rfl) ?_
    refine xl_lk hC hK hP i rfl (by omega) dX0_miss_57 ?_
    refine lv_bipush (v := 60) hx hb dX0_miss_58 (by decide) ?_
    refine lv_iload_n hx hb dX0_miss_60 rfl (lv_at hl 3 rfl) ?_
    refine lv_isub hx hb dX0_miss_61 ?_
    refine lv_bipush (v := 10) hx hb dX0_miss_62 (by decide) ?_
    refine lv_idiv hx hb dX0_miss_64 (by decide) ?_
    refine lv_isub hx hb dX0_miss_65 ?_
    refine va_mmax hx hb (hml.trans hl.1.symm) hown (hts _ mM_X0_102) (hts _ mT_max) (hts _ mI_Math) (hts _ mC_max) (Nat.le_of_ble_eq_true rfl) (Nat.le_of_ble_eq_true rfl) (Nat.zero_le _) (Nat.zero_le _) dX0_miss_66 ?_
    refine xs_lk hC hK hP hD hS i rfl (by omega) dX0_miss_69 (fun H locs hP hD hS => ?_)
    refine lv_aload_n hx hb dX0_miss_70 rfl (lv_at hl 1 rfl) ?_
    refine lv_iload_n hx hb dX0_miss_71 rfl (lv_at hl 3 rfl) ?_
    refine k_X0_nerveLoss hC hl.1 ⟨Nat.le_of_ble_eq_true rfl, Nat.le_of_ble_eq_true rfl⟩ ⟨Nat.zero_le _, Nat.zero_le _⟩ (Nat.le_of_ble_eq_true rfl)   dX0_miss_72 ?_
    refine k_X0_frightenWitnesses hC hK hP hD hS hA hl.1 ⟨Nat.le_of_ble_eq_true rfl, Nat.le_of_ble_eq_true rfl⟩ ⟨Nat.zero_le _, Nat.zero_le _⟩ (Nat.le_of_ble_eq_true rfl)  (by first | assumption | omega) dX0_miss_75 (fun H locs hP hD hS => ?_)
    refine lv_aload_n hx hb dX0_miss_78 rfl (lv_at hl 1 rfl) ?_
    refine xg_mp hC hK hP dX0_miss_79 ?_
    refine lv_aload_n hx hb dX0_miss_82 rfl (lv_at hl 1 rfl) ?_
    refine xg_k hC hK hP dX0_miss_83 ?_
    refine lv_iload_n hx hb dX0_miss_86 rfl (lv_at hl 2 rfl) ?_
    refine xs_mp hC hK hP hD hS k rfl (by omega) dX0_miss_87 (fun H locs hP hD hS => ?_)
    refine lv_aload_n hx hb dX0_miss_88 rfl (lv_at hl 1 rfl) ?_
    refine xg_mi hC hK hP dX0_miss_89 ?_
    refine lv_aload_n hx hb dX0_miss_92 rfl (lv_at hl 1 rfl) ?_
    refine xg_k hC hK hP dX0_miss_93 ?_
    refine lv_iload_n hx hb dX0_miss_96 rfl (lv_at hl 0 rfl) ?_
    refine xs_mi hC hK hP hD hS k rfl (by omega) dX0_miss_97 (fun H locs hP hD hS => ?_)
    refine lv_aload_n hx hb dX0_miss_98 rfl (lv_at hl 1 rfl) ?_
    refine lv_dup hx hb dX0_miss_99 rfl ?_
    refine xg_k hC hK hP dX0_miss_100 ?_
    refine lv_iconst (v := 1) hx hb dX0_miss_103 (by decide) ?_
    refine lv_iadd hx hb dX0_miss_104 ?_
    refine xp_k (k' := k + 1) hC hK hP hD hS (nI_1 _) dX0_miss_105 (fun H locs hP hD hS => ?_)
    refine lv_iload_n hx hb dX0_miss_108 rfl (lv_at hl 0 rfl) ?_
    have hW9 : (xW z a lv (upd lk i (imax 0 ((lk i) - ((60 - b) / 10)))) (if sp_uses (lv i) (fa i) (sp_mid du nv b ta w) = 0 then pu else upd pu i (pu i + sp_coins (lv i) (fa i) (lk i) fu (sp_mid du nv b ta w))) (if sp_uses (lv i) (fa i) (sp_mid du nv b ta w) = 0 then fa else upd fa i (fa i - 1)) he n (sp_fr du (sp_loss b) nv w) du (sp_tarr du nv b ta w) w (upd mp k (nI i)) (upd mi k (sp_mid du nv b ta w)) (k + 1) nt (if sp_uses (lv i) (fa i) (sp_mid du nv b ta w) = 0 then fu else fu - sp_coins (lv i) (fa i) (lk i) fu (sp_mid du nv b ta w)) (if sp_uses (lv i) (fa i) (sp_mid du nv b ta w) = 0 then re else re + sp_coins (lv i) (fa i) (lk i) fu (sp_mid du nv b ta w)) : va_W) = xW z a lv (upd lk i (imax 0 (lk i - (60 - b) / 10))) (if sp_uses (lv i) (fa i) (sp_mid du nv b ta w) = 0 then pu else upd pu i (pu i + sp_coins (lv i) (fa i) (lk i) fu (sp_mid du nv b ta w))) (if sp_uses (lv i) (fa i) (sp_mid du nv b ta w) = 0 then fa else upd fa i (fa i - 1)) he n (sp_fr du (sp_loss b) nv w) du (sp_tarr du nv b ta w) w (upd mp k (nI i)) (upd mi k (sp_mid du nv b ta w)) (k + 1) nt (if sp_uses (lv i) (fa i) (sp_mid du nv b ta w) = 0 then fu else fu - sp_coins (lv i) (fa i) (lk i) fu (sp_mid du nv b ta w)) (if sp_uses (lv i) (fa i) (sp_mid du nv b ta w) = 0 then re else re + sp_coins (lv i) (fa i) (lk i) fu (sp_mid du nv b ta w)) := rfl
    rw [hW9] at hP hD
    exact W.iret (v := sp_mid du nv b ta w) hx hb hr (fun t ht hW => ⟨⟨sp_mid du nv b ta w, (), rfl, rfl, by rw [ht]; exact hP, va_K.moved hW.alike hK, hD⟩, hS.F ht⟩) hS.2.2 dX0_miss_109
  · exact absurd (nI_lt (b := 60) hk (by decide)) c_21
set_option maxHeartbeats 4000000 in
set_option maxRecDepth 100000 in
theorem c_X0_hit (l : Launch) (sz : Nat) {D : va_G} {z : ClassId × ClassId} {a : Nat → Nat} {lv lk pu fa he : Nat → Int32} {n : Nat} {nv du ta : Nat → Int32} {w : Nat} {mp mi : Nat → Int32} {k : Nat} {nt fu re : Int32} (i : Nat) (hi : i < n) (hn : n ≤ 10) (ha : ¬ lv i = 0) : Met l yX0_hit (ws_ yX0_hit cX0_hit 3 (some .int)) ({ frames := 2, cells := 0, slots := 0, locals := 44 } : Room) (va_Pc [.ref (a 0), .int (nI i)] (fun U => U.heap.size = sz ∧ xI D z a lv lk pu fa he n nv du ta w mp mi k nt fu re U ∧ va_D (fun _ => True) (xW z a lv lk pu fa he n nv du ta w mp mi k nt fu re))) (va_Qi (fun (r : Int32) (_ : Unit) => r = sp_heir he (upd lv i 0) n i n (he i)) (fun _ t9 => va_P D vwCl (xW z a (upd lv i 0) (if sp_isP n (sp_heir he (upd lv i 0) n i n (he i)) = 0 then lk else upd lk (sp_heir he (upd lv i 0) n i n (he i)).toNatClampNeg (imin 99 (lk (sp_heir he (upd lv i 0) n i n (he i)).toNatClampNeg + lk i / 2))) (upd (if sp_isP n (sp_heir he (upd lv i 0) n i n (he i)) = 0 then pu else upd pu (sp_heir he (upd lv i 0) n i n (he i)).toNatClampNeg (pu (sp_heir he (upd lv i 0) n i n (he i)).toNatClampNeg + pu i)) i 0) (upd fa i 0) he n nv du ta w mp mi k nt (if sp_isP n (sp_heir he (upd lv i 0) n i n (he i)) = 0 then fu + pu i else fu) re) t9.heap ∧ kK D z t9 ∧ va_D (va_A (xW z a lv lk pu fa he n nv du ta w mp mi k nt fu re) sz) (xW z a (upd lv i 0) (if sp_isP n (sp_heir he (upd lv i 0) n i n (he i)) = 0 then lk else upd lk (sp_heir he (upd lv i 0) n i n (he i)).toNatClampNeg (imin 99 (lk (sp_heir he (upd lv i 0) n i n (he i)).toNatClampNeg + lk i / 2))) (upd (if sp_isP n (sp_heir he (upd lv i 0) n i n (he i)) = 0 then pu else upd pu (sp_heir he (upd lv i 0) n i n (he i)).toNatClampNeg (pu (sp_heir he (upd lv i 0) n i n (he i)).toNatClampNeg + pu i)) i 0) (upd fa i 0) he n nv du ta w mp mi k nt (if sp_isP n (sp_heir he (upd lv i 0) n i n (he i)) = 0 then fu + pu i else fu) re)) (va_A (xW z a lv lk pu fa he n nv du ta w mp mi k nt fu re) sz)) 0 0 (va_A (xW z a lv lk pu fa he n nv du ta w mp mi k nt fu re) sz) := by
  refine Met.ofW (cc := cX0_hit) (maxL := 3) (ret := (some .int)) (by decide) rfl ?_
  intro p e s m args below meth c s₁ B hml hv
  obtain ⟨rfl, hsz, ⟨hP, hK⟩, hD0⟩ := hv
  have hx := B.exec
  have hb := B.bytes
  have hr := B.returns
  have hts := atoms_spec (ws := ws_ yX0_hit cX0_hit 3 (some .int)) B.pre
  have hts : ∀ w ∈ lw_all, w.before _ s = true := fun w h => hts w (List.mem_cons_of_mem _ h)
  have hown : s.vm.findClass RX0 = some m.cls := findClass_of_methodNamed B.named
  have hlocks := B.notSynchronized
  have hC : CallFix p m c cX0_hit 3 s _ lw_all RX0 := ⟨hx, hb, hml, hown, hts⟩
  subst hsz
  have hD := hD0.self (sz := s.heap.size)
  generalize hAe : va_A (xW z a lv lk pu fa he n nv du ta w mp mi k nt fu re) s.heap.size = A at hD ⊢
  have hA : ∀ q : Nat, s.heap.size ≤ q → A q := fun q h => by rw [← hAe]; exact Or.inr h
  have hS : va_S A s.heap s.heap [] := va_S.rf
  have hl := lv_entry ([.ref (a 0), .int (nI i)]) (n := 3) (Nat.le_of_ble_eq_true rfl)
  rw [lg_entry_eq]
  generalize (lg_sl ([.ref (a 0), .int (nI i)]) ++ List.replicate (3 - (lg_sl ([.ref (a 0), .int (nI i)])).length) Slot.unset).toArray = ls at hl ⊢
  have hl : lv_has ls 3 [(0, .ref (a 0)), (1, .int (nI i))] := hl
  refine lv_aload_n hx hb dX0_hit_0 rfl (lv_at hl 0 rfl) ?_
  refine lv_iload_n hx hb dX0_hit_1 rfl (lv_at hl 1 rfl) ?_
  refine k_X0_requirePerson hC hK hP hl.1 ⟨Nat.le_of_ble_eq_true rfl, Nat.le_of_ble_eq_true rfl⟩ ⟨Nat.zero_le _, Nat.zero_le _⟩ (Nat.le_of_ble_eq_true rfl) rfl (by first | assumption | omega) (by first | assumption | omega) dX0_hit_2 ?_
  refine lv_aload_n hx hb dX0_hit_5 rfl (lv_at hl 0 rfl) ?_
  refine lv_iload_n hx hb dX0_hit_6 rfl (lv_at hl 1 rfl) ?_
  refine k_X0_requireAlive hC hK hP hl.1 ⟨Nat.le_of_ble_eq_true rfl, Nat.le_of_ble_eq_true rfl⟩ ⟨Nat.zero_le _, Nat.zero_le _⟩ (Nat.le_of_ble_eq_true rfl) rfl (by first | assumption | omega) (by first | assumption | omega) dX0_hit_7 ?_
  refine lv_aload_n hx hb dX0_hit_10 rfl (lv_at hl 0 rfl) ?_
  refine xg_lv hC hK hP dX0_hit_11 ?_
  refine lv_iload_n hx hb dX0_hit_14 rfl (lv_at hl 1 rfl) ?_
  refine lv_iconst (v := 0) hx hb dX0_hit_15 (by decide) ?_
  refine xs_lv hC hK hP hD hS i rfl (by omega) (by decide) dX0_hit_16 (fun H locs hP hD hS => ?_)
  refine lv_aload_n hx hb dX0_hit_17 rfl (lv_at hl 0 rfl) ?_
  refine lv_iload_n hx hb dX0_hit_18 rfl (lv_at hl 1 rfl) ?_
  refine k_X0_findLastHeir hC hK hP hl.1 ⟨Nat.le_of_ble_eq_true rfl, Nat.le_of_ble_eq_true rfl⟩ ⟨Nat.zero_le _, Nat.zero_le _⟩ (Nat.le_of_ble_eq_true rfl) rfl (by first | assumption | omega) (by first | assumption | omega) dX0_hit_19 ?_
  refine lv_istore_n (lv' := [(2, .int (sp_heir he (upd lv i 0) n i n (he i))), (0, .ref (a 0)), (1, .int (nI i))]) hx hb dX0_hit_22 rfl hl (by decide) rfl (fun ls hl => ?_)
  refine lv_aload_n hx hb dX0_hit_23 rfl (lv_at hl 1 rfl) ?_
  refine lv_iload_n hx hb dX0_hit_24 rfl (lv_at hl 0 rfl) ?_
  refine k_X0_isPerson hC hK hP hl.1 ⟨Nat.le_of_ble_eq_true rfl, Nat.le_of_ble_eq_true rfl⟩ ⟨Nat.zero_le _, Nat.zero_le _⟩ (Nat.le_of_ble_eq_true rfl)   dX0_hit_25 ?_
  refine lv_if_eq (tgt := 75) hx hb dX0_hit_28 (by decide) (fun c_28 => ?_) (fun c_28 => ?_)
  · refine lv_aload_n hx hb dX0_hit_75 rfl (lv_at hl 1 rfl) ?_
    refine lv_dup hx hb dX0_hit_76 rfl ?_
    refine xg_fu hC hK hP dX0_hit_77 ?_
    refine lv_aload_n hx hb dX0_hit_80 rfl (lv_at hl 1 rfl) ?_
    refine xg_pu hC hK hP dX0_hit_81 ?_
    refine lv_iload_n hx hb dX0_hit_84 rfl (lv_at hl 2 rfl) ?_
    refine xl_pu hC hK hP i rfl (by omega) dX0_hit_85 ?_
    refine lv_iadd hx hb dX0_hit_86 ?_
    refine xp_fu hC hK hP hD hS dX0_hit_87 (fun H locs hP hD hS => ?_)
    refine lv_aload_n hx hb dX0_hit_90 rfl (lv_at hl 1 rfl) ?_
    refine xg_pu hC hK hP dX0_hit_91 ?_
    refine lv_iload_n hx hb dX0_hit_94 rfl (lv_at hl 2 rfl) ?_
    refine lv_iconst (v := 0) hx hb dX0_hit_95 (by decide) ?_
    refine xs_pu hC hK hP hD hS i rfl (by omega) dX0_hit_96 (fun H locs hP hD hS => ?_)
    refine lv_aload_n hx hb dX0_hit_97 rfl (lv_at hl 1 rfl) ?_
    refine xg_fa hC hK hP dX0_hit_98 ?_
    refine lv_iload_n hx hb dX0_hit_101 rfl (lv_at hl 2 rfl) ?_
    refine lv_iconst (v := 0) hx hb dX0_hit_102 (by decide) ?_
    refine xs_fa hC hK hP hD hS i rfl (by omega) dX0_hit_103 (fun H locs hP hD hS => ?_)
    refine lv_iload_n hx hb dX0_hit_104 rfl (lv_at hl 0 rfl) ?_
    have hW9 : (xW z a (upd lv i 0) lk (upd pu i 0) (upd fa i 0) he n nv du ta w mp mi k nt (fu + (pu i)) re : va_W) = xW z a (upd lv i 0) (if sp_isP n (sp_heir he (upd lv i 0) n i n (he i)) = 0 then lk else upd lk (sp_heir he (upd lv i 0) n i n (he i)).toNatClampNeg (imin 99 (lk (sp_heir he (upd lv i 0) n i n (he i)).toNatClampNeg + lk i / 2))) (upd (if sp_isP n (sp_heir he (upd lv i 0) n i n (he i)) = 0 then pu else upd pu (sp_heir he (upd lv i 0) n i n (he i)).toNatClampNeg (pu (sp_heir he (upd lv i 0) n i n (he i)).toNatClampNeg + pu i)) i 0) (upd fa i 0) he n nv du ta w mp mi k nt (if sp_isP n (sp_heir he (upd lv i 0) n i n (he i)) = 0 then fu + pu i else fu) re := (by simp [c_28])
    rw [hW9] at hP hD
    exact W.iret (v := sp_heir he (upd lv i 0) n i n (he i)) hx hb hr (fun t ht hW => ⟨⟨sp_heir he (upd lv i 0) n i n (he i), (), rfl, rfl, by rw [ht]; exact hP, va_K.moved hW.alike hK, hD⟩, hS.F ht⟩) hS.2.2 dX0_hit_105
  · obtain ⟨y, hyn, hy⟩ := isP_ex (by omega) c_28
    have eNy : (sp_heir he (upd lv i 0) n i n (he i)).toNatClampNeg = y := by rw [hy]; exact nI_clamp (by omega)
    refine lv_aload_n hx hb dX0_hit_31 rfl (lv_at hl 1 rfl) ?_
    refine xg_lk hC hK hP dX0_hit_32 ?_
    refine lv_iload_n hx hb dX0_hit_35 rfl (lv_at hl 0 rfl) ?_
    refine lv_bipush (v := 99) hx hb dX0_hit_36 (by decide) ?_
    refine lv_aload_n hx hb dX0_hit_38 rfl (lv_at hl 1 rfl) ?_
    refine xg_lk hC hK hP dX0_hit_39 ?_
    refine lv_iload_n hx hb dX0_hit_42 rfl (lv_at hl 0 rfl) ?_
    refine xl_lk hC hK hP y hy (by omega) dX0_hit_43 ?_
    refine lv_aload_n hx hb dX0_hit_44 rfl (lv_at hl 1 rfl) ?_
    refine xg_lk hC hK hP dX0_hit_45 ?_
    refine lv_iload_n hx hb dX0_hit_48 rfl (lv_at hl 2 rfl) ?_
    refine xl_lk hC hK hP i rfl (by omega) dX0_hit_49 ?_
    refine lv_iconst (v := 2) hx hb dX0_hit_50 (by decide) ?_
    refine lv_idiv hx hb dX0_hit_51 (by decide) ?_
    refine lv_iadd hx hb dX0_hit_52 ?_
    refine va_mmin hx hb (hml.trans hl.1.symm) hown (hts _ mM_X0_121) (hts _ mT_min) (hts _ mI_Math) (hts _ mC_min) (Nat.le_of_ble_eq_true rfl) (Nat.le_of_ble_eq_true rfl) (Nat.zero_le _) (Nat.zero_le _) dX0_hit_53 ?_
    refine xs_lk hC hK hP hD hS y hy (by omega) dX0_hit_56 (fun H locs hP hD hS => ?_)
    refine lv_aload_n hx hb dX0_hit_57 rfl (lv_at hl 1 rfl) ?_
    refine xg_pu hC hK hP dX0_hit_58 ?_
    refine lv_iload_n hx hb dX0_hit_61 rfl (lv_at hl 0 rfl) ?_
    refine lv_dup2_11 hx hb dX0_hit_62 rfl rfl ?_
    refine xl_pu hC hK hP y hy (by omega) dX0_hit_63 ?_
    refine lv_aload_n hx hb dX0_hit_64 rfl (lv_at hl 1 rfl) ?_
    refine xg_pu hC hK hP dX0_hit_65 ?_
    refine lv_iload_n hx hb dX0_hit_68 rfl (lv_at hl 2 rfl) ?_
    refine xl_pu hC hK hP i rfl (by omega) dX0_hit_69 ?_
    refine lv_iadd hx hb dX0_hit_70 ?_
    refine xs_pu hC hK hP hD hS y hy (by omega) dX0_hit_71 (fun H locs hP hD hS => ?_)
    refine lv_goto (tgt := 90) hx hb dX0_hit_72 (by decide) ?_
    refine lv_aload_n hx hb dX0_hit_90 rfl (lv_at hl 1 rfl) ?_
    refine xg_pu hC hK hP dX0_hit_91 ?_
    refine lv_iload_n hx hb dX0_hit_94 rfl (lv_at hl 2 rfl) ?_
    refine lv_iconst (v := 0) hx hb dX0_hit_95 (by decide) ?_
    refine xs_pu hC hK hP hD hS i rfl (by omega) dX0_hit_96 (fun H locs hP hD hS => ?_)
    refine lv_aload_n hx hb dX0_hit_97 rfl (lv_at hl 1 rfl) ?_
    refine xg_fa hC hK hP dX0_hit_98 ?_
    refine lv_iload_n hx hb dX0_hit_101 rfl (lv_at hl 2 rfl) ?_
    refine lv_iconst (v := 0) hx hb dX0_hit_102 (by decide) ?_
    refine xs_fa hC hK hP hD hS i rfl (by omega) dX0_hit_103 (fun H locs hP hD hS => ?_)
    refine lv_iload_n hx hb dX0_hit_104 rfl (lv_at hl 0 rfl) ?_
    have hW9 : (xW z a (upd lv i 0) (upd lk y (imin 99 ((lk y) + ((lk i) / 2)))) (upd (upd pu y ((pu y) + (pu i))) i 0) (upd fa i 0) he n nv du ta w mp mi k nt fu re : va_W) = xW z a (upd lv i 0) (if sp_isP n (sp_heir he (upd lv i 0) n i n (he i)) = 0 then lk else upd lk (sp_heir he (upd lv i 0) n i n (he i)).toNatClampNeg (imin 99 (lk (sp_heir he (upd lv i 0) n i n (he i)).toNatClampNeg + lk i / 2))) (upd (if sp_isP n (sp_heir he (upd lv i 0) n i n (he i)) = 0 then pu else upd pu (sp_heir he (upd lv i 0) n i n (he i)).toNatClampNeg (pu (sp_heir he (upd lv i 0) n i n (he i)).toNatClampNeg + pu i)) i 0) (upd fa i 0) he n nv du ta w mp mi k nt (if sp_isP n (sp_heir he (upd lv i 0) n i n (he i)) = 0 then fu + pu i else fu) re := (by simp [c_28, eNy])
    rw [hW9] at hP hD
    exact W.iret (v := sp_heir he (upd lv i 0) n i n (he i)) hx hb hr (fun t ht hW => ⟨⟨sp_heir he (upd lv i 0) n i n (he i), (), rfl, rfl, by rw [ht]; exact hP, va_K.moved hW.alike hK, hD⟩, hS.F ht⟩) hS.2.2 dX0_hit_105
end
section
/-- a text in the heap: its object, its row of bytes, how many, and what they are -/
def sH (q t N : Nat) (f : Nat → Int32) (A : Nat → Prop) (U : State) (H : Heap) : Prop := va_O "java/lang/String" q A U H ∧ va_OF "java/lang/String" "coder" "B" (.int 0) q A U H ∧ va_OF "java/lang/String" "value" "[B" (.ref t) q A U H ∧ va_T .byte t N (fun j => .int (f j)) A U H
theorem sH.moved {q t N : Nat} {f : Nat → Int32} {A : Nat → Prop} {u U : State} {H : Heap} (hvm : u.vm.Alike U.vm) (h : sH q t N f A u H) : sH q t N f A U H := ⟨va_O.moved hvm h.1, va_OF.moved hvm h.2.1, va_OF.moved hvm h.2.2.1, va_T.moved hvm h.2.2.2⟩
theorem sH.kept {q t N : Nat} {f : Nat → Int32} {A : Nat → Prop} {U : State} {H H1 : Heap} (h : sH q t N f A U H) (hq : ∀ a : Nat, a < H.size → ¬ A a → H1[a]? = H[a]?) : sH q t N f A U H1 := ⟨h.1.kept hq, h.2.1.kept hq, h.2.2.1.kept hq, h.2.2.2.kept hq⟩
theorem sH.narrow {q t N : Nat} {f : Nat → Int32} {A B : Nat → Prop} {U : State} {H : Heap} (h : sH q t N f A U H) (hAB : ∀ q, B q → A q) : sH q t N f B U H := ⟨h.1.narrow hAB, h.2.1.narrow hAB, h.2.2.1.narrow hAB, h.2.2.2.narrow hAB⟩
/-- the two statics of the JDK that charAt reads -/
def jH (A : Nat → Prop) (U : State) (H : Heap) : Prop := va_Z "java/lang/String" "COMPACT_STRINGS" "Z" (.int 1) A U H ∧ va_Zq "jdk/internal/util/Preconditions" "SIOOBE_FORMATTER" "Ljava/util/function/BiFunction;" A U H
theorem jH.moved {A : Nat → Prop} {u U : State} {H : Heap} (hvm : u.vm.Alike U.vm) (h : jH A u H) : jH A U H := ⟨va_Z.moved hvm h.1, va_Zq.moved hvm h.2⟩
theorem jH.kept {A : Nat → Prop} {U : State} {H H1 : Heap} (h : jH A U H) (hq : ∀ a : Nat, a < H.size → ¬ A a → H1[a]? = H[a]?) : jH A U H1 := ⟨h.1.kept hq, h.2.kept hq⟩
theorem jH.narrow {A B : Nat → Prop} {U : State} {H : Heap} (h : jH A U H) (hAB : ∀ q, B q → A q) : jH B U H := ⟨h.1.narrow hAB, h.2.narrow hAB⟩
abbrev nA : Nat → Prop := fun _ => False
def sp_txt (f : Nat → Int32) (x : Int32) : Nat → Int32
  | 0 => x
  | j + 1 => sp_txt f x j * 31 + (f j &&& 255)

set_option maxHeartbeats 4000000 in
set_option maxRecDepth 100000 in
theorem c_J0_coder_7d493 (l : Launch) {q t9 N : Nat} {f9 : Nat → Int32}  : Met l yJ0_coder_7d493 (ws_ yJ0_coder_7d493 cJ0_coder_7d493 1 (some .byte)) ({ frames := 0, cells := 0, slots := 0, locals := 0 } : Room) (va_Pc [.ref q] (fun U => sH q t9 N f9 nA U U.heap ∧ jH nA U U.heap)) (vp_Si (fun r : Int32 => r = 0)) 0 0 (fun _ => False) := by
  refine Met.ofW (cc := cJ0_coder_7d493) (maxL := 1) (ret := (some .byte)) (by decide) rfl ?_
  intro p e s m args below meth c s₁ B hml hv
  obtain ⟨rfl, hE, hJ⟩ := hv
  have hx := B.exec
  have hb := B.bytes
  have hr := B.returns
  have hts := atoms_spec (ws := ws_ yJ0_coder_7d493 cJ0_coder_7d493 1 (some .byte)) B.pre
  have hts : ∀ w ∈ lw_all, w.before _ s = true := fun w h => hts w (List.mem_cons_of_mem _ h)
  have hown : s.vm.findClass RJ0 = some m.cls := findClass_of_methodNamed B.named
  have hlocks := B.notSynchronized
  have hC : CallFix p m c cJ0_coder_7d493 1 s _ lw_all RJ0 := ⟨hx, hb, hml, hown, hts⟩
  have hl := lv_entry ([.ref q]) (n := 1) (Nat.le_of_ble_eq_true rfl)
  rw [lg_entry_eq]
  generalize (lg_sl ([.ref q]) ++ List.replicate (1 - (lg_sl ([.ref q])).length) Slot.unset).toArray = ls at hl ⊢
  have hl : lv_has ls 1 [(0, .ref q)] := hl
  refine va_gets hx hb hJ.1 (va_S.rf (A := nA) (H0 := s.heap)) hown (hts _ mF_J0_38) (fun _ h9 => h9) dJ0_coder_7d493_0 ?_
  refine lv_if_eq (tgt := 13) hx hb dJ0_coder_7d493_3 (by decide) (fun c_3 => ?_) (fun c_3 => ?_)
  · exact absurd c_3 (by decide)
  · refine lv_aload_n hx hb dJ0_coder_7d493_6 rfl (lv_at hl 0 rfl) ?_
    refine vk_getf hx hb hE.2.1 (va_S.rf (A := nA) (H0 := s.heap)) hown (hts _ mF_J0_15) (fun _ h9 => h9) dJ0_coder_7d493_7 ?_
    refine lv_goto (tgt := 14) hx hb dJ0_coder_7d493_10 (by decide) ?_
    exact W.zret (v := 0) hx hb hr (by decide) (fun t ht hW => ⟨0, rfl, rfl, ht⟩) (fun q hq => absurd hq List.not_mem_nil) dJ0_coder_7d493_14
set_option maxRecDepth 100000 in
theorem k_J0_coder_7d493 {p : Program} {l : Launch} {e : Env} {R : Room} {s : State} {m : MethodId} {args : Array Value} {below : List Frame} {meth : Method} {c : Code} {H : Heap} {locs : List Loc} {cells slots : Nat} {Q : State → Prop} {cc : ByteArray} {nL pc : Nat} {ls : Array Slot} {rest : List Value} {q t9 N : Nat} {f9 : Nat → Int32} {own : String} {idx : Nat} (hC : CallFix p m c cc nL s args lw_all own) (hk : Cond.methodLink own idx yJ0_coder_7d493 ∈ lw_all) (hE : sH q t9 N f9 nA s H) (hJ : jH nA s H) (hl : ls.size = nL) (hR : 1 ≤ R.frames ∧ 20 ≤ R.locals) (hz : cells ≤ R.cells ∧ slots ≤ R.slots) (hr : (rest.map fun v => v.category).sum ≤ 8) (hdg : decode cc pc = .ok (.invokevirtual idx, 3)) (kk : W p l e R s m args below meth c H locs cells slots Q (F0 m (pc + 3) ls (.int 0 :: rest))) : W p l e R s m args below meth c H locs cells slots Q (F0 m pc ls (.ref q :: rest)) :=
  vp_callSi (W.runV (As := []) (b := q) (rest := rest) hC (c_J0_coder_7d493 l ) (cwV 0 hC.2.2.2.2 (gi_V hk mV_J0_coder_7d493 mS_J0_coder_7d493 mI_String mC_J0_coder_7d493) rfl rfl rfl (by decide +kernel) hR) ⟨fun a1 U g mk q9 => ⟨q9.1, sH.moved (u := U) (U := U.calling g mk a1) (Vm.Alike.refl U.vm) q9.2.1, jH.moved (u := U) (U := U.calling g mk a1) (Vm.Alike.refl U.vm) q9.2.2⟩, (by obtain ⟨cell, h1, h2, h3, -⟩ := hE.1; exact ⟨cell, h1, h2, h3⟩), fun U hU hW => ⟨rfl, by rw [hU]; exact hE.moved hW.alike, by rw [hU]; exact hJ.moved hW.alike⟩⟩ rfl rfl hl rfl (lv_room hr) hdg hz) (fun r hr => by rw [hr]; exact kk)
set_option maxHeartbeats 4000000 in
set_option maxRecDepth 100000 in
theorem c_J0_isLatin1_aae02 (l : Launch) {q t9 N : Nat} {f9 : Nat → Int32}  : Met l yJ0_isLatin1_aae02 (ws_ yJ0_isLatin1_aae02 cJ0_isLatin1_aae02 1 (some .boolean)) ({ frames := 0, cells := 0, slots := 0, locals := 0 } : Room) (va_Pc [.ref q] (fun U => sH q t9 N f9 nA U U.heap ∧ jH nA U U.heap)) (vp_Si (fun r : Int32 => r = 1)) 0 0 (fun _ => False) := by
  refine Met.ofW (cc := cJ0_isLatin1_aae02) (maxL := 1) (ret := (some .boolean)) (by decide) rfl ?_
  intro p e s m args below meth c s₁ B hml hv
  obtain ⟨rfl, hE, hJ⟩ := hv
  have hx := B.exec
  have hb := B.bytes
  have hr := B.returns
  have hts := atoms_spec (ws := ws_ yJ0_isLatin1_aae02 cJ0_isLatin1_aae02 1 (some .boolean)) B.pre
  have hts : ∀ w ∈ lw_all, w.before _ s = true := fun w h => hts w (List.mem_cons_of_mem _ h)
  have hown : s.vm.findClass RJ0 = some m.cls := findClass_of_methodNamed B.named
  have hlocks := B.notSynchronized
  have hC : CallFix p m c cJ0_isLatin1_aae02 1 s _ lw_all RJ0 := ⟨hx, hb, hml, hown, hts⟩
  have hl := lv_entry ([.ref q]) (n := 1) (Nat.le_of_ble_eq_true rfl)
  rw [lg_entry_eq]
  generalize (lg_sl ([.ref q]) ++ List.replicate (1 - (lg_sl ([.ref q])).length) Slot.unset).toArray = ls at hl ⊢
  have hl : lv_has ls 1 [(0, .ref q)] := hl
  refine va_gets hx hb hJ.1 (va_S.rf (A := nA) (H0 := s.heap)) hown (hts _ mF_J0_38) (fun _ h9 => h9) dJ0_isLatin1_aae02_0 ?_
  refine lv_if_eq (tgt := 17) hx hb dJ0_isLatin1_aae02_3 (by decide) (fun c_3 => ?_) (fun c_3 => ?_)
  · exact absurd c_3 (by decide)
  · refine lv_aload_n hx hb dJ0_isLatin1_aae02_6 rfl (lv_at hl 0 rfl) ?_
    refine vk_getf hx hb hE.2.1 (va_S.rf (A := nA) (H0 := s.heap)) hown (hts _ mF_J0_15) (fun _ h9 => h9) dJ0_isLatin1_aae02_7 ?_
    refine lv_if_ne (tgt := 17) hx hb dJ0_isLatin1_aae02_10 (by decide) (fun c_10 => ?_) (fun c_10 => ?_)
    · exact absurd rfl c_10
    · refine lv_iconst (v := 1) hx hb dJ0_isLatin1_aae02_13 (by decide) ?_
      refine lv_goto (tgt := 18) hx hb dJ0_isLatin1_aae02_14 (by decide) ?_
      exact W.zret (v := 1) hx hb hr (by decide) (fun t ht hW => ⟨1, rfl, rfl, ht⟩) (fun q hq => absurd hq List.not_mem_nil) dJ0_isLatin1_aae02_18
set_option maxRecDepth 100000 in
theorem k_J0_isLatin1_aae02 {p : Program} {l : Launch} {e : Env} {R : Room} {s : State} {m : MethodId} {args : Array Value} {below : List Frame} {meth : Method} {c : Code} {H : Heap} {locs : List Loc} {cells slots : Nat} {Q : State → Prop} {cc : ByteArray} {nL pc : Nat} {ls : Array Slot} {rest : List Value} {q t9 N : Nat} {f9 : Nat → Int32} {own : String} {idx : Nat} (hC : CallFix p m c cc nL s args lw_all own) (hk : Cond.methodLink own idx yJ0_isLatin1_aae02 ∈ lw_all) (hE : sH q t9 N f9 nA s H) (hJ : jH nA s H) (hl : ls.size = nL) (hR : 1 ≤ R.frames ∧ 20 ≤ R.locals) (hz : cells ≤ R.cells ∧ slots ≤ R.slots) (hr : (rest.map fun v => v.category).sum ≤ 8) (hdg : decode cc pc = .ok (.invokevirtual idx, 3)) (kk : W p l e R s m args below meth c H locs cells slots Q (F0 m (pc + 3) ls (.int 1 :: rest))) : W p l e R s m args below meth c H locs cells slots Q (F0 m pc ls (.ref q :: rest)) :=
  vp_callSi (W.runV (As := []) (b := q) (rest := rest) hC (c_J0_isLatin1_aae02 l ) (cwV 0 hC.2.2.2.2 (gi_V hk mV_J0_isLatin1_aae02 mS_J0_isLatin1_aae02 mI_String mC_J0_isLatin1_aae02) rfl rfl rfl (by decide +kernel) hR) ⟨fun a1 U g mk q9 => ⟨q9.1, sH.moved (u := U) (U := U.calling g mk a1) (Vm.Alike.refl U.vm) q9.2.1, jH.moved (u := U) (U := U.calling g mk a1) (Vm.Alike.refl U.vm) q9.2.2⟩, (by obtain ⟨cell, h1, h2, h3, -⟩ := hE.1; exact ⟨cell, h1, h2, h3⟩), fun U hU hW => ⟨rfl, by rw [hU]; exact hE.moved hW.alike, by rw [hU]; exact hJ.moved hW.alike⟩⟩ rfl rfl hl rfl (lv_room hr) hdg hz) (fun r hr => by rw [hr]; exact kk)
set_option maxHeartbeats 4000000 in
set_option maxRecDepth 100000 in
theorem c_J0_length_8abf5 (l : Launch) {q t9 N : Nat} {f9 : Nat → Int32} (hN : N < 2 ^ 31) : Met l yJ0_length_8abf5 (ws_ yJ0_length_8abf5 cJ0_length_8abf5 1 (some .int)) ({ frames := 1, cells := 0, slots := 0, locals := 20 } : Room) (va_Pc [.ref q] (fun U => sH q t9 N f9 nA U U.heap ∧ jH nA U U.heap)) (vp_Si (fun r : Int32 => r = nI N)) 0 0 (fun _ => False) := by
  refine Met.ofW (cc := cJ0_length_8abf5) (maxL := 1) (ret := (some .int)) (by decide) rfl ?_
  intro p e s m args below meth c s₁ B hml hv
  obtain ⟨rfl, hE, hJ⟩ := hv
  have hx := B.exec
  have hb := B.bytes
  have hr := B.returns
  have hts := atoms_spec (ws := ws_ yJ0_length_8abf5 cJ0_length_8abf5 1 (some .int)) B.pre
  have hts : ∀ w ∈ lw_all, w.before _ s = true := fun w h => hts w (List.mem_cons_of_mem _ h)
  have hown : s.vm.findClass RJ0 = some m.cls := findClass_of_methodNamed B.named
  have hlocks := B.notSynchronized
  have hC : CallFix p m c cJ0_length_8abf5 1 s _ lw_all RJ0 := ⟨hx, hb, hml, hown, hts⟩
  have hl := lv_entry ([.ref q]) (n := 1) (Nat.le_of_ble_eq_true rfl)
  rw [lg_entry_eq]
  generalize (lg_sl ([.ref q]) ++ List.replicate (1 - (lg_sl ([.ref q])).length) Slot.unset).toArray = ls at hl ⊢
  have hl : lv_has ls 1 [(0, .ref q)] := hl
  refine lv_aload_n hx hb dJ0_length_8abf5_0 rfl (lv_at hl 0 rfl) ?_
  refine vk_getf hx hb hE.2.2.1 (va_S.rf (A := nA) (H0 := s.heap)) hown (hts _ mF_J0_9) (fun _ h9 => h9) dJ0_length_8abf5_1 ?_
  refine va_tlen hx hb hE.2.2.2 (va_S.rf (A := nA) (H0 := s.heap)) (v := nI N) rfl dJ0_length_8abf5_4 ?_
  refine lv_aload_n hx hb dJ0_length_8abf5_5 rfl (lv_at hl 0 rfl) ?_
  refine k_J0_coder_7d493 hC mM_J0_335 hE hJ hl.1 ⟨Nat.le_of_ble_eq_true rfl, Nat.le_of_ble_eq_true rfl⟩ ⟨Nat.zero_le _, Nat.zero_le _⟩ (Nat.le_of_ble_eq_true rfl) dJ0_length_8abf5_6 ?_
  refine lv_ishr hx hb dJ0_length_8abf5_9 ?_
  exact W.iret (v := (nI N) >>> (0 &&& 31)) hx hb hr (fun t ht hW => ⟨(nI N) >>> (0 &&& 31), rfl, (sc_shr0 hN), ht⟩) (fun q hq => absurd hq List.not_mem_nil) dJ0_length_8abf5_10
set_option maxRecDepth 100000 in
theorem k_J0_length_8abf5 {p : Program} {l : Launch} {e : Env} {R : Room} {s : State} {m : MethodId} {args : Array Value} {below : List Frame} {meth : Method} {c : Code} {H : Heap} {locs : List Loc} {cells slots : Nat} {Q : State → Prop} {cc : ByteArray} {nL pc : Nat} {ls : Array Slot} {rest : List Value} {q t9 N : Nat} {f9 : Nat → Int32} {own : String} {idx : Nat} (hC : CallFix p m c cc nL s args lw_all own) (hk : Cond.methodLink own idx yJ0_length_8abf5 ∈ lw_all) (hE : sH q t9 N f9 nA s H) (hJ : jH nA s H) (hN : N < 2 ^ 31) (hl : ls.size = nL) (hR : 2 ≤ R.frames ∧ 40 ≤ R.locals) (hz : cells ≤ R.cells ∧ slots ≤ R.slots) (hr : (rest.map fun v => v.category).sum ≤ 8) (hdg : decode cc pc = .ok (.invokevirtual idx, 3)) (kk : W p l e R s m args below meth c H locs cells slots Q (F0 m (pc + 3) ls (.int (nI N) :: rest))) : W p l e R s m args below meth c H locs cells slots Q (F0 m pc ls (.ref q :: rest)) :=
  vp_callSi (W.runV (As := []) (b := q) (rest := rest) hC (c_J0_length_8abf5 l hN) (cwV 0 hC.2.2.2.2 (gi_V hk mV_J0_length_8abf5 mS_J0_length_8abf5 mI_String mC_J0_length_8abf5) rfl rfl rfl (by decide +kernel) hR) ⟨fun a1 U g mk q9 => ⟨q9.1, sH.moved (u := U) (U := U.calling g mk a1) (Vm.Alike.refl U.vm) q9.2.1, jH.moved (u := U) (U := U.calling g mk a1) (Vm.Alike.refl U.vm) q9.2.2⟩, (by obtain ⟨cell, h1, h2, h3, -⟩ := hE.1; exact ⟨cell, h1, h2, h3⟩), fun U hU hW => ⟨rfl, by rw [hU]; exact hE.moved hW.alike, by rw [hU]; exact hJ.moved hW.alike⟩⟩ rfl rfl hl rfl (lv_room hr) hdg hz) (fun r hr => by rw [hr]; exact kk)
set_option maxHeartbeats 4000000 in
set_option maxRecDepth 100000 in
theorem c_J3_checkIndex_8e157 (l : Launch) {g9 : Nat} {N : Nat} (j : Nat) (hj : j < N) (hN : N < 2 ^ 31) : Met l yJ3_checkIndex_8e157 (ws_ yJ3_checkIndex_8e157 cJ3_checkIndex_8e157 3 (some .int)) ({ frames := 0, cells := 0, slots := 0, locals := 0 } : Room) (va_Pc [.int (nI j), .int (nI N), .ref g9] (fun _ => True)) (vp_Si (fun r : Int32 => r = nI j)) 0 0 (fun _ => False) := by
  refine Met.ofW (cc := cJ3_checkIndex_8e157) (maxL := 3) (ret := (some .int)) (by decide) rfl ?_
  intro p e s m args below meth c s₁ B hml hv
  obtain ⟨rfl, -⟩ := hv
  have hx := B.exec
  have hb := B.bytes
  have hr := B.returns
  have hts := atoms_spec (ws := ws_ yJ3_checkIndex_8e157 cJ3_checkIndex_8e157 3 (some .int)) B.pre
  have hts : ∀ w ∈ lw_all, w.before _ s = true := fun w h => hts w (List.mem_cons_of_mem _ h)
  have hown : s.vm.findClass RJ3 = some m.cls := findClass_of_methodNamed B.named
  have hlocks := B.notSynchronized
  have hC : CallFix p m c cJ3_checkIndex_8e157 3 s _ lw_all RJ3 := ⟨hx, hb, hml, hown, hts⟩
  have hl := lv_entry ([.int (nI j), .int (nI N), .ref g9]) (n := 3) (Nat.le_of_ble_eq_true rfl)
  rw [lg_entry_eq]
  generalize (lg_sl ([.int (nI j), .int (nI N), .ref g9]) ++ List.replicate (3 - (lg_sl ([.int (nI j), .int (nI N), .ref g9])).length) Slot.unset).toArray = ls at hl ⊢
  have hl : lv_has ls 3 [(0, .int (nI j)), (1, .int (nI N)), (2, .ref g9)] := hl
  refine lv_iload_n hx hb dJ3_checkIndex_8e157_0 rfl (lv_at hl 0 rfl) ?_
  refine lv_if_lt (tgt := 9) hx hb dJ3_checkIndex_8e157_1 (by decide) (fun c_1 => ?_) (fun c_1 => ?_)
  · exact absurd c_1 (nI_pos (by omega))
  · have nc_1 : 0 ≤ j := nn_nlt (by omega) c_1
    refine lv_iload_n hx hb dJ3_checkIndex_8e157_4 rfl (lv_at hl 0 rfl) ?_
    refine lv_iload_n hx hb dJ3_checkIndex_8e157_5 rfl (lv_at hl 1 rfl) ?_
    refine lv_icmp_lt (tgt := 16) hx hb dJ3_checkIndex_8e157_6 (by decide) (fun c_6 => ?_) (fun c_6 => ?_)
    · have nc_6 : j < N := nn_lt (by omega) c_6
      refine lv_iload_n hx hb dJ3_checkIndex_8e157_16 rfl (lv_at hl 0 rfl) ?_
      exact W.iret (v := nI j) hx hb hr (fun t ht hW => ⟨nI j, rfl, rfl, ht⟩) (fun q hq => absurd hq List.not_mem_nil) dJ3_checkIndex_8e157_17
    · exact absurd (nI_lt hj hN) c_6
set_option maxRecDepth 100000 in
theorem k_J3_checkIndex_8e157 {p : Program} {l : Launch} {e : Env} {R : Room} {s : State} {m : MethodId} {args : Array Value} {below : List Frame} {meth : Method} {c : Code} {H : Heap} {locs : List Loc} {cells slots : Nat} {Q : State → Prop} {cc : ByteArray} {nL pc : Nat} {ls : Array Slot} {rest : List Value} {g9 : Nat} {N j : Nat} {own : String} {idx : Nat} (hC : CallFix p m c cc nL s args lw_all own) (hk : Cond.methodLink own idx yJ3_checkIndex_8e157 ∈ lw_all) (hj : j < N) (hN : N < 2 ^ 31) (hl : ls.size = nL) (hR : 1 ≤ R.frames ∧ 22 ≤ R.locals) (hz : cells ≤ R.cells ∧ slots ≤ R.slots) (hr : (rest.map fun v => v.category).sum ≤ 8) (hdg : decode cc pc = .ok (.invokestatic idx, 3)) (kk : W p l e R s m args below meth c H locs cells slots Q (F0 m (pc + 3) ls (.int (nI j) :: rest))) : W p l e R s m args below meth c H locs cells slots Q (F0 m pc ls (.ref g9 :: .int (nI N) :: .int (nI j) :: rest)) :=
  vp_callSi (W.runS (As := [.int (nI j), .int (nI N), .ref g9]) (rest := rest) hC (c_J3_checkIndex_8e157 l j hj hN) (va_cwS 3 hC.2.2.2.2 (gi_S hk mT_J3_checkIndex_8e157 mI_Preconditions mC_J3_checkIndex_8e157) rfl rfl rfl (by decide +kernel) hR) ⟨fun _ _ _ _ q => q, fun U hU hW => ⟨rfl, trivial⟩⟩ rfl rfl hl rfl (lv_room hr) hdg hz) (fun r hr => by rw [hr]; exact kk)
set_option maxHeartbeats 4000000 in
set_option maxRecDepth 100000 in
theorem c_J3_checkIndex_8e157n (l : Launch) {N : Nat} (j : Nat) (hj : j < N) (hN : N < 2 ^ 31) : Met l yJ3_checkIndex_8e157 (ws_ yJ3_checkIndex_8e157 cJ3_checkIndex_8e157 3 (some .int)) ({ frames := 0, cells := 0, slots := 0, locals := 0 } : Room) (va_Pc [.int (nI j), .int (nI N), .null] (fun _ => True)) (vp_Si (fun r : Int32 => r = nI j)) 0 0 (fun _ => False) := by
  refine Met.ofW (cc := cJ3_checkIndex_8e157) (maxL := 3) (ret := (some .int)) (by decide) rfl ?_
  intro p e s m args below meth c s₁ B hml hv
  obtain ⟨rfl, -⟩ := hv
  have hx := B.exec
  have hb := B.bytes
  have hr := B.returns
  have hts := atoms_spec (ws := ws_ yJ3_checkIndex_8e157 cJ3_checkIndex_8e157 3 (some .int)) B.pre
  have hts : ∀ w ∈ lw_all, w.before _ s = true := fun w h => hts w (List.mem_cons_of_mem _ h)
  have hown : s.vm.findClass RJ3 = some m.cls := findClass_of_methodNamed B.named
  have hlocks := B.notSynchronized
  have hC : CallFix p m c cJ3_checkIndex_8e157 3 s _ lw_all RJ3 := ⟨hx, hb, hml, hown, hts⟩
  have hl := lv_entry ([.int (nI j), .int (nI N), .null]) (n := 3) (Nat.le_of_ble_eq_true rfl)
  rw [lg_entry_eq]
  generalize (lg_sl ([.int (nI j), .int (nI N), .null]) ++ List.replicate (3 - (lg_sl ([.int (nI j), .int (nI N), .null])).length) Slot.unset).toArray = ls at hl ⊢
  have hl : lv_has ls 3 [(0, .int (nI j)), (1, .int (nI N)), (2, .null)] := hl
  refine lv_iload_n hx hb dJ3_checkIndex_8e157_0 rfl (lv_at hl 0 rfl) ?_
  refine lv_if_lt (tgt := 9) hx hb dJ3_checkIndex_8e157_1 (by decide) (fun c_1 => ?_) (fun c_1 => ?_)
  · exact absurd c_1 (nI_pos (by omega))
  · have nc_1 : 0 ≤ j := nn_nlt (by omega) c_1
    refine lv_iload_n hx hb dJ3_checkIndex_8e157_4 rfl (lv_at hl 0 rfl) ?_
    refine lv_iload_n hx hb dJ3_checkIndex_8e157_5 rfl (lv_at hl 1 rfl) ?_
    refine lv_icmp_lt (tgt := 16) hx hb dJ3_checkIndex_8e157_6 (by decide) (fun c_6 => ?_) (fun c_6 => ?_)
    · have nc_6 : j < N := nn_lt (by omega) c_6
      refine lv_iload_n hx hb dJ3_checkIndex_8e157_16 rfl (lv_at hl 0 rfl) ?_
      exact W.iret (v := nI j) hx hb hr (fun t ht hW => ⟨nI j, rfl, rfl, ht⟩) (fun q hq => absurd hq List.not_mem_nil) dJ3_checkIndex_8e157_17
    · exact absurd (nI_lt hj hN) c_6
set_option maxRecDepth 100000 in
theorem k_J3_checkIndex_8e157n {p : Program} {l : Launch} {e : Env} {R : Room} {s : State} {m : MethodId} {args : Array Value} {below : List Frame} {meth : Method} {c : Code} {H : Heap} {locs : List Loc} {cells slots : Nat} {Q : State → Prop} {cc : ByteArray} {nL pc : Nat} {ls : Array Slot} {rest : List Value} {N j : Nat} {own : String} {idx : Nat} (hC : CallFix p m c cc nL s args lw_all own) (hk : Cond.methodLink own idx yJ3_checkIndex_8e157 ∈ lw_all) (hj : j < N) (hN : N < 2 ^ 31) (hl : ls.size = nL) (hR : 1 ≤ R.frames ∧ 22 ≤ R.locals) (hz : cells ≤ R.cells ∧ slots ≤ R.slots) (hr : (rest.map fun v => v.category).sum ≤ 8) (hdg : decode cc pc = .ok (.invokestatic idx, 3)) (kk : W p l e R s m args below meth c H locs cells slots Q (F0 m (pc + 3) ls (.int (nI j) :: rest))) : W p l e R s m args below meth c H locs cells slots Q (F0 m pc ls (.null :: .int (nI N) :: .int (nI j) :: rest)) :=
  vp_callSi (W.runS (As := [.int (nI j), .int (nI N), .null]) (rest := rest) hC (c_J3_checkIndex_8e157n l j hj hN) (va_cwS 3 hC.2.2.2.2 (gi_S hk mT_J3_checkIndex_8e157 mI_Preconditions mC_J3_checkIndex_8e157) rfl rfl rfl (by decide +kernel) hR) ⟨fun _ _ _ _ q => q, fun U hU hW => ⟨rfl, trivial⟩⟩ rfl rfl hl rfl (lv_room hr) hdg hz) (fun r hr => by rw [hr]; exact kk)
set_option maxHeartbeats 4000000 in
set_option maxRecDepth 100000 in
theorem c_J0_checkIndex_df160 (l : Launch) {N : Nat} (j : Nat) (hj : j < N) (hN : N < 2 ^ 31) : Met l yJ0_checkIndex_df160 (ws_ yJ0_checkIndex_df160 cJ0_checkIndex_df160 2 none) ({ frames := 1, cells := 0, slots := 0, locals := 22 } : Room) (va_Pc [.int (nI j), .int (nI N)] (fun U => jH nA U U.heap)) (va_Sv (fun _ => True)) 0 0 (fun _ => False) := by
  refine Met.ofW (cc := cJ0_checkIndex_df160) (maxL := 2) (ret := none) (by decide) rfl ?_
  intro p e s m args below meth c s₁ B hml hv
  obtain ⟨rfl, hJ⟩ := hv
  have hx := B.exec
  have hb := B.bytes
  have hr := B.returns
  have hts := atoms_spec (ws := ws_ yJ0_checkIndex_df160 cJ0_checkIndex_df160 2 none) B.pre
  have hts : ∀ w ∈ lw_all, w.before _ s = true := fun w h => hts w (List.mem_cons_of_mem _ h)
  have hown : s.vm.findClass RJ0 = some m.cls := findClass_of_methodNamed B.named
  have hlocks := B.notSynchronized
  have hC : CallFix p m c cJ0_checkIndex_df160 2 s _ lw_all RJ0 := ⟨hx, hb, hml, hown, hts⟩
  have hl := lv_entry ([.int (nI j), .int (nI N)]) (n := 2) (Nat.le_of_ble_eq_true rfl)
  rw [lg_entry_eq]
  generalize (lg_sl ([.int (nI j), .int (nI N)]) ++ List.replicate (2 - (lg_sl ([.int (nI j), .int (nI N)])).length) Slot.unset).toArray = ls at hl ⊢
  have hl : lv_has ls 2 [(0, .int (nI j)), (1, .int (nI N))] := hl
  rcases hJ.2 with hg | ⟨g9, hg⟩
  · refine lv_iload_n hx hb dJ0_checkIndex_df160_0 rfl (lv_at hl 0 rfl) ?_
    refine lv_iload_n hx hb dJ0_checkIndex_df160_1 rfl (lv_at hl 1 rfl) ?_
    refine va_gets hx hb hg (va_S.rf (A := nA) (H0 := s.heap)) hown (hts _ mF_J0_1053) (fun _ h9 => h9) dJ0_checkIndex_df160_2 ?_
    refine k_J3_checkIndex_8e157n hC mM_J0_1059 hj hN hl.1 ⟨Nat.le_of_ble_eq_true rfl, Nat.le_of_ble_eq_true rfl⟩ ⟨Nat.zero_le _, Nat.zero_le _⟩ (Nat.le_of_ble_eq_true rfl) dJ0_checkIndex_df160_5 ?_
    refine lv_pop hx hb dJ0_checkIndex_df160_8 rfl ?_
    exact W.vret hx hb hr (fun t ht hW => ⟨rfl, trivial, ht⟩) (fun q hq => absurd hq List.not_mem_nil) dJ0_checkIndex_df160_9
  · refine lv_iload_n hx hb dJ0_checkIndex_df160_0 rfl (lv_at hl 0 rfl) ?_
    refine lv_iload_n hx hb dJ0_checkIndex_df160_1 rfl (lv_at hl 1 rfl) ?_
    refine va_gets hx hb hg (va_S.rf (A := nA) (H0 := s.heap)) hown (hts _ mF_J0_1053) (fun _ h9 => h9) dJ0_checkIndex_df160_2 ?_
    refine k_J3_checkIndex_8e157 hC mM_J0_1059 hj hN hl.1 ⟨Nat.le_of_ble_eq_true rfl, Nat.le_of_ble_eq_true rfl⟩ ⟨Nat.zero_le _, Nat.zero_le _⟩ (Nat.le_of_ble_eq_true rfl) dJ0_checkIndex_df160_5 ?_
    refine lv_pop hx hb dJ0_checkIndex_df160_8 rfl ?_
    exact W.vret hx hb hr (fun t ht hW => ⟨rfl, trivial, ht⟩) (fun q hq => absurd hq List.not_mem_nil) dJ0_checkIndex_df160_9
set_option maxRecDepth 100000 in
theorem k_J0_checkIndex_df160 {p : Program} {l : Launch} {e : Env} {R : Room} {s : State} {m : MethodId} {args : Array Value} {below : List Frame} {meth : Method} {c : Code} {H : Heap} {locs : List Loc} {cells slots : Nat} {Q : State → Prop} {cc : ByteArray} {nL pc : Nat} {ls : Array Slot} {rest : List Value} {N j : Nat} {own : String} {idx : Nat} (hC : CallFix p m c cc nL s args lw_all own) (hk : Cond.methodLink own idx yJ0_checkIndex_df160 ∈ lw_all) (hJ : jH nA s H) (hj : j < N) (hN : N < 2 ^ 31) (hl : ls.size = nL) (hR : 2 ≤ R.frames ∧ 43 ≤ R.locals) (hz : cells ≤ R.cells ∧ slots ≤ R.slots) (hr : (rest.map fun v => v.category).sum ≤ 8) (hdg : decode cc pc = .ok (.invokestatic idx, 3)) (kk : W p l e R s m args below meth c H locs cells slots Q (F0 m (pc + 3) ls rest)) : W p l e R s m args below meth c H locs cells slots Q (F0 m pc ls (.int (nI N) :: .int (nI j) :: rest)) :=
  va_csv (W.runS (As := [.int (nI j), .int (nI N)]) (rest := rest) hC (c_J0_checkIndex_df160 l j hj hN) (va_cwS 2 hC.2.2.2.2 (gi_S hk mT_J0_checkIndex_df160 mI_String mC_J0_checkIndex_df160) rfl rfl rfl (by decide +kernel) hR) ⟨fun a1 U g mk q9 => ⟨q9.1, jH.moved (u := U) (U := U.calling g mk a1) (Vm.Alike.refl U.vm) q9.2⟩, fun U hU hW => ⟨rfl, by show jH nA U U.heap; rw [hU]; exact hJ.moved hW.alike⟩⟩ rfl rfl hl rfl (lv_room hr) hdg hz) (fun _ => kk)
set_option maxHeartbeats 4000000 in
set_option maxRecDepth 100000 in
theorem c_J1_charAt_3b067 (l : Launch) {q t9 N : Nat} {f9 : Nat → Int32} (j : Nat) (hj : j < N) (hN : N < 2 ^ 31) : Met l yJ1_charAt_3b067 (ws_ yJ1_charAt_3b067 cJ1_charAt_3b067 2 (some .char)) ({ frames := 2, cells := 0, slots := 0, locals := 43 } : Room) (va_Pc [.ref t9, .int (nI j)] (fun U => sH q t9 N f9 nA U U.heap ∧ jH nA U U.heap)) (vp_Si (fun r : Int32 => r = f9 j &&& 255)) 0 0 (fun _ => False) := by
  refine Met.ofW (cc := cJ1_charAt_3b067) (maxL := 2) (ret := (some .char)) (by decide) rfl ?_
  intro p e s m args below meth c s₁ B hml hv
  obtain ⟨rfl, hE, hJ⟩ := hv
  have hx := B.exec
  have hb := B.bytes
  have hr := B.returns
  have hts := atoms_spec (ws := ws_ yJ1_charAt_3b067 cJ1_charAt_3b067 2 (some .char)) B.pre
  have hts : ∀ w ∈ lw_all, w.before _ s = true := fun w h => hts w (List.mem_cons_of_mem _ h)
  have hown : s.vm.findClass RJ1 = some m.cls := findClass_of_methodNamed B.named
  have hlocks := B.notSynchronized
  have hC : CallFix p m c cJ1_charAt_3b067 2 s _ lw_all RJ1 := ⟨hx, hb, hml, hown, hts⟩
  have hl := lv_entry ([.ref t9, .int (nI j)]) (n := 2) (Nat.le_of_ble_eq_true rfl)
  rw [lg_entry_eq]
  generalize (lg_sl ([.ref t9, .int (nI j)]) ++ List.replicate (2 - (lg_sl ([.ref t9, .int (nI j)])).length) Slot.unset).toArray = ls at hl ⊢
  have hl : lv_has ls 2 [(0, .ref t9), (1, .int (nI j))] := hl
  refine lv_iload_n hx hb dJ1_charAt_3b067_0 rfl (lv_at hl 1 rfl) ?_
  refine lv_aload_n hx hb dJ1_charAt_3b067_1 rfl (lv_at hl 0 rfl) ?_
  refine va_tlen hx hb hE.2.2.2 (va_S.rf (A := nA) (H0 := s.heap)) (v := nI N) rfl dJ1_charAt_3b067_2 ?_
  refine k_J0_checkIndex_df160 hC mM_J1_9 hJ hj hN hl.1 ⟨Nat.le_of_ble_eq_true rfl, Nat.le_of_ble_eq_true rfl⟩ ⟨Nat.zero_le _, Nat.zero_le _⟩ (Nat.le_of_ble_eq_true rfl) dJ1_charAt_3b067_3 ?_
  refine lv_aload_n hx hb dJ1_charAt_3b067_6 rfl (lv_at hl 0 rfl) ?_
  refine lv_iload_n hx hb dJ1_charAt_3b067_7 rfl (lv_at hl 1 rfl) ?_
  refine va_tb hx hb hE.2.2.2 (va_S.rf (A := nA) (H0 := s.heap)) (i := nI j) (v := .int (f9 j)) (vp_in_nI hj hN) (by rw [nI_clamp (by omega)]) dJ1_charAt_3b067_8 ?_
  refine lv_sipush (v := 255) hx hb dJ1_charAt_3b067_9 (by decide) ?_
  refine lv_iand hx hb dJ1_charAt_3b067_12 ?_
  refine lv_i2c (v := f9 j &&& 255) hx hb dJ1_charAt_3b067_13 (sc_c2 _) ?_
  exact W.zret (v := f9 j &&& 255) hx hb hr (sc_nar _) (fun t ht hW => ⟨f9 j &&& 255, rfl, rfl, ht⟩) (fun q hq => absurd hq List.not_mem_nil) dJ1_charAt_3b067_14
set_option maxRecDepth 100000 in
theorem k_J1_charAt_3b067 {p : Program} {l : Launch} {e : Env} {R : Room} {s : State} {m : MethodId} {args : Array Value} {below : List Frame} {meth : Method} {c : Code} {H : Heap} {locs : List Loc} {cells slots : Nat} {Q : State → Prop} {cc : ByteArray} {nL pc : Nat} {ls : Array Slot} {rest : List Value} {q t9 N : Nat} {f9 : Nat → Int32} {j : Nat} {own : String} {idx : Nat} (hC : CallFix p m c cc nL s args lw_all own) (hk : Cond.methodLink own idx yJ1_charAt_3b067 ∈ lw_all) (hE : sH q t9 N f9 nA s H) (hJ : jH nA s H) (hj : j < N) (hN : N < 2 ^ 31) (hl : ls.size = nL) (hR : 3 ≤ R.frames ∧ 64 ≤ R.locals) (hz : cells ≤ R.cells ∧ slots ≤ R.slots) (hr : (rest.map fun v => v.category).sum ≤ 8) (hdg : decode cc pc = .ok (.invokestatic idx, 3)) (kk : W p l e R s m args below meth c H locs cells slots Q (F0 m (pc + 3) ls (.int (f9 j &&& 255) :: rest))) : W p l e R s m args below meth c H locs cells slots Q (F0 m pc ls (.int (nI j) :: .ref t9 :: rest)) :=
  vp_callSi (W.runS (As := [.ref t9, .int (nI j)]) (rest := rest) hC (c_J1_charAt_3b067 l (q := q) j hj hN) (va_cwS 2 hC.2.2.2.2 (gi_S hk mT_J1_charAt_3b067 mI_StringLatin1 mC_J1_charAt_3b067) rfl rfl rfl (by decide +kernel) hR) ⟨fun a1 U g mk q9 => ⟨q9.1, sH.moved (u := U) (U := U.calling g mk a1) (Vm.Alike.refl U.vm) q9.2.1, jH.moved (u := U) (U := U.calling g mk a1) (Vm.Alike.refl U.vm) q9.2.2⟩, fun U hU hW => ⟨rfl, by rw [hU]; exact hE.moved hW.alike, by rw [hU]; exact hJ.moved hW.alike⟩⟩ rfl rfl hl rfl (lv_room hr) hdg hz) (fun r hr => by rw [hr]; exact kk)
set_option maxHeartbeats 4000000 in
set_option maxRecDepth 100000 in
theorem c_J0_charAt_5068e (l : Launch) {q t9 N : Nat} {f9 : Nat → Int32} (j : Nat) (hj : j < N) (hN : N < 2 ^ 31) : Met l yJ0_charAt_5068e (ws_ yJ0_charAt_5068e cJ0_charAt_5068e 2 (some .char)) ({ frames := 3, cells := 0, slots := 0, locals := 64 } : Room) (va_Pc [.ref q, .int (nI j)] (fun U => sH q t9 N f9 nA U U.heap ∧ jH nA U U.heap)) (vp_Si (fun r : Int32 => r = f9 j &&& 255)) 0 0 (fun _ => False) := by
  refine Met.ofW (cc := cJ0_charAt_5068e) (maxL := 2) (ret := (some .char)) (by decide) rfl ?_
  intro p e s m args below meth c s₁ B hml hv
  obtain ⟨rfl, hE, hJ⟩ := hv
  have hx := B.exec
  have hb := B.bytes
  have hr := B.returns
  have hts := atoms_spec (ws := ws_ yJ0_charAt_5068e cJ0_charAt_5068e 2 (some .char)) B.pre
  have hts : ∀ w ∈ lw_all, w.before _ s = true := fun w h => hts w (List.mem_cons_of_mem _ h)
  have hown : s.vm.findClass RJ0 = some m.cls := findClass_of_methodNamed B.named
  have hlocks := B.notSynchronized
  have hC : CallFix p m c cJ0_charAt_5068e 2 s _ lw_all RJ0 := ⟨hx, hb, hml, hown, hts⟩
  have hl := lv_entry ([.ref q, .int (nI j)]) (n := 2) (Nat.le_of_ble_eq_true rfl)
  rw [lg_entry_eq]
  generalize (lg_sl ([.ref q, .int (nI j)]) ++ List.replicate (2 - (lg_sl ([.ref q, .int (nI j)])).length) Slot.unset).toArray = ls at hl ⊢
  have hl : lv_has ls 2 [(0, .ref q), (1, .int (nI j))] := hl
  refine lv_aload_n hx hb dJ0_charAt_5068e_0 rfl (lv_at hl 0 rfl) ?_
  refine k_J0_isLatin1_aae02 hC mM_J0_492 hE hJ hl.1 ⟨Nat.le_of_ble_eq_true rfl, Nat.le_of_ble_eq_true rfl⟩ ⟨Nat.zero_le _, Nat.zero_le _⟩ (Nat.le_of_ble_eq_true rfl) dJ0_charAt_5068e_1 ?_
  refine lv_if_eq (tgt := 16) hx hb dJ0_charAt_5068e_4 (by decide) (fun c_4 => ?_) (fun c_4 => ?_)
  · exact absurd c_4 (by decide)
  · refine lv_aload_n hx hb dJ0_charAt_5068e_7 rfl (lv_at hl 0 rfl) ?_
    refine vk_getf hx hb hE.2.2.1 (va_S.rf (A := nA) (H0 := s.heap)) hown (hts _ mF_J0_9) (fun _ h9 => h9) dJ0_charAt_5068e_8 ?_
    refine lv_iload_n hx hb dJ0_charAt_5068e_11 rfl (lv_at hl 1 rfl) ?_
    refine k_J1_charAt_3b067 hC mM_J0_495 hE hJ hj hN hl.1 ⟨Nat.le_of_ble_eq_true rfl, Nat.le_of_ble_eq_true rfl⟩ ⟨Nat.zero_le _, Nat.zero_le _⟩ (Nat.le_of_ble_eq_true rfl) dJ0_charAt_5068e_12 ?_
    exact W.zret (v := f9 j &&& 255) hx hb hr (sc_nar _) (fun t ht hW => ⟨f9 j &&& 255, rfl, rfl, ht⟩) (fun q hq => absurd hq List.not_mem_nil) dJ0_charAt_5068e_15
set_option maxRecDepth 100000 in
theorem k_J0_charAt_5068e {p : Program} {l : Launch} {e : Env} {R : Room} {s : State} {m : MethodId} {args : Array Value} {below : List Frame} {meth : Method} {c : Code} {H : Heap} {locs : List Loc} {cells slots : Nat} {Q : State → Prop} {cc : ByteArray} {nL pc : Nat} {ls : Array Slot} {rest : List Value} {q t9 N : Nat} {f9 : Nat → Int32} {j : Nat} {own : String} {idx : Nat} (hC : CallFix p m c cc nL s args lw_all own) (hk : Cond.methodLink own idx yJ0_charAt_5068e ∈ lw_all) (hE : sH q t9 N f9 nA s H) (hJ : jH nA s H) (hj : j < N) (hN : N < 2 ^ 31) (hl : ls.size = nL) (hR : 4 ≤ R.frames ∧ 85 ≤ R.locals) (hz : cells ≤ R.cells ∧ slots ≤ R.slots) (hr : (rest.map fun v => v.category).sum ≤ 8) (hdg : decode cc pc = .ok (.invokevirtual idx, 3)) (kk : W p l e R s m args below meth c H locs cells slots Q (F0 m (pc + 3) ls (.int (f9 j &&& 255) :: rest))) : W p l e R s m args below meth c H locs cells slots Q (F0 m pc ls (.int (nI j) :: .ref q :: rest)) :=
  vp_callSi (W.runV (As := [.int (nI j)]) (b := q) (rest := rest) hC (c_J0_charAt_5068e l j hj hN) (cwV 1 hC.2.2.2.2 (gi_V hk mV_J0_charAt_5068e mS_J0_charAt_5068e mI_String mC_J0_charAt_5068e) rfl rfl rfl (by decide +kernel) hR) ⟨fun a1 U g mk q9 => ⟨q9.1, sH.moved (u := U) (U := U.calling g mk a1) (Vm.Alike.refl U.vm) q9.2.1, jH.moved (u := U) (U := U.calling g mk a1) (Vm.Alike.refl U.vm) q9.2.2⟩, (by obtain ⟨cell, h1, h2, h3, -⟩ := hE.1; exact ⟨cell, h1, h2, h3⟩), fun U hU hW => ⟨rfl, by rw [hU]; exact hE.moved hW.alike, by rw [hU]; exact hJ.moved hW.alike⟩⟩ rfl rfl hl rfl (lv_room hr) hdg hz) (fun r hr => by rw [hr]; exact kk)
set_option maxHeartbeats 4000000 in
set_option maxRecDepth 100000 in
theorem c_X0_sealText (l : Launch) {q t9 N : Nat} {f9 : Nat → Int32} (x : Int32) (hN : N < 100) : Met l yX0_sealText (ws_ yX0_sealText cX0_sealText 3 (some .int)) ({ frames := 4, cells := 0, slots := 0, locals := 85 } : Room) (va_Pc [.int x, .ref q] (fun U => sH q t9 N f9 nA U U.heap ∧ jH nA U U.heap)) (vp_Si (fun r : Int32 => r = sp_txt f9 x N)) 0 0 (fun _ => False) := by
  refine Met.ofW (cc := cX0_sealText) (maxL := 3) (ret := (some .int)) (by decide) rfl ?_
  intro p e s m args below meth c s₁ B hml hv
  obtain ⟨rfl, hE, hJ⟩ := hv
  have hx := B.exec
  have hb := B.bytes
  have hr := B.returns
  have hts := atoms_spec (ws := ws_ yX0_sealText cX0_sealText 3 (some .int)) B.pre
  have hts : ∀ w ∈ lw_all, w.before _ s = true := fun w h => hts w (List.mem_cons_of_mem _ h)
  have hown : s.vm.findClass RX0 = some m.cls := findClass_of_methodNamed B.named
  have hlocks := B.notSynchronized
  have hC : CallFix p m c cX0_sealText 3 s _ lw_all RX0 := ⟨hx, hb, hml, hown, hts⟩
  have hl := lv_entry ([.int x, .ref q]) (n := 3) (Nat.le_of_ble_eq_true rfl)
  rw [lg_entry_eq]
  generalize (lg_sl ([.int x, .ref q]) ++ List.replicate (3 - (lg_sl ([.int x, .ref q])).length) Slot.unset).toArray = ls at hl ⊢
  have hl : lv_has ls 3 [(0, .int x), (1, .ref q)] := hl
  have hN1 : N < 2 ^ 31 := by omega
  refine lv_iconst (v := 0) hx hb dX0_sealText_0 (by decide) ?_
  refine lv_istore_n (lv' := [(2, .int 0), (0, .int x), (1, .ref q)]) hx hb dX0_sealText_1 rfl hl (by decide) rfl (fun ls hl => ?_)
  have loop_2 : ∀ (f : Nat) (j : Nat) (y : Int32), j ≤ N → N + 1 ≤ j + f → y = sp_txt f9 x j → ∀ ls : Array Slot, lv_has ls 3 [(0, .int y), (1, .ref q), (2, .int (nI j))] → W p l e ({ frames := 4, cells := 0, slots := 0, locals := 85 } : Room) s m ([.int x, .ref q] : List Value).toArray below meth c s.heap [] 0 0 (MQ below (vp_Si (fun r : Int32 => r = sp_txt f9 x N)) ([.int x, .ref q] : List Value).toArray s 0 0 (fun _ => False)) (F0 m 2 ls []) := by
    intro f
    induction f with
    | zero =>
      intro j y hj hf ey
      exact absurd hf (by omega)
    | succ f ih2 =>
      intro j y hj hf ey ls hl
      refine lv_iload_n hx hb dX0_sealText_2 rfl (lv_at hl 2 rfl) ?_
      refine lv_aload_n hx hb dX0_sealText_3 rfl (lv_at hl 1 rfl) ?_
      refine k_J0_length_8abf5 hC mM_X0_222 hE hJ hN1 hl.1 ⟨Nat.le_of_ble_eq_true rfl, Nat.le_of_ble_eq_true rfl⟩ ⟨Nat.zero_le _, Nat.zero_le _⟩ (Nat.le_of_ble_eq_true rfl) dX0_sealText_4 ?_
      refine lv_icmp_ge (tgt := 27) hx hb dX0_sealText_7 (by decide) (fun c_7 => ?_) (fun c_7 => ?_)
      · have nc_7 : N ≤ j := nn_le (by omega) c_7
        refine lv_iload_n hx hb dX0_sealText_27 rfl (lv_at hl 0 rfl) ?_
        exact W.iret (v := y) hx hb hr (fun t ht hW => ⟨y, rfl, (by rw [ey, show j = N by omega]), ht⟩) (fun q hq => absurd hq List.not_mem_nil) dX0_sealText_28
      · have nc_7 : j < N := nn_nle (by omega) c_7
        refine lv_iload_n hx hb dX0_sealText_10 rfl (lv_at hl 0 rfl) ?_
        refine lv_bipush (v := 31) hx hb dX0_sealText_11 (by decide) ?_
        refine lv_imul hx hb dX0_sealText_13 ?_
        refine lv_aload_n hx hb dX0_sealText_14 rfl (lv_at hl 1 rfl) ?_
        refine lv_iload_n hx hb dX0_sealText_15 rfl (lv_at hl 2 rfl) ?_
        refine k_J0_charAt_5068e hC mM_X0_227 hE hJ nc_7 hN1 hl.1 ⟨Nat.le_of_ble_eq_true rfl, Nat.le_of_ble_eq_true rfl⟩ ⟨Nat.zero_le _, Nat.zero_le _⟩ (Nat.le_of_ble_eq_true rfl) dX0_sealText_16 ?_
        refine lv_iadd hx hb dX0_sealText_19 ?_
        refine lv_istore_n (lv' := [(0, .int ((y * 31) + (f9 j &&& 255))), (1, .ref q), (2, .int (nI j))]) hx hb dX0_sealText_20 rfl hl (by decide) rfl (fun ls hl => ?_)
        refine lv_iinc (v := nI (j + 1)) (lv' := [(2, .int (nI (j + 1))), (0, .int ((y * 31) + (f9 j &&& 255))), (1, .ref q)]) hx hb dX0_sealText_21 hl (k := 2) rfl (nI_1 _) (by decide) rfl (fun ls hl => ?_)
        refine lv_goto (tgt := 2) hx hb dX0_sealText_24 (by decide) ?_
        exact ih2 (j + 1) ((y * 31) + (f9 j &&& 255)) (by omega) (by omega) (by rw [ey]; rfl) _ (lv_sub hl [1, 2, 0] rfl)
  exact loop_2 (N + 1) 0 x (Nat.zero_le _) (by omega) rfl _ (lv_sub hl [1, 2, 0] rfl)
set_option maxRecDepth 100000 in
theorem k_X0_sealText {p : Program} {l : Launch} {e : Env} {R : Room} {s : State} {m : MethodId} {args : Array Value} {below : List Frame} {meth : Method} {c : Code} {H : Heap} {locs : List Loc} {cells slots : Nat} {Q : State → Prop} {cc : ByteArray} {nL pc : Nat} {ls : Array Slot} {rest : List Value} {q t9 N : Nat} {f9 : Nat → Int32} {x : Int32} {own : String} {idx : Nat} (hC : CallFix p m c cc nL s args lw_all own) (hk : Cond.methodLink own idx yX0_sealText ∈ lw_all) (hE : sH q t9 N f9 nA s H) (hJ : jH nA s H) (hN : N < 100) (hl : ls.size = nL) (hR : 5 ≤ R.frames ∧ 107 ≤ R.locals) (hz : cells ≤ R.cells ∧ slots ≤ R.slots) (hr : (rest.map fun v => v.category).sum ≤ 8) (hdg : decode cc pc = .ok (.invokestatic idx, 3)) (kk : W p l e R s m args below meth c H locs cells slots Q (F0 m (pc + 3) ls (.int (sp_txt f9 x N) :: rest))) : W p l e R s m args below meth c H locs cells slots Q (F0 m pc ls (.ref q :: .int x :: rest)) :=
  vp_callSi (W.runS (As := [.int x, .ref q]) (rest := rest) hC (c_X0_sealText l x hN) (va_cwS 2 hC.2.2.2.2 (gi_S hk mT_X0_sealText mI_MissRegistry mC_X0_sealText) rfl rfl rfl (by decide +kernel) hR) ⟨fun a1 U g mk q9 => ⟨q9.1, sH.moved (u := U) (U := U.calling g mk a1) (Vm.Alike.refl U.vm) q9.2.1, jH.moved (u := U) (U := U.calling g mk a1) (Vm.Alike.refl U.vm) q9.2.2⟩, fun U hU hW => ⟨rfl, by rw [hU]; exact hE.moved hW.alike, by rw [hU]; exact hJ.moved hW.alike⟩⟩ rfl rfl hl rfl (lv_room hr) hdg hz) (fun r hr => by rw [hr]; exact kk)
/-- the four texts of the seals: how long, and their bytes -/
def lenS : List Nat := [7, 2, 13, 7]
def bytS : List (List Int32) := [[112, 101, 114, 115, 111, 110, 32], [58, 32], [110, 111, 116, 32, 99, 101, 114, 116, 105, 102, 105, 101, 100], [32, 105, 110, 99, 104, 101, 115]]
def tL (i : Nat) : Nat := lenS.getD i 0
def tF (i j : Nat) : Int32 := (bytS.getD i []).getD j 0
def cH (q9 t9 : Nat → Nat) (A : Nat → Prop) (U : State) (H : Heap) : Prop := (∀ i : Nat, i < 4 → sH (q9 i) (t9 i) (tL i) (tF i) A U H) ∧ jH A U H ∧ vk_R RX0 207 "person " (q9 0) U ∧ vk_R RX0 216 ": " (q9 1) U ∧ vk_R RX0 218 "not certified" (q9 2) U ∧ vk_R RX0 220 " inches" (q9 3) U ∧ vk_R RX1 69 "person " (q9 0) U ∧ vk_R RX1 78 ": " (q9 1) U ∧ vk_R RX1 80 "not certified" (q9 2) U ∧ vk_R RX1 82 " inches" (q9 3) U
theorem cH.same {q9 t9 : Nat → Nat} {A : Nat → Prop} {u U : State} {H : Heap} (hv : U.vm = u.vm) (h : cH q9 t9 A u H) : cH q9 t9 A U H :=
  ⟨fun i hi => sH.moved (by rw [hv]; exact Vm.Alike.refl u.vm) (h.1 i hi), jH.moved (by rw [hv]; exact Vm.Alike.refl u.vm) h.2.1, h.2.2.1.same hv, h.2.2.2.1.same hv, h.2.2.2.2.1.same hv, h.2.2.2.2.2.1.same hv, h.2.2.2.2.2.2.1.same hv, h.2.2.2.2.2.2.2.1.same hv, h.2.2.2.2.2.2.2.2.1.same hv, h.2.2.2.2.2.2.2.2.2.same hv⟩
theorem cH.warm {q9 t9 : Nat → Nat} {A : Nat → Prop} {s U : State} {H : Heap} (hW : s.WarmedH U.vm) (h : cH q9 t9 A s H) : cH q9 t9 A U H :=
  ⟨fun i hi => (h.1 i hi).moved hW.alike, h.2.1.moved hW.alike, h.2.2.1.warm hW, h.2.2.2.1.warm hW, h.2.2.2.2.1.warm hW, h.2.2.2.2.2.1.warm hW, h.2.2.2.2.2.2.1.warm hW, h.2.2.2.2.2.2.2.1.warm hW, h.2.2.2.2.2.2.2.2.1.warm hW, h.2.2.2.2.2.2.2.2.2.warm hW⟩
theorem cH.kept {q9 t9 : Nat → Nat} {A : Nat → Prop} {U : State} {H H1 : Heap} (h : cH q9 t9 A U H) (hq : ∀ a : Nat, a < H.size → ¬ A a → H1[a]? = H[a]?) : cH q9 t9 A U H1 := ⟨fun i hi => (h.1 i hi).kept hq, h.2.1.kept hq, h.2.2⟩
theorem cH.narrow {q9 t9 : Nat → Nat} {A B : Nat → Prop} {U : State} {H : Heap} (h : cH q9 t9 A U H) (hAB : ∀ q, B q → A q) : cH q9 t9 B U H := ⟨fun i hi => (h.1 i hi).narrow hAB, h.2.1.narrow hAB, h.2.2⟩
theorem cH.at {q9 t9 : Nat → Nat} {A : Nat → Prop} {s : State} {H : Heap} {locs : List Loc} (h : cH q9 t9 A s s.heap) (hS : va_S A s.heap H locs) : cH q9 t9 nA s H := (h.kept hS.2.1).narrow (fun _ q => q.elim)
def sp_s3 (x : Int32) : Int32 := sp_txt (tF 1) (sp_num (sp_txt (tF 0) 7 (tL 0)) x) (tL 1)
def sp_seal (x y : Int32) : Int32 := if y = 0 then sp_txt (tF 2) (sp_s3 x) (tL 2) else sp_txt (tF 3) (sp_num (sp_s3 x) y) (tL 3)

set_option maxHeartbeats 4000000 in
set_option maxRecDepth 100000 in
theorem c_X0_certificateSeal (l : Launch) {q9 t9 : Nat → Nat} (x y : Int32) : Met l yX0_certificateSeal (ws_ yX0_certificateSeal cX0_certificateSeal 3 (some .int)) ({ frames := 5, cells := 0, slots := 0, locals := 107 } : Room) (va_Pc [.int x, .int y] (fun U => cH q9 t9 nA U U.heap)) (vp_Si (fun r : Int32 => r = sp_seal x y)) 0 0 (fun _ => False) := by
  refine Met.ofW (cc := cX0_certificateSeal) (maxL := 3) (ret := (some .int)) (by decide) rfl ?_
  intro p e s m args below meth c s₁ B hml hv
  obtain ⟨rfl, hE⟩ := hv
  have hx := B.exec
  have hb := B.bytes
  have hr := B.returns
  have hts := atoms_spec (ws := ws_ yX0_certificateSeal cX0_certificateSeal 3 (some .int)) B.pre
  have hts : ∀ w ∈ lw_all, w.before _ s = true := fun w h => hts w (List.mem_cons_of_mem _ h)
  have hown : s.vm.findClass RX0 = some m.cls := findClass_of_methodNamed B.named
  have hlocks := B.notSynchronized
  have hC : CallFix p m c cX0_certificateSeal 3 s _ lw_all RX0 := ⟨hx, hb, hml, hown, hts⟩
  have hl := lv_entry ([.int x, .int y]) (n := 3) (Nat.le_of_ble_eq_true rfl)
  rw [lg_entry_eq]
  generalize (lg_sl ([.int x, .int y]) ++ List.replicate (3 - (lg_sl ([.int x, .int y])).length) Slot.unset).toArray = ls at hl ⊢
  have hl : lv_has ls 3 [(0, .int x), (1, .int y)] := hl
  refine lv_bipush (v := 7) hx hb dX0_certificateSeal_0 (by decide) ?_
  refine va_ldcS hx hb hown hE.2.2.1 dX0_certificateSeal_2 ?_
  refine k_X0_sealText (x := 7) hC mM_X0_209 (hE.1 0 (by decide)) hE.2.1 (by decide) hl.1 ⟨Nat.le_of_ble_eq_true rfl, Nat.le_of_ble_eq_true rfl⟩ ⟨Nat.zero_le _, Nat.zero_le _⟩ (Nat.le_of_ble_eq_true rfl) dX0_certificateSeal_4 ?_
  refine lv_istore_n (lv' := [(2, .int (sp_txt (tF 0) 7 (tL 0))), (0, .int x), (1, .int y)]) hx hb dX0_certificateSeal_7 rfl hl (by decide) rfl (fun ls hl => ?_)
  refine lv_iload_n hx hb dX0_certificateSeal_8 rfl (lv_at hl 0 rfl) ?_
  refine lv_iload_n hx hb dX0_certificateSeal_9 rfl (lv_at hl 1 rfl) ?_
  refine k_X0_sealNumber hC hl.1 ⟨Nat.le_of_ble_eq_true rfl, Nat.le_of_ble_eq_true rfl⟩ ⟨Nat.zero_le _, Nat.zero_le _⟩ (Nat.le_of_ble_eq_true rfl)   dX0_certificateSeal_10 ?_
  refine lv_istore_n (lv' := [(2, .int (sp_num (sp_txt (tF 0) 7 (tL 0)) x)), (0, .int x), (1, .int y)]) hx hb dX0_certificateSeal_13 rfl hl (by decide) rfl (fun ls hl => ?_)
  refine lv_iload_n hx hb dX0_certificateSeal_14 rfl (lv_at hl 0 rfl) ?_
  refine va_ldcS hx hb hown hE.2.2.2.1 dX0_certificateSeal_15 ?_
  refine k_X0_sealText (x := (sp_num (sp_txt (tF 0) 7 (tL 0)) x)) hC mM_X0_209 (hE.1 1 (by decide)) hE.2.1 (by decide) hl.1 ⟨Nat.le_of_ble_eq_true rfl, Nat.le_of_ble_eq_true rfl⟩ ⟨Nat.zero_le _, Nat.zero_le _⟩ (Nat.le_of_ble_eq_true rfl) dX0_certificateSeal_17 ?_
  refine lv_istore_n (lv' := [(2, .int (sp_txt (tF 1) (sp_num (sp_txt (tF 0) 7 (tL 0)) x) (tL 1))), (0, .int x), (1, .int y)]) hx hb dX0_certificateSeal_20 rfl hl (by decide) rfl (fun ls hl => ?_)
  refine lv_iload_n hx hb dX0_certificateSeal_21 rfl (lv_at hl 2 rfl) ?_
  refine lv_if_ne (tgt := 32) hx hb dX0_certificateSeal_22 (by decide) (fun c_22 => ?_) (fun c_22 => ?_)
  · refine lv_iload_n hx hb dX0_certificateSeal_32 rfl (lv_at hl 0 rfl) ?_
    refine lv_iload_n hx hb dX0_certificateSeal_33 rfl (lv_at hl 2 rfl) ?_
    refine k_X0_sealNumber hC hl.1 ⟨Nat.le_of_ble_eq_true rfl, Nat.le_of_ble_eq_true rfl⟩ ⟨Nat.zero_le _, Nat.zero_le _⟩ (Nat.le_of_ble_eq_true rfl)   dX0_certificateSeal_34 ?_
    refine lv_istore_n (lv' := [(2, .int (sp_num (sp_txt (tF 1) (sp_num (sp_txt (tF 0) 7 (tL 0)) x) (tL 1)) y)), (0, .int x), (1, .int y)]) hx hb dX0_certificateSeal_37 rfl hl (by decide) rfl (fun ls hl => ?_)
    refine lv_iload_n hx hb dX0_certificateSeal_38 rfl (lv_at hl 0 rfl) ?_
    refine va_ldcS hx hb hown hE.2.2.2.2.2.1 dX0_certificateSeal_39 ?_
    refine k_X0_sealText (x := (sp_num (sp_txt (tF 1) (sp_num (sp_txt (tF 0) 7 (tL 0)) x) (tL 1)) y)) hC mM_X0_209 (hE.1 3 (by decide)) hE.2.1 (by decide) hl.1 ⟨Nat.le_of_ble_eq_true rfl, Nat.le_of_ble_eq_true rfl⟩ ⟨Nat.zero_le _, Nat.zero_le _⟩ (Nat.le_of_ble_eq_true rfl) dX0_certificateSeal_41 ?_
    exact W.iret (v := sp_txt (tF 3) (sp_num (sp_txt (tF 1) (sp_num (sp_txt (tF 0) 7 (tL 0)) x) (tL 1)) y) (tL 3)) hx hb hr (fun t ht hW => ⟨sp_txt (tF 3) (sp_num (sp_txt (tF 1) (sp_num (sp_txt (tF 0) 7 (tL 0)) x) (tL 1)) y) (tL 3), rfl, (by simp [sp_seal, sp_s3, c_22]), ht⟩) (fun q hq => absurd hq List.not_mem_nil) dX0_certificateSeal_44
  · refine lv_iload_n hx hb dX0_certificateSeal_25 rfl (lv_at hl 0 rfl) ?_
    refine va_ldcS hx hb hown hE.2.2.2.2.1 dX0_certificateSeal_26 ?_
    refine k_X0_sealText (x := (sp_txt (tF 1) (sp_num (sp_txt (tF 0) 7 (tL 0)) x) (tL 1))) hC mM_X0_209 (hE.1 2 (by decide)) hE.2.1 (by decide) hl.1 ⟨Nat.le_of_ble_eq_true rfl, Nat.le_of_ble_eq_true rfl⟩ ⟨Nat.zero_le _, Nat.zero_le _⟩ (Nat.le_of_ble_eq_true rfl) dX0_certificateSeal_28 ?_
    exact W.iret (v := sp_txt (tF 2) (sp_txt (tF 1) (sp_num (sp_txt (tF 0) 7 (tL 0)) x) (tL 1)) (tL 2)) hx hb hr (fun t ht hW => ⟨sp_txt (tF 2) (sp_txt (tF 1) (sp_num (sp_txt (tF 0) 7 (tL 0)) x) (tL 1)) (tL 2), rfl, (by simp [sp_seal, sp_s3, c_22]), ht⟩) (fun q hq => absurd hq List.not_mem_nil) dX0_certificateSeal_31
set_option maxRecDepth 100000 in
theorem k_X0_certificateSeal {p : Program} {l : Launch} {e : Env} {R : Room} {s : State} {m : MethodId} {args : Array Value} {below : List Frame} {meth : Method} {c : Code} {H : Heap} {locs : List Loc} {cells slots : Nat} {Q : State → Prop} {cc : ByteArray} {nL pc : Nat} {ls : Array Slot} {rest : List Value} {q9 t9 : Nat → Nat} {x y : Int32} {own : String} {idx : Nat} (hC : CallFix p m c cc nL s args lw_all own) (hk : Cond.methodLink own idx yX0_certificateSeal ∈ lw_all) (hE : cH q9 t9 nA s H) (hl : ls.size = nL) (hR : 6 ≤ R.frames ∧ 129 ≤ R.locals) (hz : cells ≤ R.cells ∧ slots ≤ R.slots) (hr : (rest.map fun v => v.category).sum ≤ 8) (hdg : decode cc pc = .ok (.invokestatic idx, 3)) (kk : W p l e R s m args below meth c H locs cells slots Q (F0 m (pc + 3) ls (.int (sp_seal x y) :: rest))) : W p l e R s m args below meth c H locs cells slots Q (F0 m pc ls (.int y :: .int x :: rest)) :=
  vp_callSi (W.runS (As := [.int x, .int y]) (rest := rest) hC (c_X0_certificateSeal l x y) (va_cwS 2 hC.2.2.2.2 (gi_S hk mT_X0_certificateSeal mI_MissRegistry mC_X0_certificateSeal) rfl rfl rfl (by decide +kernel) hR) ⟨fun a1 U g mk q8 => ⟨q8.1, cH.same (u := U) (U := U.calling g mk a1) rfl q8.2⟩, fun U hU hW => ⟨rfl, by show cH q9 t9 nA U U.heap; rw [hU]; exact hE.warm hW⟩⟩ rfl rfl hl rfl (lv_room hr) hdg hz) (fun r hr => by rw [hr]; exact kk)
end
section
set_option maxHeartbeats 4000000 in
set_option maxRecDepth 100000 in
theorem c_X0_wouldCertify (l : Launch) (sz : Nat) {D : va_G} {z : ClassId × ClassId} {a : Nat → Nat} {lv lk pu fa he : Nat → Int32} {n : Nat} {nv du ta : Nat → Int32} {w : Nat} {mp mi : Nat → Int32} {k : Nat} {nt fu re : Int32} (b : Int32) (h1 : ¬ b < 1) (h2 : b ≤ 60) (hw : w ≤ 6) : Met l yX0_wouldCertify (ws_ yX0_wouldCertify cX0_wouldCertify 2 (some .int)) ({ frames := 3, cells := 0, slots := 0, locals := 66 } : Room) (va_Pc [.ref (a 0), .int b] (fun U => U.heap.size = sz ∧ xI D z a lv lk pu fa he n nv du ta w mp mi k nt fu re U ∧ va_D (fun _ => True) (xW z a lv lk pu fa he n nv du ta w mp mi k nt fu re))) (va_Qi (fun (r : Int32) (_ : Unit) => r = sp_mid du nv b ta w) (fun _ t9 => va_P D vwCl (xW z a lv lk pu fa he n nv du (sp_tarr du nv b ta w) w mp mi k nt fu re) t9.heap ∧ kK D z t9 ∧ va_D (va_A (xW z a lv lk pu fa he n nv du ta w mp mi k nt fu re) sz) (xW z a lv lk pu fa he n nv du (sp_tarr du nv b ta w) w mp mi k nt fu re)) (va_A (xW z a lv lk pu fa he n nv du ta w mp mi k nt fu re) sz)) 0 0 (va_A (xW z a lv lk pu fa he n nv du ta w mp mi k nt fu re) sz) := by
  refine Met.ofW (cc := cX0_wouldCertify) (maxL := 2) (ret := (some .int)) (by decide) rfl ?_
  intro p e s m args below meth c s₁ B hml hv
  obtain ⟨rfl, hsz, ⟨hP, hK⟩, hD0⟩ := hv
  have hx := B.exec
  have hb := B.bytes
  have hr := B.returns
  have hts := atoms_spec (ws := ws_ yX0_wouldCertify cX0_wouldCertify 2 (some .int)) B.pre
  have hts : ∀ w ∈ lw_all, w.before _ s = true := fun w h => hts w (List.mem_cons_of_mem _ h)
  have hown : s.vm.findClass RX0 = some m.cls := findClass_of_methodNamed B.named
  have hlocks := B.notSynchronized
  have hC : CallFix p m c cX0_wouldCertify 2 s _ lw_all RX0 := ⟨hx, hb, hml, hown, hts⟩
  subst hsz
  have hD := hD0.self (sz := s.heap.size)
  generalize hAe : va_A (xW z a lv lk pu fa he n nv du ta w mp mi k nt fu re) s.heap.size = A at hD ⊢
  have hA : ∀ q : Nat, s.heap.size ≤ q → A q := fun q h => by rw [← hAe]; exact Or.inr h
  have hS : va_S A s.heap s.heap [] := va_S.rf
  have hl := lv_entry ([.ref (a 0), .int b]) (n := 2) (Nat.le_of_ble_eq_true rfl)
  rw [lg_entry_eq]
  generalize (lg_sl ([.ref (a 0), .int b]) ++ List.replicate (2 - (lg_sl ([.ref (a 0), .int b])).length) Slot.unset).toArray = ls at hl ⊢
  have hl : lv_has ls 2 [(0, .ref (a 0)), (1, .int b)] := hl
  refine lv_aload_n hx hb dX0_wouldCertify_0 rfl (lv_at hl 0 rfl) ?_
  refine lv_iload_n hx hb dX0_wouldCertify_1 rfl (lv_at hl 1 rfl) ?_
  refine k_X0_requireInches hC hK hP hl.1 ⟨Nat.le_of_ble_eq_true rfl, Nat.le_of_ble_eq_true rfl⟩ ⟨Nat.zero_le _, Nat.zero_le _⟩ (Nat.le_of_ble_eq_true rfl)  (by first | assumption | omega) (by first | assumption | omega) dX0_wouldCertify_2 ?_
  refine lv_aload_n hx hb dX0_wouldCertify_5 rfl (lv_at hl 0 rfl) ?_
  refine lv_iload_n hx hb dX0_wouldCertify_6 rfl (lv_at hl 1 rfl) ?_
  refine k_X0_middleTale hC hK hP hD hS hA hl.1 ⟨Nat.le_of_ble_eq_true rfl, Nat.le_of_ble_eq_true rfl⟩ ⟨Nat.zero_le _, Nat.zero_le _⟩ (Nat.le_of_ble_eq_true rfl)  (by first | assumption | omega) dX0_wouldCertify_7 (fun H locs hP hD hS => ?_)
  exact W.iret (v := sp_mid du nv b ta w) hx hb hr (fun t ht hW => ⟨⟨sp_mid du nv b ta w, (), rfl, rfl, by rw [ht]; exact hP, va_K.moved hW.alike hK, hD⟩, hS.F ht⟩) hS.2.2 dX0_wouldCertify_10
set_option maxHeartbeats 4000000 in
set_option maxRecDepth 100000 in
theorem c_X0_sealOf (l : Launch) {D : va_G} {z : ClassId × ClassId} {a : Nat → Nat} {lv lk pu fa he : Nat → Int32} {n : Nat} {nv du ta : Nat → Int32} {w : Nat} {mp mi : Nat → Int32} {k : Nat} {nt fu re : Int32} {q9 t9 : Nat → Nat} (i : Nat) (hi : i < k) (hk : k ≤ 60) : Met l yX0_sealOf (ws_ yX0_sealOf cX0_sealOf 2 (some .int)) ({ frames := 6, cells := 0, slots := 0, locals := 129 } : Room) (va_Pc [.ref (a 0), .int (nI i)] (fun U => xI D z a lv lk pu fa he n nv du ta w mp mi k nt fu re U ∧ cH q9 t9 nA U U.heap)) (vp_Si (fun r : Int32 => r = sp_seal (mp i) (mi i))) 0 0 (fun _ => False) := by
  refine Met.ofW (cc := cX0_sealOf) (maxL := 2) (ret := (some .int)) (by decide) rfl ?_
  intro p e s m args below meth c s₁ B hml hv
  obtain ⟨rfl, ⟨hP, hK⟩, hE⟩ := hv
  have hx := B.exec
  have hb := B.bytes
  have hr := B.returns
  have hts := atoms_spec (ws := ws_ yX0_sealOf cX0_sealOf 2 (some .int)) B.pre
  have hts : ∀ w ∈ lw_all, w.before _ s = true := fun w h => hts w (List.mem_cons_of_mem _ h)
  have hown : s.vm.findClass RX0 = some m.cls := findClass_of_methodNamed B.named
  have hlocks := B.notSynchronized
  have hC : CallFix p m c cX0_sealOf 2 s _ lw_all RX0 := ⟨hx, hb, hml, hown, hts⟩
  have hl := lv_entry ([.ref (a 0), .int (nI i)]) (n := 2) (Nat.le_of_ble_eq_true rfl)
  rw [lg_entry_eq]
  generalize (lg_sl ([.ref (a 0), .int (nI i)]) ++ List.replicate (2 - (lg_sl ([.ref (a 0), .int (nI i)])).length) Slot.unset).toArray = ls at hl ⊢
  have hl : lv_has ls 2 [(0, .ref (a 0)), (1, .int (nI i))] := hl
  refine lv_aload_n hx hb dX0_sealOf_0 rfl (lv_at hl 0 rfl) ?_
  refine lv_iload_n hx hb dX0_sealOf_1 rfl (lv_at hl 1 rfl) ?_
  refine k_X0_requireMiss hC hK hP hl.1 ⟨Nat.le_of_ble_eq_true rfl, Nat.le_of_ble_eq_true rfl⟩ ⟨Nat.zero_le _, Nat.zero_le _⟩ (Nat.le_of_ble_eq_true rfl) rfl (by first | assumption | omega) (by first | assumption | omega) dX0_sealOf_2 ?_
  refine lv_aload_n hx hb dX0_sealOf_5 rfl (lv_at hl 0 rfl) ?_
  refine xg_mp hC hK hP dX0_sealOf_6 ?_
  refine lv_iload_n hx hb dX0_sealOf_9 rfl (lv_at hl 1 rfl) ?_
  refine xl_mp hC hK hP i rfl (by omega) dX0_sealOf_10 ?_
  refine lv_aload_n hx hb dX0_sealOf_11 rfl (lv_at hl 0 rfl) ?_
  refine xg_mi hC hK hP dX0_sealOf_12 ?_
  refine lv_iload_n hx hb dX0_sealOf_15 rfl (lv_at hl 1 rfl) ?_
  refine xl_mi hC hK hP i rfl (by omega) dX0_sealOf_16 ?_
  refine k_X0_certificateSeal hC mM_X0_148 hE hl.1 ⟨Nat.le_of_ble_eq_true rfl, Nat.le_of_ble_eq_true rfl⟩ ⟨Nat.zero_le _, Nat.zero_le _⟩ (Nat.le_of_ble_eq_true rfl) dX0_sealOf_17 ?_
  exact W.iret (v := sp_seal (mp i) (mi i)) hx hb hr (fun t ht hW => ⟨sp_seal (mp i) (mi i), rfl, rfl, ht⟩) (fun q hq => absurd hq List.not_mem_nil) dX0_sealOf_20
end
section
theorem mean_num {x y : Int32} (h : ¬ y = 0) : vf_n64 (FP.ddiv (FP.i2d x) (FP.i2d y)) := by
  have h1 : FP.Core.dIsNaN (FP.Core.i2d x) = false := by
    have := (FP.Core.fin_bits _).mp (FP.Core.i2d_fin x)
    rw [← Bool.not_eq_true, FP.Core.isNaN_bits]
    omega
  have h2 : ¬ FP.Core.DZero (FP.Core.i2d y) := by
    rw [FP.Core.zero_bits2]
    exact FP.Core.i2d_ne_zero h
  have h3 : FP.Core.dIsNaN (FP.Core.ddiv (FP.Core.i2d x) (FP.Core.i2d y)) = false := FP.Core.ddiv_out h1 (FP.Core.i2d_fin y) h2
  have h4 : ¬ 9218868437227405312 < (FP.Core.ddiv (FP.Core.i2d x) (FP.Core.i2d y)).toNat % 2 ^ 63 := by
    rw [← FP.Core.isNaN_bits, h3]
    decide
  show vf_n64 (FP.Core.ddiv (FP.Core.i2d x) (FP.Core.i2d y))
  unfold vf_n64
  rw [UInt64.le_iff_toNat_le, UInt64.toNat_and]
  have e1 : (0x7fffffffffffffff : UInt64).toNat = 2 ^ 63 - 1 := by decide
  have e2 : (0x7ff0000000000000 : UInt64).toNat = 9218868437227405312 := by decide
  rw [e1, e2, Nat.and_two_pow_sub_one_eq_mod]
  omega
theorem num_cmp {r : UInt64} (h : vf_n64 r) : FP.dcmp r r = some .eq := by
  have h1 : FP.Core.val64 r ≠ .nan := by
    rw [Ne, ← FP.Core.dIsNaN_iff, FP.Core.isNaN_bits]
    unfold vf_n64 at h
    rw [UInt64.le_iff_toNat_le, UInt64.toNat_and] at h
    have e1 : (0x7fffffffffffffff : UInt64).toNat = 2 ^ 63 - 1 := by decide
    have e2 : (0x7ff0000000000000 : UInt64).toNat = 9218868437227405312 := by decide
    rw [e1, e2, Nat.and_two_pow_sub_one_eq_mod] at h
    omega
  exact FP.Core.dcmp_self h1
def sp_sum (lv lk : Nat → Int32) : Nat → Int32
  | 0 => 0
  | j + 1 => if lv j = 0 then sp_sum lv lk j else sp_sum lv lk j + lk j
def sp_mean (lv lk : Nat → Int32) (n : Nat) : UInt64 := if sp_cnt lv n = 0 then FP.dconst0 else FP.ddiv (FP.i2d (sp_sum lv lk n)) (FP.i2d (sp_cnt lv n))
theorem mean_cmp (lv lk : Nat → Int32) (n : Nat) : FP.dcmp (sp_mean lv lk n) (sp_mean lv lk n) = some .eq := by
  unfold sp_mean
  by_cases h : sp_cnt lv n = 0
  · rw [if_pos h]; decide
  · rw [if_neg h]; exact num_cmp (mean_num h)

set_option maxHeartbeats 4000000 in
set_option maxRecDepth 100000 in
theorem c_X0_meanLuck (l : Launch) {D : va_G} {z : ClassId × ClassId} {a : Nat → Nat} {lv lk pu fa he : Nat → Int32} {n : Nat} {nv du ta : Nat → Int32} {w : Nat} {mp mi : Nat → Int32} {k : Nat} {nt fu re : Int32} (hn : n ≤ 10) : Met l yX0_meanLuck (ws_ yX0_meanLuck cX0_meanLuck 4 (some .double)) ({ frames := 0, cells := 0, slots := 0, locals := 0 } : Room) (va_Pc [.ref (a 0)] (xI D z a lv lk pu fa he n nv du ta w mp mi k nt fu re)) (vp_Sd (fun r : UInt64 => r = sp_mean lv lk n)) 0 0 (fun _ => False) := by
  refine Met.ofW (cc := cX0_meanLuck) (maxL := 4) (ret := (some .double)) (by decide) rfl ?_
  intro p e s m args below meth c s₁ B hml hv
  obtain ⟨rfl, hP, hK⟩ := hv
  have hx := B.exec
  have hb := B.bytes
  have hr := B.returns
  have hts := atoms_spec (ws := ws_ yX0_meanLuck cX0_meanLuck 4 (some .double)) B.pre
  have hts : ∀ w ∈ lw_all, w.before _ s = true := fun w h => hts w (List.mem_cons_of_mem _ h)
  have hown : s.vm.findClass RX0 = some m.cls := findClass_of_methodNamed B.named
  have hlocks := B.notSynchronized
  have hC : CallFix p m c cX0_meanLuck 4 s _ lw_all RX0 := ⟨hx, hb, hml, hown, hts⟩
  have hl := lv_entry ([.ref (a 0)]) (n := 4) (Nat.le_of_ble_eq_true rfl)
  rw [lg_entry_eq]
  generalize (lg_sl ([.ref (a 0)]) ++ List.replicate (4 - (lg_sl ([.ref (a 0)])).length) Slot.unset).toArray = ls at hl ⊢
  have hl : lv_has ls 4 [(0, .ref (a 0))] := hl
  refine lv_iconst (v := 0) hx hb dX0_meanLuck_0 (by decide) ?_
  refine lv_istore_n (lv' := [(1, .int 0), (0, .ref (a 0))]) hx hb dX0_meanLuck_1 rfl hl (by decide) rfl (fun ls hl => ?_)
  refine lv_iconst (v := 0) hx hb dX0_meanLuck_2 (by decide) ?_
  refine lv_istore_n (lv' := [(2, .int 0), (1, .int 0), (0, .ref (a 0))]) hx hb dX0_meanLuck_3 rfl hl (by decide) rfl (fun ls hl => ?_)
  refine lv_iconst (v := 0) hx hb dX0_meanLuck_4 (by decide) ?_
  refine lv_istore_n (lv' := [(3, .int 0), (2, .int 0), (1, .int 0), (0, .ref (a 0))]) hx hb dX0_meanLuck_5 rfl hl (by decide) rfl (fun ls hl => ?_)
  have loop_6 : ∀ (f : Nat) (j : Nat) (x : Int32) (y : Int32), j ≤ n → n + 1 ≤ j + f → x = sp_cnt lv j → y = sp_sum lv lk j → ∀ ls : Array Slot, lv_has ls 4 [(0, .ref (a 0)), (1, .int x), (2, .int y), (3, .int (nI j))] → W p l e ({ frames := 0, cells := 0, slots := 0, locals := 0 } : Room) s m ([.ref (a 0)] : List Value).toArray below meth c s.heap [] 0 0 (MQ below (vp_Sd (fun r : UInt64 => r = sp_mean lv lk n)) ([.ref (a 0)] : List Value).toArray s 0 0 (fun _ => False)) (F0 m 6 ls []) := by
    intro f
    induction f with
    | zero =>
      intro j x y hj hf ex ey
      exact absurd hf (by omega)
    | succ f ih6 =>
      intro j x y hj hf ex ey ls hl
      refine lv_iload_n hx hb dX0_meanLuck_6 rfl (lv_at hl 3 rfl) ?_
      refine lv_aload_n hx hb dX0_meanLuck_7 rfl (lv_at hl 0 rfl) ?_
      refine xg_n hC hK hP dX0_meanLuck_8 ?_
      refine lv_icmp_ge (tgt := 41) hx hb dX0_meanLuck_11 (by decide) (fun c_11 => ?_) (fun c_11 => ?_)
      · have nc_11 : n ≤ j := nn_le (by omega) c_11
        have ej : j = n := by omega
        rw [ej] at ex ey
        refine lv_iload_n hx hb dX0_meanLuck_41 rfl (lv_at hl 1 rfl) ?_
        refine lv_if_ne (tgt := 47) hx hb dX0_meanLuck_42 (by decide) (fun c_42 => ?_) (fun c_42 => ?_)
        · refine lv_iload_n hx hb dX0_meanLuck_47 rfl (lv_at hl 2 rfl) ?_
          refine lv_i2d hx hb dX0_meanLuck_48 ?_
          refine lv_iload_n hx hb dX0_meanLuck_49 rfl (lv_at hl 1 rfl) ?_
          refine lv_i2d hx hb dX0_meanLuck_50 ?_
          refine lv_ddiv hx hb dX0_meanLuck_51 (mean_num c_42) ?_
          exact W.dret (v := FP.ddiv (FP.i2d y) (FP.i2d x)) hx hb hr (fun t ht hW => ⟨FP.ddiv (FP.i2d y) (FP.i2d x), rfl, (by rw [ex] at c_42; unfold sp_mean; rw [ex, ey, if_neg c_42]), ht⟩) (fun q hq => absurd hq List.not_mem_nil) dX0_meanLuck_52
        · refine lv_dconst0 hx hb dX0_meanLuck_45 ?_
          exact W.dret (v := FP.dconst0) hx hb hr (fun t ht hW => ⟨FP.dconst0, rfl, (by rw [ex] at c_42; unfold sp_mean; rw [if_pos c_42]), ht⟩) (fun q hq => absurd hq List.not_mem_nil) dX0_meanLuck_46
      · have nc_11 : j < n := nn_nle (by omega) c_11
        refine lv_aload_n hx hb dX0_meanLuck_14 rfl (lv_at hl 0 rfl) ?_
        refine xg_lv hC hK hP dX0_meanLuck_15 ?_
        refine lv_iload_n hx hb dX0_meanLuck_18 rfl (lv_at hl 3 rfl) ?_
        refine xl_lv hC hK hP j rfl (by omega) dX0_meanLuck_19 ?_
        refine lv_if_eq (tgt := 35) hx hb dX0_meanLuck_20 (by decide) (fun c_20 => ?_) (fun c_20 => ?_)
        · refine lv_iinc (v := nI (j + 1)) (lv' := [(3, .int (nI (j + 1))), (0, .ref (a 0)), (1, .int x), (2, .int y)]) hx hb dX0_meanLuck_35 hl (k := 3) rfl (nI_1 _) (by decide) rfl (fun ls hl => ?_)
          refine lv_goto (tgt := 6) hx hb dX0_meanLuck_38 (by decide) ?_
          exact ih6 (j + 1) x y (by omega) (by omega) (by simp [ex, sp_cnt, c_20]) (by simp [ey, sp_sum, c_20]) _ (lv_sub hl [1, 2, 3, 0] rfl)
        · refine lv_iinc (v := x + 1) (lv' := [(1, .int (x + 1)), (0, .ref (a 0)), (2, .int y), (3, .int (nI j))]) hx hb dX0_meanLuck_23 hl (k := 1) rfl rfl (by decide) rfl (fun ls hl => ?_)
          refine lv_iload_n hx hb dX0_meanLuck_26 rfl (lv_at hl 2 rfl) ?_
          refine lv_aload_n hx hb dX0_meanLuck_27 rfl (lv_at hl 1 rfl) ?_
          refine xg_lk hC hK hP dX0_meanLuck_28 ?_
          refine lv_iload_n hx hb dX0_meanLuck_31 rfl (lv_at hl 3 rfl) ?_
          refine xl_lk hC hK hP j rfl (by omega) dX0_meanLuck_32 ?_
          refine lv_iadd hx hb dX0_meanLuck_33 ?_
          refine lv_istore_n (lv' := [(2, .int (y + (lk j))), (1, .int (x + 1)), (0, .ref (a 0)), (3, .int (nI j))]) hx hb dX0_meanLuck_34 rfl hl (by decide) rfl (fun ls hl => ?_)
          refine lv_iinc (v := nI (j + 1)) (lv' := [(3, .int (nI (j + 1))), (2, .int (y + (lk j))), (1, .int (x + 1)), (0, .ref (a 0))]) hx hb dX0_meanLuck_35 hl (k := 3) rfl (nI_1 _) (by decide) rfl (fun ls hl => ?_)
          refine lv_goto (tgt := 6) hx hb dX0_meanLuck_38 (by decide) ?_
          exact ih6 (j + 1) (x + 1) (y + (lk j)) (by omega) (by omega) (by simp [ex, sp_cnt, c_20]) (by simp [ey, sp_sum, c_20]) _ (lv_sub hl [3, 2, 1, 0] rfl)
  exact loop_6 (n + 1) 0 0 0 (Nat.zero_le _) (by omega) rfl rfl _ (lv_sub hl [3, 2, 1, 0] rfl)
end
section
abbrev zf : Nat → Int32 := fun _ => 0
set_option maxHeartbeats 4000000 in
set_option maxRecDepth 100000 in
theorem c_X0_init (l : Launch) {D : va_G} (h sz : Nat) : Met l yX0_init (ws_ yX0_init cX0_init 1 none) ({ frames := 1, cells := 10, slots := 188, locals := 12 } : Room) (va_Pc [.ref h] (fun U => U.heap.size = sz ∧ va_P D vwCl [(h, .inr (0, [.null, .null, .null, .null, .null, .int 0, .null, .null, .null, .int 0, .null, .null, .int 0, .int 0, .int 0, .int 0]))] U.heap ∧ va_K D vwCl [] U ∧ va_D (fun _ => True) [(h, .inr (0, [.null, .null, .null, .null, .null, .int 0, .null, .null, .null, .int 0, .null, .null, .int 0, .int 0, .int 0, .int 0]))])) (va_Qv (fun u : (ClassId × ClassId) × (Nat → Nat) => u.2 0 = h) (fun u t9 => va_P D vwCl (xW u.1 u.2 zf zf zf zf zf 0 zf zf zf 0 zf zf 0 0 0 0) t9.heap ∧ kK D u.1 t9 ∧ va_D (va_A [(h, .inr (0, [.null, .null, .null, .null, .null, .int 0, .null, .null, .null, .int 0, .null, .null, .int 0, .int 0, .int 0, .int 0]))] sz) (xW u.1 u.2 zf zf zf zf zf 0 zf zf zf 0 zf zf 0 0 0 0)) (va_A [(h, .inr (0, [.null, .null, .null, .null, .null, .int 0, .null, .null, .null, .int 0, .null, .null, .int 0, .int 0, .int 0, .int 0]))] sz)) 10 188 (va_A [(h, .inr (0, [.null, .null, .null, .null, .null, .int 0, .null, .null, .null, .int 0, .null, .null, .int 0, .int 0, .int 0, .int 0]))] sz) := by
  refine Met.ofW (cc := cX0_init) (maxL := 1) (ret := none) (by decide) rfl ?_
  intro p e s m args below meth c s₁ B hml hv
  obtain ⟨rfl, hsz, hP, hK, hD0⟩ := hv
  have hx := B.exec
  have hb := B.bytes
  have hr := B.returns
  have hts := atoms_spec (ws := ws_ yX0_init cX0_init 1 none) B.pre
  have hts : ∀ w ∈ lw_all, w.before _ s = true := fun w h => hts w (List.mem_cons_of_mem _ h)
  have hown : s.vm.findClass RX0 = some m.cls := findClass_of_methodNamed B.named
  have hlocks := B.notSynchronized
  have hin : meth.name = "<init>" := (name_of_methodNamed B.named B.method).1
  subst hsz
  have hD := hD0.self (sz := s.heap.size)
  generalize hAe : va_A [(h, .inr (0, [.null, .null, .null, .null, .null, .int 0, .null, .null, .null, .int 0, .null, .null, .int 0, .int 0, .int 0, .int 0]))] s.heap.size = A at hD ⊢
  have hA : ∀ q : Nat, s.heap.size ≤ q → A q := fun q h => by rw [← hAe]; exact Or.inr h
  have hS : va_S A s.heap s.heap [] := va_S.rf
  have hl := lv_entry ([.ref h]) (n := 1) (Nat.le_of_ble_eq_true rfl)
  rw [lg_entry_eq]
  generalize (lg_sl ([.ref h]) ++ List.replicate (1 - (lg_sl ([.ref h])).length) Slot.unset).toArray = ls at hl ⊢
  have hl : lv_has ls 1 [(0, .ref h)] := hl
  refine lv_aload_n hx hb dX0_init_0 rfl (lv_at hl 0 rfl) ?_
  refine W.objInit hx hb hown (hts _ mM_X0_1) (hts _ mV_obj) (hts _ mC_obj) rfl (by rw [hml]; exact hl.1) rfl dX0_init_1 (Nat.le_of_ble_eq_true rfl) (Nat.le_of_ble_eq_true rfl) ?_
  refine W.eq (g2 := F0 m 4 ls []) rfl ?_
  refine lv_aload_n hx hb dX0_init_4 rfl (lv_at hl 0 rfl) ?_
  refine lv_bipush (v := 10) hx hb dX0_init_5 (by decide) ?_
  refine va_newa (atype := .boolean) (a0 := (10, .inl zf)) hx hb (hts _ mA_boolean) rfl hK hP hD hS hA (fun _ => rfl) (by decide) (by decide) (by decide) (Nat.le_of_ble_eq_true rfl) (Nat.le_of_ble_eq_true rfl) dX0_init_7 (fun q1 c1 H hK hP hD hS => ?_)
  have hK : va_K D vwCl [(c1, .boolean)] s := hK
  have hP : va_P D vwCl [(h, .inr (0, [.null, .null, .null, .null, .null, .int 0, .null, .null, .null, .int 0, .null, .null, .int 0, .int 0, .int 0, .int 0])), (q1, .inl (c1, 10, .inl zf))] H := hP
  have hD : va_D A [(h, .inr (0, [.null, .null, .null, .null, .null, .int 0, .null, .null, .null, .int 0, .null, .null, .int 0, .int 0, .int 0, .int 0])), (q1, .inl (c1, 10, .inl zf))] := hD
  refine va_putF (D := D) (ci := 0) (v := .ref q1) (ty := .array .boolean) (C := RX0) (T := TX0) (N := 16) hx hb hts lays_X0 tyX0 tyX0_ok nmX0 hown hK hP hD hS 0 rfl rfl 0 (by decide) (hts _ mF_X0_9) (fun _ h9 => h9) rfl hin rfl (by decide +kernel) rfl rfl (Nat.le_of_ble_eq_true rfl) dX0_init_9 (fun H locs hP hD hS => ?_)
  have hP : va_P D vwCl [(h, .inr (0, [.ref q1, .null, .null, .null, .null, .int 0, .null, .null, .null, .int 0, .null, .null, .int 0, .int 0, .int 0, .int 0])), (q1, .inl (c1, 10, .inl zf))] H := hP
  have hD : va_D A [(h, .inr (0, [.ref q1, .null, .null, .null, .null, .int 0, .null, .null, .null, .int 0, .null, .null, .int 0, .int 0, .int 0, .int 0])), (q1, .inl (c1, 10, .inl zf))] := hD
  refine lv_aload_n hx hb dX0_init_12 rfl (lv_at hl 0 rfl) ?_
  refine lv_bipush (v := 10) hx hb dX0_init_13 (by decide) ?_
  refine va_newa (atype := .int) (a0 := (10, .inl zf)) hx hb (hts _ mA_int) rfl hK hP hD hS hA (fun _ => rfl) (by decide) (by decide) (by decide) (Nat.le_of_ble_eq_true rfl) (Nat.le_of_ble_eq_true rfl) dX0_init_15 (fun q2 c2 H hK hP hD hS => ?_)
  have hK : va_K D vwCl [(c1, .boolean), (c2, .int)] s := hK
  have hP : va_P D vwCl [(h, .inr (0, [.ref q1, .null, .null, .null, .null, .int 0, .null, .null, .null, .int 0, .null, .null, .int 0, .int 0, .int 0, .int 0])), (q1, .inl (c1, 10, .inl zf)), (q2, .inl (c2, 10, .inl zf))] H := hP
  have hD : va_D A [(h, .inr (0, [.ref q1, .null, .null, .null, .null, .int 0, .null, .null, .null, .int 0, .null, .null, .int 0, .int 0, .int 0, .int 0])), (q1, .inl (c1, 10, .inl zf)), (q2, .inl (c2, 10, .inl zf))] := hD
  refine va_putF (D := D) (ci := 0) (v := .ref q2) (ty := .array .int) (C := RX0) (T := TX0) (N := 16) hx hb hts lays_X0 tyX0 tyX0_ok nmX0 hown hK hP hD hS 0 rfl rfl 1 (by decide) (hts _ mF_X0_13) (fun _ h9 => h9) rfl hin rfl (by decide +kernel) rfl rfl (Nat.le_of_ble_eq_true rfl) dX0_init_17 (fun H locs hP hD hS => ?_)
  have hP : va_P D vwCl [(h, .inr (0, [.ref q1, .ref q2, .null, .null, .null, .int 0, .null, .null, .null, .int 0, .null, .null, .int 0, .int 0, .int 0, .int 0])), (q1, .inl (c1, 10, .inl zf)), (q2, .inl (c2, 10, .inl zf))] H := hP
  have hD : va_D A [(h, .inr (0, [.ref q1, .ref q2, .null, .null, .null, .int 0, .null, .null, .null, .int 0, .null, .null, .int 0, .int 0, .int 0, .int 0])), (q1, .inl (c1, 10, .inl zf)), (q2, .inl (c2, 10, .inl zf))] := hD
  refine lv_aload_n hx hb dX0_init_20 rfl (lv_at hl 0 rfl) ?_
  refine lv_bipush (v := 10) hx hb dX0_init_21 (by decide) ?_
  refine va_newa (atype := .int) (a0 := (10, .inl zf)) hx hb (hts _ mA_int) rfl hK hP hD hS hA (fun _ => rfl) (by decide) (by decide) (by decide) (Nat.le_of_ble_eq_true rfl) (Nat.le_of_ble_eq_true rfl) dX0_init_23 (fun q3 c3 H hK hP hD hS => ?_)
  have hK : va_K D vwCl [(c1, .boolean), (c2, .int), (c3, .int)] s := hK
  have hP : va_P D vwCl [(h, .inr (0, [.ref q1, .ref q2, .null, .null, .null, .int 0, .null, .null, .null, .int 0, .null, .null, .int 0, .int 0, .int 0, .int 0])), (q1, .inl (c1, 10, .inl zf)), (q2, .inl (c2, 10, .inl zf)), (q3, .inl (c3, 10, .inl zf))] H := hP
  have hD : va_D A [(h, .inr (0, [.ref q1, .ref q2, .null, .null, .null, .int 0, .null, .null, .null, .int 0, .null, .null, .int 0, .int 0, .int 0, .int 0])), (q1, .inl (c1, 10, .inl zf)), (q2, .inl (c2, 10, .inl zf)), (q3, .inl (c3, 10, .inl zf))] := hD
  refine va_putF (D := D) (ci := 0) (v := .ref q3) (ty := .array .int) (C := RX0) (T := TX0) (N := 16) hx hb hts lays_X0 tyX0 tyX0_ok nmX0 hown hK hP hD hS 0 rfl rfl 2 (by decide) (hts _ mF_X0_17) (fun _ h9 => h9) rfl hin rfl (by decide +kernel) rfl rfl (Nat.le_of_ble_eq_true rfl) dX0_init_25 (fun H locs hP hD hS => ?_)
  have hP : va_P D vwCl [(h, .inr (0, [.ref q1, .ref q2, .ref q3, .null, .null, .int 0, .null, .null, .null, .int 0, .null, .null, .int 0, .int 0, .int 0, .int 0])), (q1, .inl (c1, 10, .inl zf)), (q2, .inl (c2, 10, .inl zf)), (q3, .inl (c3, 10, .inl zf))] H := hP
  have hD : va_D A [(h, .inr (0, [.ref q1, .ref q2, .ref q3, .null, .null, .int 0, .null, .null, .null, .int 0, .null, .null, .int 0, .int 0, .int 0, .int 0])), (q1, .inl (c1, 10, .inl zf)), (q2, .inl (c2, 10, .inl zf)), (q3, .inl (c3, 10, .inl zf))] := hD
  refine lv_aload_n hx hb dX0_init_28 rfl (lv_at hl 0 rfl) ?_
  refine lv_bipush (v := 10) hx hb dX0_init_29 (by decide) ?_
  refine va_newa (atype := .int) (a0 := (10, .inl zf)) hx hb (hts _ mA_int) rfl hK hP hD hS hA (fun _ => rfl) (by decide) (by decide) (by decide) (Nat.le_of_ble_eq_true rfl) (Nat.le_of_ble_eq_true rfl) dX0_init_31 (fun q4 c4 H hK hP hD hS => ?_)
  have hK : va_K D vwCl [(c1, .boolean), (c2, .int), (c3, .int), (c4, .int)] s := hK
  have hP : va_P D vwCl [(h, .inr (0, [.ref q1, .ref q2, .ref q3, .null, .null, .int 0, .null, .null, .null, .int 0, .null, .null, .int 0, .int 0, .int 0, .int 0])), (q1, .inl (c1, 10, .inl zf)), (q2, .inl (c2, 10, .inl zf)), (q3, .inl (c3, 10, .inl zf)), (q4, .inl (c4, 10, .inl zf))] H := hP
  have hD : va_D A [(h, .inr (0, [.ref q1, .ref q2, .ref q3, .null, .null, .int 0, .null, .null, .null, .int 0, .null, .null, .int 0, .int 0, .int 0, .int 0])), (q1, .inl (c1, 10, .inl zf)), (q2, .inl (c2, 10, .inl zf)), (q3, .inl (c3, 10, .inl zf)), (q4, .inl (c4, 10, .inl zf))] := hD
  refine va_putF (D := D) (ci := 0) (v := .ref q4) (ty := .array .int) (C := RX0) (T := TX0) (N := 16) hx hb hts lays_X0 tyX0 tyX0_ok nmX0 hown hK hP hD hS 0 rfl rfl 3 (by decide) (hts _ mF_X0_20) (fun _ h9 => h9) rfl hin rfl (by decide +kernel) rfl rfl (Nat.le_of_ble_eq_true rfl) dX0_init_33 (fun H locs hP hD hS => ?_)
  have hP : va_P D vwCl [(h, .inr (0, [.ref q1, .ref q2, .ref q3, .ref q4, .null, .int 0, .null, .null, .null, .int 0, .null, .null, .int 0, .int 0, .int 0, .int 0])), (q1, .inl (c1, 10, .inl zf)), (q2, .inl (c2, 10, .inl zf)), (q3, .inl (c3, 10, .inl zf)), (q4, .inl (c4, 10, .inl zf))] H := hP
  have hD : va_D A [(h, .inr (0, [.ref q1, .ref q2, .ref q3, .ref q4, .null, .int 0, .null, .null, .null, .int 0, .null, .null, .int 0, .int 0, .int 0, .int 0])), (q1, .inl (c1, 10, .inl zf)), (q2, .inl (c2, 10, .inl zf)), (q3, .inl (c3, 10, .inl zf)), (q4, .inl (c4, 10, .inl zf))] := hD
  refine lv_aload_n hx hb dX0_init_36 rfl (lv_at hl 0 rfl) ?_
  refine lv_bipush (v := 10) hx hb dX0_init_37 (by decide) ?_
  refine va_newa (atype := .int) (a0 := (10, .inl zf)) hx hb (hts _ mA_int) rfl hK hP hD hS hA (fun _ => rfl) (by decide) (by decide) (by decide) (Nat.le_of_ble_eq_true rfl) (Nat.le_of_ble_eq_true rfl) dX0_init_39 (fun q5 c5 H hK hP hD hS => ?_)
  have hK : va_K D vwCl [(c1, .boolean), (c2, .int), (c3, .int), (c4, .int), (c5, .int)] s := hK
  have hP : va_P D vwCl [(h, .inr (0, [.ref q1, .ref q2, .ref q3, .ref q4, .null, .int 0, .null, .null, .null, .int 0, .null, .null, .int 0, .int 0, .int 0, .int 0])), (q1, .inl (c1, 10, .inl zf)), (q2, .inl (c2, 10, .inl zf)), (q3, .inl (c3, 10, .inl zf)), (q4, .inl (c4, 10, .inl zf)), (q5, .inl (c5, 10, .inl zf))] H := hP
  have hD : va_D A [(h, .inr (0, [.ref q1, .ref q2, .ref q3, .ref q4, .null, .int 0, .null, .null, .null, .int 0, .null, .null, .int 0, .int 0, .int 0, .int 0])), (q1, .inl (c1, 10, .inl zf)), (q2, .inl (c2, 10, .inl zf)), (q3, .inl (c3, 10, .inl zf)), (q4, .inl (c4, 10, .inl zf)), (q5, .inl (c5, 10, .inl zf))] := hD
  refine va_putF (D := D) (ci := 0) (v := .ref q5) (ty := .array .int) (C := RX0) (T := TX0) (N := 16) hx hb hts lays_X0 tyX0 tyX0_ok nmX0 hown hK hP hD hS 0 rfl rfl 4 (by decide) (hts _ mF_X0_23) (fun _ h9 => h9) rfl hin rfl (by decide +kernel) rfl rfl (Nat.le_of_ble_eq_true rfl) dX0_init_41 (fun H locs hP hD hS => ?_)
  have hP : va_P D vwCl [(h, .inr (0, [.ref q1, .ref q2, .ref q3, .ref q4, .ref q5, .int 0, .null, .null, .null, .int 0, .null, .null, .int 0, .int 0, .int 0, .int 0])), (q1, .inl (c1, 10, .inl zf)), (q2, .inl (c2, 10, .inl zf)), (q3, .inl (c3, 10, .inl zf)), (q4, .inl (c4, 10, .inl zf)), (q5, .inl (c5, 10, .inl zf))] H := hP
  have hD : va_D A [(h, .inr (0, [.ref q1, .ref q2, .ref q3, .ref q4, .ref q5, .int 0, .null, .null, .null, .int 0, .null, .null, .int 0, .int 0, .int 0, .int 0])), (q1, .inl (c1, 10, .inl zf)), (q2, .inl (c2, 10, .inl zf)), (q3, .inl (c3, 10, .inl zf)), (q4, .inl (c4, 10, .inl zf)), (q5, .inl (c5, 10, .inl zf))] := hD
  refine lv_aload_n hx hb dX0_init_44 rfl (lv_at hl 0 rfl) ?_
  refine lv_bipush (v := 6) hx hb dX0_init_45 (by decide) ?_
  refine va_newa (atype := .int) (a0 := (6, .inl zf)) hx hb (hts _ mA_int) rfl hK hP hD hS hA (fun _ => rfl) (by decide) (by decide) (by decide) (Nat.le_of_ble_eq_true rfl) (Nat.le_of_ble_eq_true rfl) dX0_init_47 (fun q6 c6 H hK hP hD hS => ?_)
  have hK : va_K D vwCl [(c1, .boolean), (c2, .int), (c3, .int), (c4, .int), (c5, .int), (c6, .int)] s := hK
  have hP : va_P D vwCl [(h, .inr (0, [.ref q1, .ref q2, .ref q3, .ref q4, .ref q5, .int 0, .null, .null, .null, .int 0, .null, .null, .int 0, .int 0, .int 0, .int 0])), (q1, .inl (c1, 10, .inl zf)), (q2, .inl (c2, 10, .inl zf)), (q3, .inl (c3, 10, .inl zf)), (q4, .inl (c4, 10, .inl zf)), (q5, .inl (c5, 10, .inl zf)), (q6, .inl (c6, 6, .inl zf))] H := hP
  have hD : va_D A [(h, .inr (0, [.ref q1, .ref q2, .ref q3, .ref q4, .ref q5, .int 0, .null, .null, .null, .int 0, .null, .null, .int 0, .int 0, .int 0, .int 0])), (q1, .inl (c1, 10, .inl zf)), (q2, .inl (c2, 10, .inl zf)), (q3, .inl (c3, 10, .inl zf)), (q4, .inl (c4, 10, .inl zf)), (q5, .inl (c5, 10, .inl zf)), (q6, .inl (c6, 6, .inl zf))] := hD
  refine va_putF (D := D) (ci := 0) (v := .ref q6) (ty := .array .int) (C := RX0) (T := TX0) (N := 16) hx hb hts lays_X0 tyX0 tyX0_ok nmX0 hown hK hP hD hS 0 rfl rfl 6 (by decide) (hts _ mF_X0_26) (fun _ h9 => h9) rfl hin rfl (by decide +kernel) rfl rfl (Nat.le_of_ble_eq_true rfl) dX0_init_49 (fun H locs hP hD hS => ?_)
  have hP : va_P D vwCl [(h, .inr (0, [.ref q1, .ref q2, .ref q3, .ref q4, .ref q5, .int 0, .ref q6, .null, .null, .int 0, .null, .null, .int 0, .int 0, .int 0, .int 0])), (q1, .inl (c1, 10, .inl zf)), (q2, .inl (c2, 10, .inl zf)), (q3, .inl (c3, 10, .inl zf)), (q4, .inl (c4, 10, .inl zf)), (q5, .inl (c5, 10, .inl zf)), (q6, .inl (c6, 6, .inl zf))] H := hP
  have hD : va_D A [(h, .inr (0, [.ref q1, .ref q2, .ref q3, .ref q4, .ref q5, .int 0, .ref q6, .null, .null, .int 0, .null, .null, .int 0, .int 0, .int 0, .int 0])), (q1, .inl (c1, 10, .inl zf)), (q2, .inl (c2, 10, .inl zf)), (q3, .inl (c3, 10, .inl zf)), (q4, .inl (c4, 10, .inl zf)), (q5, .inl (c5, 10, .inl zf)), (q6, .inl (c6, 6, .inl zf))] := hD
  refine lv_aload_n hx hb dX0_init_52 rfl (lv_at hl 0 rfl) ?_
  refine lv_bipush (v := 6) hx hb dX0_init_53 (by decide) ?_
  refine va_newa (atype := .boolean) (a0 := (6, .inl zf)) hx hb (hts _ mA_boolean) rfl hK hP hD hS hA (fun _ => rfl) (by decide) (by decide) (by decide) (Nat.le_of_ble_eq_true rfl) (Nat.le_of_ble_eq_true rfl) dX0_init_55 (fun q7 c7 H hK hP hD hS => ?_)
  have hK : va_K D vwCl [(c1, .boolean), (c2, .int), (c3, .int), (c4, .int), (c5, .int), (c6, .int), (c7, .boolean)] s := hK
  have hP : va_P D vwCl [(h, .inr (0, [.ref q1, .ref q2, .ref q3, .ref q4, .ref q5, .int 0, .ref q6, .null, .null, .int 0, .null, .null, .int 0, .int 0, .int 0, .int 0])), (q1, .inl (c1, 10, .inl zf)), (q2, .inl (c2, 10, .inl zf)), (q3, .inl (c3, 10, .inl zf)), (q4, .inl (c4, 10, .inl zf)), (q5, .inl (c5, 10, .inl zf)), (q6, .inl (c6, 6, .inl zf)), (q7, .inl (c7, 6, .inl zf))] H := hP
  have hD : va_D A [(h, .inr (0, [.ref q1, .ref q2, .ref q3, .ref q4, .ref q5, .int 0, .ref q6, .null, .null, .int 0, .null, .null, .int 0, .int 0, .int 0, .int 0])), (q1, .inl (c1, 10, .inl zf)), (q2, .inl (c2, 10, .inl zf)), (q3, .inl (c3, 10, .inl zf)), (q4, .inl (c4, 10, .inl zf)), (q5, .inl (c5, 10, .inl zf)), (q6, .inl (c6, 6, .inl zf)), (q7, .inl (c7, 6, .inl zf))] := hD
  refine va_putF (D := D) (ci := 0) (v := .ref q7) (ty := .array .boolean) (C := RX0) (T := TX0) (N := 16) hx hb hts lays_X0 tyX0 tyX0_ok nmX0 hown hK hP hD hS 0 rfl rfl 7 (by decide) (hts _ mF_X0_29) (fun _ h9 => h9) rfl hin rfl (by decide +kernel) rfl rfl (Nat.le_of_ble_eq_true rfl) dX0_init_57 (fun H locs hP hD hS => ?_)
  have hP : va_P D vwCl [(h, .inr (0, [.ref q1, .ref q2, .ref q3, .ref q4, .ref q5, .int 0, .ref q6, .ref q7, .null, .int 0, .null, .null, .int 0, .int 0, .int 0, .int 0])), (q1, .inl (c1, 10, .inl zf)), (q2, .inl (c2, 10, .inl zf)), (q3, .inl (c3, 10, .inl zf)), (q4, .inl (c4, 10, .inl zf)), (q5, .inl (c5, 10, .inl zf)), (q6, .inl (c6, 6, .inl zf)), (q7, .inl (c7, 6, .inl zf))] H := hP
  have hD : va_D A [(h, .inr (0, [.ref q1, .ref q2, .ref q3, .ref q4, .ref q5, .int 0, .ref q6, .ref q7, .null, .int 0, .null, .null, .int 0, .int 0, .int 0, .int 0])), (q1, .inl (c1, 10, .inl zf)), (q2, .inl (c2, 10, .inl zf)), (q3, .inl (c3, 10, .inl zf)), (q4, .inl (c4, 10, .inl zf)), (q5, .inl (c5, 10, .inl zf)), (q6, .inl (c6, 6, .inl zf)), (q7, .inl (c7, 6, .inl zf))] := hD
  refine lv_aload_n hx hb dX0_init_60 rfl (lv_at hl 0 rfl) ?_
  refine lv_bipush (v := 6) hx hb dX0_init_61 (by decide) ?_
  refine va_newa (atype := .int) (a0 := (6, .inl zf)) hx hb (hts _ mA_int) rfl hK hP hD hS hA (fun _ => rfl) (by decide) (by decide) (by decide) (Nat.le_of_ble_eq_true rfl) (Nat.le_of_ble_eq_true rfl) dX0_init_63 (fun q8 c8 H hK hP hD hS => ?_)
  have hK : va_K D vwCl [(c1, .boolean), (c2, .int), (c3, .int), (c4, .int), (c5, .int), (c6, .int), (c7, .boolean), (c8, .int)] s := hK
  have hP : va_P D vwCl [(h, .inr (0, [.ref q1, .ref q2, .ref q3, .ref q4, .ref q5, .int 0, .ref q6, .ref q7, .null, .int 0, .null, .null, .int 0, .int 0, .int 0, .int 0])), (q1, .inl (c1, 10, .inl zf)), (q2, .inl (c2, 10, .inl zf)), (q3, .inl (c3, 10, .inl zf)), (q4, .inl (c4, 10, .inl zf)), (q5, .inl (c5, 10, .inl zf)), (q6, .inl (c6, 6, .inl zf)), (q7, .inl (c7, 6, .inl zf)), (q8, .inl (c8, 6, .inl zf))] H := hP
  have hD : va_D A [(h, .inr (0, [.ref q1, .ref q2, .ref q3, .ref q4, .ref q5, .int 0, .ref q6, .ref q7, .null, .int 0, .null, .null, .int 0, .int 0, .int 0, .int 0])), (q1, .inl (c1, 10, .inl zf)), (q2, .inl (c2, 10, .inl zf)), (q3, .inl (c3, 10, .inl zf)), (q4, .inl (c4, 10, .inl zf)), (q5, .inl (c5, 10, .inl zf)), (q6, .inl (c6, 6, .inl zf)), (q7, .inl (c7, 6, .inl zf)), (q8, .inl (c8, 6, .inl zf))] := hD
  refine va_putF (D := D) (ci := 0) (v := .ref q8) (ty := .array .int) (C := RX0) (T := TX0) (N := 16) hx hb hts lays_X0 tyX0 tyX0_ok nmX0 hown hK hP hD hS 0 rfl rfl 8 (by decide) (hts _ mF_X0_32) (fun _ h9 => h9) rfl hin rfl (by decide +kernel) rfl rfl (Nat.le_of_ble_eq_true rfl) dX0_init_65 (fun H locs hP hD hS => ?_)
  have hP : va_P D vwCl [(h, .inr (0, [.ref q1, .ref q2, .ref q3, .ref q4, .ref q5, .int 0, .ref q6, .ref q7, .ref q8, .int 0, .null, .null, .int 0, .int 0, .int 0, .int 0])), (q1, .inl (c1, 10, .inl zf)), (q2, .inl (c2, 10, .inl zf)), (q3, .inl (c3, 10, .inl zf)), (q4, .inl (c4, 10, .inl zf)), (q5, .inl (c5, 10, .inl zf)), (q6, .inl (c6, 6, .inl zf)), (q7, .inl (c7, 6, .inl zf)), (q8, .inl (c8, 6, .inl zf))] H := hP
  have hD : va_D A [(h, .inr (0, [.ref q1, .ref q2, .ref q3, .ref q4, .ref q5, .int 0, .ref q6, .ref q7, .ref q8, .int 0, .null, .null, .int 0, .int 0, .int 0, .int 0])), (q1, .inl (c1, 10, .inl zf)), (q2, .inl (c2, 10, .inl zf)), (q3, .inl (c3, 10, .inl zf)), (q4, .inl (c4, 10, .inl zf)), (q5, .inl (c5, 10, .inl zf)), (q6, .inl (c6, 6, .inl zf)), (q7, .inl (c7, 6, .inl zf)), (q8, .inl (c8, 6, .inl zf))] := hD
  refine lv_aload_n hx hb dX0_init_68 rfl (lv_at hl 0 rfl) ?_
  refine lv_bipush (v := 60) hx hb dX0_init_69 (by decide) ?_
  refine va_newa (atype := .int) (a0 := (60, .inl zf)) hx hb (hts _ mA_int) rfl hK hP hD hS hA (fun _ => rfl) (by decide) (by decide) (by decide) (Nat.le_of_ble_eq_true rfl) (Nat.le_of_ble_eq_true rfl) dX0_init_71 (fun q9 c9 H hK hP hD hS => ?_)
  have hK : va_K D vwCl [(c1, .boolean), (c2, .int), (c3, .int), (c4, .int), (c5, .int), (c6, .int), (c7, .boolean), (c8, .int), (c9, .int)] s := hK
  have hP : va_P D vwCl [(h, .inr (0, [.ref q1, .ref q2, .ref q3, .ref q4, .ref q5, .int 0, .ref q6, .ref q7, .ref q8, .int 0, .null, .null, .int 0, .int 0, .int 0, .int 0])), (q1, .inl (c1, 10, .inl zf)), (q2, .inl (c2, 10, .inl zf)), (q3, .inl (c3, 10, .inl zf)), (q4, .inl (c4, 10, .inl zf)), (q5, .inl (c5, 10, .inl zf)), (q6, .inl (c6, 6, .inl zf)), (q7, .inl (c7, 6, .inl zf)), (q8, .inl (c8, 6, .inl zf)), (q9, .inl (c9, 60, .inl zf))] H := hP
  have hD : va_D A [(h, .inr (0, [.ref q1, .ref q2, .ref q3, .ref q4, .ref q5, .int 0, .ref q6, .ref q7, .ref q8, .int 0, .null, .null, .int 0, .int 0, .int 0, .int 0])), (q1, .inl (c1, 10, .inl zf)), (q2, .inl (c2, 10, .inl zf)), (q3, .inl (c3, 10, .inl zf)), (q4, .inl (c4, 10, .inl zf)), (q5, .inl (c5, 10, .inl zf)), (q6, .inl (c6, 6, .inl zf)), (q7, .inl (c7, 6, .inl zf)), (q8, .inl (c8, 6, .inl zf)), (q9, .inl (c9, 60, .inl zf))] := hD
  refine va_putF (D := D) (ci := 0) (v := .ref q9) (ty := .array .int) (C := RX0) (T := TX0) (N := 16) hx hb hts lays_X0 tyX0 tyX0_ok nmX0 hown hK hP hD hS 0 rfl rfl 10 (by decide) (hts _ mF_X0_35) (fun _ h9 => h9) rfl hin rfl (by decide +kernel) rfl rfl (Nat.le_of_ble_eq_true rfl) dX0_init_73 (fun H locs hP hD hS => ?_)
  have hP : va_P D vwCl [(h, .inr (0, [.ref q1, .ref q2, .ref q3, .ref q4, .ref q5, .int 0, .ref q6, .ref q7, .ref q8, .int 0, .ref q9, .null, .int 0, .int 0, .int 0, .int 0])), (q1, .inl (c1, 10, .inl zf)), (q2, .inl (c2, 10, .inl zf)), (q3, .inl (c3, 10, .inl zf)), (q4, .inl (c4, 10, .inl zf)), (q5, .inl (c5, 10, .inl zf)), (q6, .inl (c6, 6, .inl zf)), (q7, .inl (c7, 6, .inl zf)), (q8, .inl (c8, 6, .inl zf)), (q9, .inl (c9, 60, .inl zf))] H := hP
  have hD : va_D A [(h, .inr (0, [.ref q1, .ref q2, .ref q3, .ref q4, .ref q5, .int 0, .ref q6, .ref q7, .ref q8, .int 0, .ref q9, .null, .int 0, .int 0, .int 0, .int 0])), (q1, .inl (c1, 10, .inl zf)), (q2, .inl (c2, 10, .inl zf)), (q3, .inl (c3, 10, .inl zf)), (q4, .inl (c4, 10, .inl zf)), (q5, .inl (c5, 10, .inl zf)), (q6, .inl (c6, 6, .inl zf)), (q7, .inl (c7, 6, .inl zf)), (q8, .inl (c8, 6, .inl zf)), (q9, .inl (c9, 60, .inl zf))] := hD
  refine lv_aload_n hx hb dX0_init_76 rfl (lv_at hl 0 rfl) ?_
  refine lv_bipush (v := 60) hx hb dX0_init_77 (by decide) ?_
  refine va_newa (atype := .int) (a0 := (60, .inl zf)) hx hb (hts _ mA_int) rfl hK hP hD hS hA (fun _ => rfl) (by decide) (by decide) (by decide) (Nat.le_of_ble_eq_true rfl) (Nat.le_of_ble_eq_true rfl) dX0_init_79 (fun q10 c10 H hK hP hD hS => ?_)
  have hK : va_K D vwCl [(c1, .boolean), (c2, .int), (c3, .int), (c4, .int), (c5, .int), (c6, .int), (c7, .boolean), (c8, .int), (c9, .int), (c10, .int)] s := hK
  have hP : va_P D vwCl [(h, .inr (0, [.ref q1, .ref q2, .ref q3, .ref q4, .ref q5, .int 0, .ref q6, .ref q7, .ref q8, .int 0, .ref q9, .null, .int 0, .int 0, .int 0, .int 0])), (q1, .inl (c1, 10, .inl zf)), (q2, .inl (c2, 10, .inl zf)), (q3, .inl (c3, 10, .inl zf)), (q4, .inl (c4, 10, .inl zf)), (q5, .inl (c5, 10, .inl zf)), (q6, .inl (c6, 6, .inl zf)), (q7, .inl (c7, 6, .inl zf)), (q8, .inl (c8, 6, .inl zf)), (q9, .inl (c9, 60, .inl zf)), (q10, .inl (c10, 60, .inl zf))] H := hP
  have hD : va_D A [(h, .inr (0, [.ref q1, .ref q2, .ref q3, .ref q4, .ref q5, .int 0, .ref q6, .ref q7, .ref q8, .int 0, .ref q9, .null, .int 0, .int 0, .int 0, .int 0])), (q1, .inl (c1, 10, .inl zf)), (q2, .inl (c2, 10, .inl zf)), (q3, .inl (c3, 10, .inl zf)), (q4, .inl (c4, 10, .inl zf)), (q5, .inl (c5, 10, .inl zf)), (q6, .inl (c6, 6, .inl zf)), (q7, .inl (c7, 6, .inl zf)), (q8, .inl (c8, 6, .inl zf)), (q9, .inl (c9, 60, .inl zf)), (q10, .inl (c10, 60, .inl zf))] := hD
  refine va_putF (D := D) (ci := 0) (v := .ref q10) (ty := .array .int) (C := RX0) (T := TX0) (N := 16) hx hb hts lays_X0 tyX0 tyX0_ok nmX0 hown hK hP hD hS 0 rfl rfl 11 (by decide) (hts _ mF_X0_38) (fun _ h9 => h9) rfl hin rfl (by decide +kernel) rfl rfl (Nat.le_of_ble_eq_true rfl) dX0_init_81 (fun H locs hP hD hS => ?_)
  have hP : va_P D vwCl [(h, .inr (0, [.ref q1, .ref q2, .ref q3, .ref q4, .ref q5, .int 0, .ref q6, .ref q7, .ref q8, .int 0, .ref q9, .ref q10, .int 0, .int 0, .int 0, .int 0])), (q1, .inl (c1, 10, .inl zf)), (q2, .inl (c2, 10, .inl zf)), (q3, .inl (c3, 10, .inl zf)), (q4, .inl (c4, 10, .inl zf)), (q5, .inl (c5, 10, .inl zf)), (q6, .inl (c6, 6, .inl zf)), (q7, .inl (c7, 6, .inl zf)), (q8, .inl (c8, 6, .inl zf)), (q9, .inl (c9, 60, .inl zf)), (q10, .inl (c10, 60, .inl zf))] H := hP
  have hD : va_D A [(h, .inr (0, [.ref q1, .ref q2, .ref q3, .ref q4, .ref q5, .int 0, .ref q6, .ref q7, .ref q8, .int 0, .ref q9, .ref q10, .int 0, .int 0, .int 0, .int 0])), (q1, .inl (c1, 10, .inl zf)), (q2, .inl (c2, 10, .inl zf)), (q3, .inl (c3, 10, .inl zf)), (q4, .inl (c4, 10, .inl zf)), (q5, .inl (c5, 10, .inl zf)), (q6, .inl (c6, 6, .inl zf)), (q7, .inl (c7, 6, .inl zf)), (q8, .inl (c8, 6, .inl zf)), (q9, .inl (c9, 60, .inl zf)), (q10, .inl (c10, 60, .inl zf))] := hD
  have e3 : c2 = c3 := Option.some.inj ((show s.vm.findClass _ = some c2 from (hK.2 1 _ rfl).2).symm.trans (show s.vm.findClass _ = some c3 from (hK.2 2 _ rfl).2))
  have e4 : c2 = c4 := Option.some.inj ((show s.vm.findClass _ = some c2 from (hK.2 1 _ rfl).2).symm.trans (show s.vm.findClass _ = some c4 from (hK.2 3 _ rfl).2))
  have e5 : c2 = c5 := Option.some.inj ((show s.vm.findClass _ = some c2 from (hK.2 1 _ rfl).2).symm.trans (show s.vm.findClass _ = some c5 from (hK.2 4 _ rfl).2))
  have e6 : c2 = c6 := Option.some.inj ((show s.vm.findClass _ = some c2 from (hK.2 1 _ rfl).2).symm.trans (show s.vm.findClass _ = some c6 from (hK.2 5 _ rfl).2))
  have e8 : c2 = c8 := Option.some.inj ((show s.vm.findClass _ = some c2 from (hK.2 1 _ rfl).2).symm.trans (show s.vm.findClass _ = some c8 from (hK.2 7 _ rfl).2))
  have e9 : c2 = c9 := Option.some.inj ((show s.vm.findClass _ = some c2 from (hK.2 1 _ rfl).2).symm.trans (show s.vm.findClass _ = some c9 from (hK.2 8 _ rfl).2))
  have e10 : c2 = c10 := Option.some.inj ((show s.vm.findClass _ = some c2 from (hK.2 1 _ rfl).2).symm.trans (show s.vm.findClass _ = some c10 from (hK.2 9 _ rfl).2))
  have e7 : c1 = c7 := Option.some.inj ((show s.vm.findClass _ = some c1 from (hK.2 0 _ rfl).2).symm.trans (show s.vm.findClass _ = some c7 from (hK.2 6 _ rfl).2))
  subst e3
  subst e4
  subst e5
  subst e6
  subst e8
  subst e9
  subst e10
  subst e7
  refine W.widen (k := 10) (n := 188) (by omega) (by omega) ?_
  have hK9 : kK D (c2, c1) s := hK.sub [1, 0] rfl
  exact W.vret hx hb hr (fun t ht hW => ⟨⟨((c2, c1), (fun j => ([h, q1, q2, q3, q4, q5, q6, q7, q8, q9, q10] : List Nat).getD j 0)), rfl, rfl, by rw [ht]; exact hP, va_K.moved hW.alike hK9, hD⟩, hS.F ht⟩) hS.2.2 dX0_init_84
end
section
theorem t_0 : (0 : Int32).toInt = 0 := by decide
theorem t_1 : (1 : Int32).toInt = 1 := by decide
theorem t_2 : (2 : Int32).toInt = 2 := by decide
theorem t_3 : (3 : Int32).toInt = 3 := by decide
theorem t_5 : (5 : Int32).toInt = 5 := by decide
theorem t_6 : (6 : Int32).toInt = 6 := by decide
theorem t_9 : (9 : Int32).toInt = 9 := by decide
theorem t_10 : (10 : Int32).toInt = 10 := by decide
theorem t_12 : (12 : Int32).toInt = 12 := by decide
theorem t_13 : (13 : Int32).toInt = 13 := by decide
theorem t_14 : (14 : Int32).toInt = 14 := by decide
theorem t_20 : (20 : Int32).toInt = 20 := by decide
theorem t_24 : (24 : Int32).toInt = 24 := by decide
theorem t_25 : (25 : Int32).toInt = 25 := by decide
theorem t_30 : (30 : Int32).toInt = 30 := by decide
theorem t_59 : (59 : Int32).toInt = 59 := by decide
theorem t_60 : (60 : Int32).toInt = 60 := by decide
theorem t_99 : (99 : Int32).toInt = 99 := by decide
theorem t_100 : (100 : Int32).toInt = 100 := by decide
theorem t_m1 : (-1 : Int32).toInt = -1 := by decide
def bN (b : Nat) (f : Nat → Int32) (n : Nat) : Prop := ∀ j : Nat, j < n → ∃ y : Nat, y ≤ b ∧ f j = nI y
/-- every heir is none, or one of the persons -/
def hR (he : Nat → Int32) (n : Nat) : Prop := ∀ j : Nat, j < n → he j = -1 ∨ ∃ y : Nat, y < n ∧ he j = nI y
def bZ (f : Nat → Int32) (n : Nat) : Prop := ∀ j : Nat, j < n → f j = 0 ∨ f j = 1
theorem i3_iff (v : Int32) : 3 ≤ v ↔ 2 < v := by rw [Int32.le_iff_toInt_le, Int32.lt_iff_toInt_lt, t_3, t_2]; omega
theorem sh_0 {v : Int32} (h : 3 ≤ v) : sp_sh v = 0 := by unfold sp_sh; rw [if_pos ((i3_iff v).mp h)]
theorem sh_1 {v : Int32} (h : ¬ 3 ≤ v) : sp_sh v = 1 := by unfold sp_sh; rw [if_neg (fun q => h ((i3_iff v).mpr q))]
theorem sh_iff {v : Int32} : sp_sh v = 0 ↔ 3 ≤ v := ⟨fun h => by
  by_cases q : 3 ≤ v
  · exact q
  · rw [sh_1 q] at h; exact absurd h (by decide), sh_0⟩
theorem tells_0 {v b : Int32} (h : ¬ 3 ≤ v) : 0 = sp_tale v b := by unfold sp_tale; rw [if_neg (by rw [sh_1 h]; decide)]
theorem tells_1 {v b : Int32} (h : 3 ≤ v) (h2 : ¬ 1 ≤ b - (9 - v) / 2) : 1 = sp_tale v b := by
  unfold sp_tale imax
  rw [if_pos (sh_0 h), if_neg (fun q => h2 (by rw [Int32.le_iff_toInt_le]; rw [Int32.lt_iff_toInt_lt] at q; omega))]
theorem tells_2 {v b : Int32} (h : 3 ≤ v) (h2 : 1 ≤ b - (9 - v) / 2) : b - (9 - v) / 2 = sp_tale v b := by
  unfold sp_tale imax
  rw [if_pos (sh_0 h)]
  by_cases q : 1 < b - (9 - v) / 2
  · rw [if_pos q]
  · rw [if_neg q]
    rw [← Int32.toInt_inj]
    rw [Int32.le_iff_toInt_le] at h2
    rw [Int32.lt_iff_toInt_lt] at q
    omega
theorem tale_ne {v b : Int32} (h : sp_sh v = 0) : ¬ sp_tale v b = 0 := by
  unfold sp_tale imax
  rw [if_pos h]
  intro q
  by_cases c : 1 < b - (9 - v) / 2
  · rw [if_pos c] at q
    rw [q] at c
    exact absurd c (by decide)
  · rw [if_neg c] at q
    exact absurd q (by decide)
theorem tale_iff {v b : Int32} : sp_tale v b = 0 ↔ ¬ sp_sh v = 0 := ⟨fun h q => tale_ne q h, fun h => by unfold sp_tale; rw [if_neg h]⟩
theorem tn_max {du nv : Nat → Int32} : ∀ w : Nat, sp_tn du nv w ≤ w
  | 0 => Nat.le_refl 0
  | j + 1 => by
    have ih := tn_max (du := du) (nv := nv) j
    simp only [sp_tn]
    split
    · omega
    · split <;> omega
theorem ins_ge {t : Int32} {p : Nat} {g : Nat → Int32} (h0 : 0 < p) (h : g (p - 1) ≤ t) : sp_ins t p g = upd g p t := by
  obtain ⟨q, rfl⟩ : ∃ q, p = q + 1 := ⟨p - 1, by omega⟩
  have h : g q ≤ t := h
  simp only [sp_ins]
  rw [if_pos h]
theorem ins_lt {t : Int32} {p : Nat} {g : Nat → Int32} (h0 : 0 < p) (h : ¬ g (p - 1) ≤ t) : sp_ins t p g = sp_ins t (p - 1) (upd g p (g (p - 1))) := by
  obtain ⟨q, rfl⟩ : ∃ q, p = q + 1 := ⟨p - 1, by omega⟩
  have h : ¬ g q ≤ t := h
  rw [sp_ins]
  rw [if_neg h]
  rfl
theorem ix_m1 {p : Nat} (h : 0 < p) : nI p + (-1) = nI (p - 1) := by
  obtain ⟨q, rfl⟩ : ∃ q, p = q + 1 := ⟨p - 1, by omega⟩
  exact pk_m1 q
theorem ix_s1 {p : Nat} (h : 0 < p) : nI p - 1 = nI (p - 1) := pk_sub (a := p) (b := 1) h
/-- what is told doesn't ask what stood in the row before -/
theorem ins_eq {t : Int32} : ∀ (p : Nat) (g g' : Nat → Int32), (∀ i, i < p → g i = g' i) → ∀ i, i ≤ p → sp_ins t p g i = sp_ins t p g' i
  | 0, g, g', _, i, hi => by
    have e : i = 0 := by omega
    subst e
    simp only [sp_ins]
    rw [pk_us, pk_us]
  | p + 1, g, g', h, i, hi => by
    simp only [sp_ins]
    rw [← h p (by omega)]
    by_cases c : g p ≤ t
    · rw [if_pos c, if_pos c]
      by_cases e : i = p + 1
      · subst e; rw [pk_us, pk_us]
      · rw [pk_un e, pk_un e]; exact h i (by omega)
    · rw [if_neg c, if_neg c]
      by_cases e : i = p + 1
      · subst e
        have hh : ∀ (q : Nat) (u : Nat → Int32), q < p + 1 → sp_ins t q u (p + 1) = u (p + 1) := by
          intro q
          induction q with
          | zero => intro u _; simp only [sp_ins]; exact pk_un (by omega)
          | succ q ih =>
            intro u hq
            simp only [sp_ins]
            split
            · exact pk_un (by omega)
            · rw [ih _ (by omega)]; exact pk_un (by omega)
        rw [hh p _ (by omega), hh p _ (by omega), pk_us, pk_us]
      · exact ins_eq p _ _ (fun j hj => by rw [pk_un (by omega), pk_un (by omega)]; exact h j (by omega)) i (by omega)
theorem tarr_eq {du nv : Nat → Int32} {b : Int32} {g g' : Nat → Int32} : ∀ (w i : Nat), i < sp_tn du nv w → sp_tarr du nv b g w i = sp_tarr du nv b g' w i
  | 0, i, h => absurd h (Nat.not_lt_zero i)
  | w + 1, i, h => by
    simp only [sp_tn] at h
    simp only [sp_tarr]
    split
    · rename_i c; rw [if_pos c] at h; exact tarr_eq w i h
    · rename_i c
      rw [if_neg c] at h
      split
      · rename_i c2
        rw [if_pos c2] at h
        exact ins_eq _ _ _ (fun j hj => tarr_eq w j hj) i (by omega)
      · rename_i c2; rw [if_neg c2] at h; exact tarr_eq w i h
theorem mid_eq {du nv : Nat → Int32} {b : Int32} {g g' : Nat → Int32} {w : Nat} : sp_mid du nv b g w = sp_mid du nv b g' w := by
  unfold sp_mid
  by_cases h : sp_tn du nv w = 0
  · rw [if_pos h, if_pos h]
  · rw [if_neg h, if_neg h]
    exact tarr_eq w _ (by omega)
/-! the heir: a way that comes to where it was ends -/
theorem isP_m1 {n : Nat} : sp_isP n (-1) = 0 := by unfold sp_isP; rw [if_pos (by decide)]
theorem isP_nI {n y : Nat} (hn : n < 2 ^ 31) (hy : y < n) : ¬ sp_isP n (nI y) = 0 := by rw [isP_in hn hy]; decide
theorem heir_go {he lv : Nat → Int32} {n p f y : Nat} (hn : n ≤ 10) (hy : y < n) (hp : ¬ y = p) (hpn : p < n) (hl : lv y = 0) : sp_heir he lv n p (f + 1) (nI y) = sp_heir he lv n p f (he y) := by
  simp only [sp_heir]
  rw [if_neg (isP_nI (by omega) hy), if_neg (fun e => hp ((nI_eq (by omega) (by omega)).mp e)), nI_clamp (by omega), if_pos hl]
theorem heir_at {he lv : Nat → Int32} {n p f y : Nat} (hn : n ≤ 10) (hy : y < n) (hp : ¬ y = p) (hpn : p < n) (hl : ¬ lv y = 0) : sp_heir he lv n p (f + 1) (nI y) = nI y := by
  simp only [sp_heir]
  rw [if_neg (isP_nI (by omega) hy), if_neg (fun e => hp ((nI_eq (by omega) (by omega)).mp e)), nI_clamp (by omega), if_neg hl]
theorem heir_m1 {he lv : Nat → Int32} {n p : Nat} : ∀ f : Nat, sp_heir he lv n p f (-1) = -1
  | 0 => rfl
  | f + 1 => by simp only [sp_heir]; rw [if_pos isP_m1]
theorem heir_p {he lv : Nat → Int32} {n p : Nat} : ∀ f : Nat, sp_heir he lv n p f (nI p) = -1
  | 0 => rfl
  | f + 1 => by
    simp only [sp_heir]
    split
    · rfl
    · simp
theorem heir_ring {he lv : Nat → Int32} {n p : Nat} (hn : n ≤ 10) (hpn : p < n) (C : Nat → Prop) (hC : ∀ y, C y → y < n ∧ ¬ y = p ∧ lv y = 0 ∧ ∃ x, C x ∧ he y = nI x) : ∀ (f y : Nat), C y → sp_heir he lv n p f (he y) = -1
  | 0, _, _ => rfl
  | f + 1, y, h => by
    obtain ⟨-, -, -, x, hx, e⟩ := hC y h
    obtain ⟨g1, g2, g3, -⟩ := hC x hx
    rw [e, heir_go hn g1 g2 hpn g3]
    exact heir_ring hn hpn C hC f x hx
/-- how many places are marked -/
def nc (g : Nat → Int32) : Nat → Nat
  | 0 => 0
  | j + 1 => if g j = 0 then nc g j else nc g j + 1
theorem nc_le {g : Nat → Int32} : ∀ n : Nat, nc g n ≤ n
  | 0 => Nat.le_refl 0
  | j + 1 => by have := nc_le (g := g) j; simp only [nc]; split <;> omega
theorem nc_upd {g : Nat → Int32} {a : Nat} {v : Int32} (hg : g a = 0) (hv : ¬ v = 0) : ∀ n : Nat, nc (upd g a v) n = if a < n then nc g n + 1 else nc g n
  | 0 => by simp [nc]
  | j + 1 => by
    have ih := nc_upd hg hv j
    simp only [nc]
    by_cases e : j = a
    · subst e
      rw [if_neg (Nat.lt_irrefl j)] at ih
      rw [pk_us, if_neg hv, ih, if_pos (by omega), if_pos hg]
    · rw [pk_un e, ih]
      by_cases c : a < j
      · rw [if_pos c, if_pos (show a < j + 1 by omega)]
        by_cases d : g j = 0
        · rw [if_pos d, if_pos d]
        · rw [if_neg d, if_neg d]
      · rw [if_neg c, if_neg (show ¬ a < j + 1 by omega)]
theorem nc_0 : ∀ n : Nat, nc (fun _ => 0) n = 0
  | 0 => rfl
  | j + 1 => by simp only [nc]; exact nc_0 j
theorem nc_more {g : Nat → Int32} {n a : Nat} (ha : a < n) (hg : g a = 0) : nc g n + 1 ≤ n := by
  have h := nc_upd (g := g) (a := a) (v := 1) hg (by decide) n
  rw [if_pos ha] at h
  have := nc_le (g := upd g a 1) n
  omega
/-- the state of the walk to the last heir: g marks where it was, at: where it is -/
def hI (he lv : Nat → Int32) (n p : Nat) (g : Nat → Int32) (at_ : Nat) : Prop :=
  (∀ x, x < n → ¬ g x = 0 → ¬ he x = nI p ∧ ∃ y, y < n ∧ he x = nI y ∧ (¬ g y = 0 ∨ y = at_)) ∧ (∀ x, x < n → ¬ g x = 0 → x = p ∨ lv x = 0) ∧ (at_ = p → nc g n = 0) ∧ (¬ at_ = p → lv at_ = 0) ∧ sp_heir he lv n p n (he p) = sp_heir he lv n p (n - nc g n) (he at_)
theorem hI_0 {he lv : Nat → Int32} {n p : Nat} : hI he lv n p (fun _ => 0) p := ⟨fun x _ h => absurd rfl h, fun x _ h => absurd rfl h, fun _ => nc_0 n, fun h => absurd rfl h, by rw [nc_0]; rfl⟩
/-- it comes to where it was -/
theorem hI_twice {he lv : Nat → Int32} {n p : Nat} {g : Nat → Int32} {a : Nat} (hn : n ≤ 10) (hp : p < n) (ha : a < n) (h : hI he lv n p g a) (hg : ¬ g a = 0) : -1 = sp_heir he lv n p n (he p) := by
  obtain ⟨h1, h2, h3, h4, h5⟩ := h
  have hap : ¬ a = p := fun e => by
    have := nc_upd (g := fun j => if j = a then 0 else g j) (a := a) (v := g a) (if_pos rfl) hg n
    have e2 : upd (fun j => if j = a then 0 else g j) a (g a) = g := by
      funext j
      unfold upd
      by_cases q : j = a
      · rw [if_pos q, q]
      · rw [if_neg q]; exact if_neg q
    rw [e2, if_pos ha] at this
    have := h3 e
    omega
  rw [h5]
  refine (heir_ring hn hp (fun y => y < n ∧ ¬ y = p ∧ ¬ g y = 0) ?_ _ a ⟨ha, hap, hg⟩).symm
  rintro y ⟨q1, q2, q3⟩
  obtain ⟨r1, x, r2, r3, r4⟩ := h1 y q1 q3
  refine ⟨q1, q2, (h2 y q1 q3).resolve_left q2, x, ⟨r2, fun e => r1 (by rw [r3, e]), ?_⟩, r3⟩
  rcases r4 with r4 | r4
  · exact r4
  · rw [r4]; exact hg
theorem hI_none {he lv : Nat → Int32} {n p : Nat} {g : Nat → Int32} {a : Nat} (h : hI he lv n p g a) (e : he a = -1 ∨ he a = nI p) : -1 = sp_heir he lv n p n (he p) := by
  rw [h.2.2.2.2]
  rcases e with e | e <;> rw [e]
  · rw [heir_m1]
  · rw [heir_p]
theorem hI_here {he lv : Nat → Int32} {n p : Nat} {g : Nat → Int32} {a y : Nat} (hn : n ≤ 10) (hp : p < n) (ha : a < n) (h : hI he lv n p g a) (hg : g a = 0) (e : he a = nI y) (hy : y < n) (hyp : ¬ y = p) (hl : ¬ lv y = 0) : nI y = sp_heir he lv n p n (he p) := by
  have hm := nc_more ha hg
  obtain ⟨f, hf⟩ : ∃ f, n - nc g n = f + 1 := ⟨n - nc g n - 1, by omega⟩
  rw [h.2.2.2.2, e, hf, heir_at hn hy hyp hp hl]
theorem hI_on {he lv : Nat → Int32} {n p : Nat} {g : Nat → Int32} {a y : Nat} (hn : n ≤ 10) (hp : p < n) (ha : a < n) (h : hI he lv n p g a) (hg : g a = 0) (e : he a = nI y) (hy : y < n) (hyp : ¬ y = p) (hl : lv y = 0) : hI he lv n p (upd g a 1) y := by
  have hm := nc_more ha hg
  obtain ⟨h1, h2, h3, h4, h5⟩ := h
  have hnc : nc (upd g a 1) n = nc g n + 1 := by rw [nc_upd hg (by decide), if_pos ha]
  refine ⟨fun x hx hgx => ?_, fun x hx hgx => ?_, fun q => absurd q hyp, fun _ => hl, ?_⟩
  · by_cases c : x = a
    · subst c
      exact ⟨fun q => hyp ((nI_eq (by omega) (by omega)).mp (e.symm.trans q)), y, hy, e, Or.inr rfl⟩
    · rw [pk_un c] at hgx
      obtain ⟨q1, z, q2, q3, q4⟩ := h1 x hx hgx
      refine ⟨q1, z, q2, q3, Or.inl ?_⟩
      rcases q4 with q4 | q4
      · by_cases c2 : z = a
        · subst c2; rw [pk_us]; decide
        · rw [pk_un c2]; exact q4
      · rw [q4, pk_us]; decide
  · by_cases c : x = a
    · subst c
      by_cases c2 : x = p
      · exact Or.inl c2
      · exact Or.inr (h4 c2)
    · rw [pk_un c] at hgx
      exact h2 x hx hgx
  · rw [h5, e, hnc, show n - nc g n = (n - (nc g n + 1)) + 1 by omega, heir_go hn hy hyp hp hl]
end
section
/-! worlds that are lists put together -/
section WJ
variable {A0 : Nat → Prop} {D : va_G} {cl : List vw_C} {X X' M M' : va_W} {H H1 : Heap}
theorem wj_Pl (h : va_P D cl (X ++ M) H) : va_P D cl X H := fun k q hk => h k q (by rw [List.getElem?_append_left (List.getElem?_eq_some_iff.mp hk).1]; exact hk)
theorem wj_rt {k : Nat} {q : Nat × va_E} (hk : M[k]? = some q) : (X ++ M)[X.length + k]? = some q := by rw [List.getElem?_append_right (Nat.le_add_right _ _), Nat.add_sub_cancel_left]; exact hk
theorem wj_lt {k : Nat} {q : Nat × va_E} (hk : X[k]? = some q) : (X ++ M)[k]? = some q := by rw [List.getElem?_append_left (List.getElem?_eq_some_iff.mp hk).1]; exact hk
theorem wj_Pr (h : va_P D cl (X ++ M) H) : va_P D cl M H := fun k q hk => h (X.length + k) q (wj_rt hk)
theorem wj_Dl (h : va_D A0 (X ++ M)) : va_D A0 X := ⟨fun i j p q hp hq e => h.1 i j p q (wj_lt hp) (wj_lt hq) e, fun k q hk => h.2 k q (wj_lt hk)⟩
theorem wj_Dr (h : va_D A0 (X ++ M)) : va_D A0 M := ⟨fun i j p q hp hq e => by have := h.1 _ _ p q (wj_rt hp) (wj_rt hq) e; omega, fun k q hk => h.2 _ q (wj_rt hk)⟩
theorem wj_ne (h : va_D A0 (X ++ M)) {i j : Nat} {p q : Nat × va_E} (hp : X[i]? = some p) (hq : M[j]? = some q) : p.1 ≠ q.1 := fun e => by
  have h1 := h.1 _ _ p q (wj_lt hp) (wj_rt hq) e
  have h2 := (List.getElem?_eq_some_iff.mp hp).1
  omega
theorem wj_l (hP : va_P D cl (X ++ M) H) (hD : va_D A0 (X ++ M)) (hk : ∀ q : Nat, q < H.size → ¬ va_A X H.size q → H1[q]? = H[q]?) (hF : ∀ q, va_A X H.size q → A0 q) (hP1 : va_P D cl X' H1) (hD1 : va_D (va_A X H.size) X') : va_P D cl (X' ++ M) H1 ∧ va_D A0 (X' ++ M) := by
  have ap : ∀ (k : Nat) (q : Nat × va_E), M[k]? = some q → q.1 < H.size ∧ ¬ va_A X H.size q.1 := by
    intro k q hq
    have hl := (wj_Pr hP k q hq).lt
    refine ⟨hl, fun h => ?_⟩
    rcases h with ⟨k2, e, h⟩ | h
    · exact wj_ne hD h hq rfl
    · omega
  refine ⟨va_P.app hP1 (fun k q hq => ?_), va_D.app (hD1.weaken (fun k q _ h => hF q.1 h)) (wj_Dr hD) (fun i j x y hx hy hxy => ?_)⟩
  · exact (wj_Pr hP k q hq).kept (hk _ (ap k q hq).1 (ap k q hq).2)
  · exact (ap j y hy).2 (hxy ▸ hD1.2 i x hx)
theorem wj_sP (h : va_P D cl (X ++ M) H) : va_P D cl (M ++ X) H := va_P.swap (a := []) h
theorem wj_sD (h : va_D A0 (X ++ M)) : va_D A0 (M ++ X) := va_D.swap (a := []) h
theorem wj_r (hP : va_P D cl (X ++ M) H) (hD : va_D A0 (X ++ M)) (hk : ∀ q : Nat, q < H.size → ¬ va_A M H.size q → H1[q]? = H[q]?) (hF : ∀ q, va_A M H.size q → A0 q) (hP1 : va_P D cl M' H1) (hD1 : va_D (va_A M H.size) M') : va_P D cl (X ++ M') H1 ∧ va_D A0 (X ++ M') :=
  have h := wj_l (wj_sP hP) (wj_sD hD) hk hF hP1 hD1
  ⟨wj_sP h.1, wj_sD h.2⟩
theorem wj_F {H0 : Heap} {locs : List Loc} (hD : va_D A0 X) (hS : va_S A0 H0 H locs) (hA : ∀ q, H0.size ≤ q → A0 q) : ∀ q, va_A X H.size q → A0 q := fun q h => h.elim (fun ⟨k, e, h⟩ => hD.2 _ (q, e) h) (fun h => hA q (Nat.le_trans hS.1 h))
theorem wj_Fr {H0 : Heap} {locs : List Loc} (hD : va_D A0 (X ++ M)) (hS : va_S A0 H0 H locs) (hA : ∀ q, H0.size ≤ q → A0 q) : ∀ q, va_A M H.size q → A0 q := wj_F (wj_Dr hD) hS hA
theorem wj_Fl {H0 : Heap} {locs : List Loc} (hD : va_D A0 (X ++ M)) (hS : va_S A0 H0 H locs) (hA : ∀ q, H0.size ≤ q → A0 q) : ∀ q, va_A X H.size q → A0 q := wj_F (wj_Dl hD) hS hA
theorem wj_set (F X : va_W) (k : Nat) (x : Nat × va_E) : (F ++ X).set (F.length + k) x = F ++ X.set k x := by
  rw [List.set_append_right _ _ (Nat.le_add_right _ _), Nat.add_sub_cancel_left]
/-- the cells of a world, one by one -/
theorem wj_mP : va_P D cl X H ↔ ∀ q ∈ X, va_at D cl q H := ⟨fun h q hq => by obtain ⟨i, hi⟩ := List.getElem?_of_mem hq; exact h i q hi, fun h k q hk => h q (List.mem_of_getElem? hk)⟩
theorem wj_mD : va_D A0 X ↔ (X.map Prod.fst).Nodup ∧ ∀ q ∈ X, A0 q.1 := by
  constructor
  · intro h
    refine ⟨?_, fun q hq => by obtain ⟨i, hi⟩ := List.getElem?_of_mem hq; exact h.2 i q hi⟩
    rw [List.Nodup, List.pairwise_iff_getElem]
    intro i j hi hj hij e
    rw [List.length_map] at hi hj
    rw [List.getElem_map, List.getElem_map] at e
    have := h.1 i j X[i] X[j] (List.getElem?_eq_getElem hi) (List.getElem?_eq_getElem hj) e
    omega
  · rintro ⟨h1, h2⟩
    refine ⟨fun i j p q hp hq e => ?_, fun k q hk => h2 q (List.mem_of_getElem? hk)⟩
    obtain ⟨hi, hp⟩ := List.getElem?_eq_some_iff.mp hp
    obtain ⟨hj, hq⟩ := List.getElem?_eq_some_iff.mp hq
    rw [List.Nodup, List.pairwise_iff_getElem] at h1
    have hne : ∀ a b : Nat, ∀ (ha : a < X.length) (hb : b < X.length), a < b → (X[a]).1 ≠ (X[b]).1 := by
      intro a b ha hb hab
      have := h1 a b (by rw [List.length_map]; exact ha) (by rw [List.length_map]; exact hb) hab
      rwa [List.getElem_map, List.getElem_map] at this
    rcases Nat.lt_trichotomy i j with h | h | h
    · exact absurd (by rw [hp, hq]; exact e) (hne i j hi hj h)
    · exact h
    · exact absurd (by rw [hp, hq]; exact e.symm) (hne j i hj hi h)
/-- a row's cell by its places alone -/
theorem cell_ext {cA : ClassId} {L : Nat} {g g' : Nat → Int32} (h : ∀ j, j < L → g j = g' j) : vp_cell cA (L, .inl g) = vp_cell cA (L, .inl g') := by
  rw [vp_cell_i, vp_cell_i]
  unfold arrV
  congr 1
  congr 1
  funext j
  exact congrArg Value.int (h j.val j.isLt)
theorem cell_extq {cA : ClassId} {L : Nat} {g g' : Nat → Option Nat} (h : ∀ j, j < L → g j = g' j) : vp_cell cA (L, .inr (.inr (.inr (.inr g)))) = vp_cell cA (L, .inr (.inr (.inr (.inr g')))) := by
  rw [vp_cell_q, vp_cell_q]
  unfold arrV
  congr 1
  congr 1
  funext j
  exact congrArg va_rf (h j.val j.isLt)
end WJ
/-! arrays of int arrays -/
def gO (U : State) : Prop := (Cond.arrayOver (.array .int)).before #[] U = true
theorem gO.of {B : Array Value} {U : State} (h : (Cond.arrayOver (.array .int)).before B U = true) : gO U := h
theorem gO.use {B : Array Value} {U : State} (h : gO U) : (Cond.arrayOver (.array .int)).before B U = true := h
theorem gO.moved {u U : State} (hvm : u.vm.Alike U.vm) (h : gO u) : gO U := by
  obtain ⟨comp, c, k, h1, h2, h3, h4, h5⟩ := arrayOverA_spec h
  obtain ⟨k', hk', he⟩ := hvm.2.2 _ _ h3
  have hi : (U.vm.classes.findIdx? fun (x : Class) => match x.kind with | .array component _ => component == comp | _ => false) = some c := by
    have e0 : U.vm.bare = u.vm.bare := by first | exact hvm.bare_eq | exact hvm.bare_eq.symm
    refine (va_idx_bare U.vm comp).symm.trans ?_
    rw [e0]
    exact (va_idx_bare u.vm comp).trans h2
  have hkind : k'.kind = .array comp (.array .int) := by rw [he]; exact h4
  have f1 : U.vm.findClass (FieldType.array .int).toString = some comp := by rw [hvm.findClass]; exact h1
  have f2 : U.vm.findClass ("[" ++ (FieldType.array .int).toString) = some c := by rw [hvm.findClass]; exact h5
  unfold gO Cond.before Cond.holds
  simp only [Cond.value]
  rw [f1, Option.bind_some]
  refine (congrArg (fun o : Option Nat => (o.bind (fun c => (U.vm.classes[c]?).map fun (k : Class) => match k.kind with | .array _ ty => decide (ty = FieldType.array .int) && decide (U.vm.findClass ("[" ++ (FieldType.array .int).toString) = some c) | _ => false) == some true)) hi).trans ?_
  simp [hk', hkind, f2]
def kG (cG : ClassId) (U : State) : Prop := ArrOfT U cG (.array .int) ∧ U.vm.findClass ("[" ++ (FieldType.array .int).toString) = some cG ∧ ∃ (kA : Class) (comp : ClassId), U.vm.classes[cG]? = some kA ∧ kA.kind = .array comp (.array .int) ∧ U.vm.findClass (FieldType.array .int).toString = some comp
theorem kG.moved {cG : ClassId} {u U : State} (hvm : u.vm.Alike U.vm) (h : kG cG u) : kG cG U := by
  obtain ⟨h1, h2, kA, comp, h3, h4, h5⟩ := h
  obtain ⟨k', hk', he⟩ := hvm.2.2 _ _ h3
  exact ⟨arrOfT_moved hvm h1, by rw [hvm.findClass]; exact h2, k', comp, hk', by rw [he]; exact h4, by rw [hvm.findClass]; exact h5⟩
section QR
variable {p : Program} {l : Launch} {e : Env} {R : Room} {s : State} {m : MethodId} {args : Array Value} {below : List Frame} {meth : Method} {c : Code} {H : Heap} {locs : List Loc} {cells slots : Nat} {Q : State → Prop} {cc : ByteArray} {nL pc : Nat} {ls : Array Slot} {rest : List Value} {D : va_G} {z : ClassId × ClassId} {cG : ClassId} {A : Nat → Prop} {H0 : Heap} {ws : va_W} {own : String}
theorem va_assignA (vm : Vm) (c : ClassId) : vm.assignable c c = true := by
  show vm.assignableAux _ c c = true
  unfold Vm.assignableAux
  simp
/-- a new int[][] -/
theorem qn_g {index : Nat} (hC : CallFix p m c cc nL s args lw_all own) (hlink : Cond.classLink own index "[I" ∈ lw_all) (hO : gO s) (hP : va_P D vwCl ws H) (hD : va_D A ws) (hS : va_S A H0 H locs) (hA : ∀ q, H0.size ≤ q → A q) {n : Int32} {N : Nat} (hn : n = nI N) (hN : N ≤ 1000) (hcells : cells + 1 ≤ R.cells) (hslots : slots + N ≤ R.slots) (hdg : decode cc pc = .ok (.anewarray index, 3))
    (kk : ∀ (q : Nat) (cG : ClassId) (H1 : Heap), kG cG s → va_P D vwCl ((q, .inl (cG, N, .inr (.inr (.inr (.inr (fun _ => none)))))) :: ws) H1 → va_D A ((q, .inl (cG, N, .inr (.inr (.inr (.inr (fun _ => none)))))) :: ws) → va_S A H0 H1 locs → W p l e R s m args below meth c H1 locs (cells + 1) (slots + N) Q (F0 m (pc + 3) ls (.ref q :: rest))) :
    W p l e R s m args below meth c H locs cells slots Q (F0 m pc ls (.int n :: rest)) := by
  have hcl : n.toNatClampNeg = N := by rw [hn]; exact nI_clamp (by omega)
  refine W.anewA hC.1 hC.2.1 hC.2.2.2.1 (t := .int) (hC.2.2.2.2 _ hlink) hO.use rfl hdg rfl (by rw [hn]; exact nI_pos (by omega)) (by rw [hcl]; omega) hcells (by rw [hcl]; exact hslots) fun cA kA comp f1 f2 f3 f4 => ?_
  rw [hcl]
  generalize hH1 : H.push ({ cls := cA, slots := Array.replicate N .null, vm := .none } : Cell) = H1
  have z1 : H1.size = H.size + 1 := by rw [← hH1, Array.size_push]
  have e1 : H1[H.size]? = some (arrV cA N (fun _ => .null)) := by rw [← hH1, Array.getElem?_push_size, ← arrV_new]
  have o1 : ∀ q : Nat, q < H.size → H1[q]? = H[q]? := fun q hq => by rw [← hH1, Array.getElem?_push, if_neg (Nat.ne_of_lt hq)]
  have hAr : ArrOfT s cA (.array .int) := fun N z => ⟨(fun k h => by cases h), kA, f2, comp, f3⟩
  have hk : ∀ (k : Nat) (x : Nat × va_E), ws[k]? = some x → H1[x.1]? = H[x.1]? := fun k x hx => o1 x.1 ((hP k x hx).lt)
  refine kk H.size cA H1 ⟨hAr, f1, kA, comp, f2, f3, f4⟩ (wj_sP (M := [(H.size, .inl (cA, N, .inr (.inr (.inr (.inr (fun _ => none))))))]) ((hP.kept hk).app (fun k x hx => ?_))) (wj_sD (M := [(H.size, .inl (cA, N, .inr (.inr (.inr (.inr (fun _ => none))))))]) (hD.push hP rfl (hA _ hS.1))) ⟨Nat.le_trans hS.1 (by omega), fun x h1 h2 => (o1 x (Nat.lt_of_lt_of_le h1 hS.1)).trans (hS.2.1 x h1 h2), hS.2.2⟩
  have hz : k < 1 := (List.getElem?_eq_some_iff.mp hx).1
  rw [show k = 0 by omega] at hx
  cases hx
  show H1[H.size]? = some (vp_cell _ _)
  rw [vp_cell_q]
  exact e1
theorem qa_len {a n q0 : Nat} {f : Nat → Option Nat} (hC : CallFix p m c cc nL s args lw_all own) (hK : kK D z s) (hG : kG cG s) (hP : va_P D vwCl ws H) (ha : ws[q0]? = some (a, .inl (cG, n, .inr (.inr (.inr (.inr f)))))) (hdg : decode cc pc = .ok (.arraylength, 1))
    (kk : W p l e R s m args below meth c H locs cells slots Q (F0 m (pc + 1) ls (.int (nI n) :: rest))) : W p l e R s m args below meth c H locs cells slots Q (F0 m pc ls (.ref a :: rest)) := by
  have hK' : va_K D vwCl [(cG, .array .int)] s := ⟨hK.1, fun k x hx => by
    have hz : k < 1 := (List.getElem?_eq_some_iff.mp hx).1
    rw [show k = 0 by omega] at hx
    cases hx
    exact ⟨hG.1, hG.2.1⟩⟩
  exact va_alen hC.1 hC.2.1 hK' hP q0 0 ha rfl rfl hdg kk
theorem qa_ld {a n q0 : Nat} {f : Nat → Option Nat} {i : Int32} (j : Nat) {r : Nat} (hC : CallFix p m c cc nL s args lw_all own) (hG : kG cG s) (hP : va_P D vwCl ws H) (ha : ws[q0]? = some (a, .inl (cG, n, .inr (.inr (.inr (.inr f)))))) (hi : i = nI j) (hj : j < n) (hn : n < 2 ^ 31) (hr : f j = some r) (hdg : decode cc pc = .ok (.aaload, 1))
    (kk : W p l e R s m args below meth c H locs cells slots Q (F0 m (pc + 1) ls (.ref r :: rest))) : W p l e R s m args below meth c H locs cells slots Q (F0 m pc ls (.int i :: .ref a :: rest)) := by
  have hcl : i.toNatClampNeg = j := by rw [hi]; exact nI_clamp (by omega)
  have hin : vp_in i n := by rw [hi]; exact vp_in_nI hj hn
  have hlt : i.toNatClampNeg < n := by rw [hcl]; exact hj
  refine W.aald (v := va_rf (f i.toNatClampNeg)) (ty := .array .int) hC.1 hC.2.1 (hP q0 _ ha) (hG.1 n (fun j => va_rf (f j))) rfl (fun q => by cases q) (by show ¬ (i < 0 ∨ (arrV _ _ _).slots.size ≤ _); rw [arrV_size]; exact hin) (by show (arrV _ _ _).slots[_]? = _; rw [arrV_read _ _ hlt]) rfl rfl hdg ?_
  rw [hcl, hr]
  exact kk
theorem qa_st {a n q0 qk v L : Nat} {f : Nat → Option Nat} {g : Nat → Int32} {i : Int32} (j : Nat) (hC : CallFix p m c cc nL s args lw_all own) (hK : kK D z s) (hG : kG cG s) (hP : va_P D vwCl ws H) (hD : va_D A ws) (hS : va_S A H0 H locs) (ha : ws[q0]? = some (a, .inl (cG, n, .inr (.inr (.inr (.inr f)))))) (hv : ws[qk]? = some (v, .inl (z.1, L, .inl g))) (hi : i = nI j) (hj : j < n) (hn : n < 2 ^ 31) (hdg : decode cc pc = .ok (.aastore, 1))
    (kk : ∀ (H1 : Heap) (locs1 : List Loc), va_P D vwCl (ws.set q0 (a, .inl (cG, n, .inr (.inr (.inr (.inr (va_up f j (some v)))))))) H1 → va_D A (ws.set q0 (a, .inl (cG, n, .inr (.inr (.inr (.inr (va_up f j (some v)))))))) → va_S A H0 H1 locs1 → W p l e R s m args below meth c H1 locs1 cells slots Q (F0 m (pc + 1) ls rest)) : W p l e R s m args below meth c H locs cells slots Q (F0 m pc ls (.ref v :: .int i :: .ref a :: rest)) := by
  have hcl : i.toNatClampNeg = j := by rw [hi]; exact nI_clamp (by omega)
  have hin : vp_in i n := by rw [hi]; exact vp_in_nI hj hn
  have h0 : ¬ i < 0 := fun q => hin (Or.inl q)
  obtain ⟨-, -, kA, comp, k1, k2, k3⟩ := hG
  have hz := hK.2 0 _ rfl
  have hcomp : comp = z.1 := Option.some.inj (k3.symm.trans (show s.vm.findClass _ = some z.1 from hz.2))
  subst hcomp
  obtain ⟨-, kz, hkz, -⟩ := hz.1 L (fun j => .int (g j))
  have hkz : s.vm.classes[z.1]? = some kz := hkz
  refine W.aast hC.1 hC.2.1 (hP q0 _ ha) (fun q h => by cases h) (fun h => by cases h) k1 k2 rfl hkz ⟨h0, by show _ < (arrV _ _ _).slots.size; rw [arrV_size, hcl]; exact hj⟩ (hP qk _ hv) (fun q h => by cases h) hkz (va_assignA _ _) rfl rfl hdg fun H1 e z oq => ?_
  refine kk H1 _ (hP.set hD ha ?_ oq) (hD.set ha) (hS.put z oq (hD.2 q0 _ ha))
  show H1[a]? = some (vp_cell _ _)
  rw [e]
  rw [vp_cell_q, vp_cell_q, arrV_store, hcl]
  congr 2
  funext q
  by_cases hq : q = j
  · subst hq
    simp [updV, va_up, va_rf]
  · simp [updV, va_up, hq]
/-- places of an int array -/
theorem qi_ld {a L q0 : Nat} {g : Nat → Int32} {i : Int32} (j : Nat) (hC : CallFix p m c cc nL s args lw_all own) (hK : kK D z s) (hP : va_P D vwCl ws H) (ha : ws[q0]? = some (a, .inl (z.1, L, .inl g))) (hi : i = nI j) (hj : j < L) (hL : L < 2 ^ 31) (hdg : decode cc pc = .ok (.iaload, 1))
    (kk : W p l e R s m args below meth c H locs cells slots Q (F0 m (pc + 1) ls (.int (g j) :: rest))) : W p l e R s m args below meth c H locs cells slots Q (F0 m pc ls (.int i :: .ref a :: rest)) := by
  subst hi
  refine va_iald (D := D) hC.1 hC.2.1 hK hP q0 0 (n := L) (f := g) ha rfl (vp_in_nI hj hL) hdg ?_
  rw [nI_clamp (by omega)]
  exact kk
theorem qi_st {a L q0 : Nat} {g : Nat → Int32} {i v : Int32} (j : Nat) (hC : CallFix p m c cc nL s args lw_all own) (hK : kK D z s) (hP : va_P D vwCl ws H) (hD : va_D A ws) (hS : va_S A H0 H locs) (ha : ws[q0]? = some (a, .inl (z.1, L, .inl g))) (hi : i = nI j) (hj : j < L) (hL : L < 2 ^ 31) (hdg : decode cc pc = .ok (.iastore, 1))
    (kk : ∀ (H1 : Heap) (locs1 : List Loc), va_P D vwCl (ws.set q0 (a, .inl (z.1, L, .inl (upd g j v)))) H1 → va_D A (ws.set q0 (a, .inl (z.1, L, .inl (upd g j v)))) → va_S A H0 H1 locs1 → W p l e R s m args below meth c H1 locs1 cells slots Q (F0 m (pc + 1) ls rest)) : W p l e R s m args below meth c H locs cells slots Q (F0 m pc ls (.int v :: .int i :: .ref a :: rest)) := by
  subst hi
  refine va_iast (D := D) hC.1 hC.2.1 hK hP hD hS q0 0 (n := L) (f := g) ha rfl (vp_in_nI hj hL) hdg ?_
  rw [nI_clamp (by omega)]
  exact kk
theorem qi_len {a L q0 : Nat} {g : Nat → Int32} (hC : CallFix p m c cc nL s args lw_all own) (hK : kK D z s) (hP : va_P D vwCl ws H) (ha : ws[q0]? = some (a, .inl (z.1, L, .inl g))) (hdg : decode cc pc = .ok (.arraylength, 1))
    (kk : W p l e R s m args below meth c H locs cells slots Q (F0 m (pc + 1) ls (.int (nI L) :: rest))) : W p l e R s m args below meth c H locs cells slots Q (F0 m pc ls (.ref a :: rest)) := va_alen hC.1 hC.2.1 hK hP q0 0 ha rfl rfl hdg kk
theorem qz_ld {a L q0 : Nat} {g : Nat → Int32} {i : Int32} (j : Nat) (hC : CallFix p m c cc nL s args lw_all own) (hK : kK D z s) (hP : va_P D vwCl ws H) (ha : ws[q0]? = some (a, .inl (z.2, L, .inl g))) (hi : i = nI j) (hj : j < L) (hL : L < 2 ^ 31) (hdg : decode cc pc = .ok (.baload, 1))
    (kk : W p l e R s m args below meth c H locs cells slots Q (F0 m (pc + 1) ls (.int (g j) :: rest))) : W p l e R s m args below meth c H locs cells slots Q (F0 m pc ls (.int i :: .ref a :: rest)) := by
  subst hi
  refine va_zald (D := D) hC.1 hC.2.1 hK hP q0 1 (n := L) (f := g) ha rfl (vp_in_nI hj hL) hdg ?_
  rw [nI_clamp (by omega)]
  exact kk
theorem qz_st {a L q0 : Nat} {g : Nat → Int32} {i v : Int32} (j : Nat) (hC : CallFix p m c cc nL s args lw_all own) (hK : kK D z s) (hP : va_P D vwCl ws H) (hD : va_D A ws) (hS : va_S A H0 H locs) (ha : ws[q0]? = some (a, .inl (z.2, L, .inl g))) (hi : i = nI j) (hj : j < L) (hL : L < 2 ^ 31) (hn : vp_nar .boolean v = v) (hdg : decode cc pc = .ok (.bastore, 1))
    (kk : ∀ (H1 : Heap) (locs1 : List Loc), va_P D vwCl (ws.set q0 (a, .inl (z.2, L, .inl (upd g j v)))) H1 → va_D A (ws.set q0 (a, .inl (z.2, L, .inl (upd g j v)))) → va_S A H0 H1 locs1 → W p l e R s m args below meth c H1 locs1 cells slots Q (F0 m (pc + 1) ls rest)) : W p l e R s m args below meth c H locs cells slots Q (F0 m pc ls (.int v :: .int i :: .ref a :: rest)) := by
  subst hi
  refine va_zast (D := D) hC.1 hC.2.1 hK hP hD hS q0 1 (n := L) (f := g) ha rfl (vp_in_nI hj hL) hdg ?_
  rw [nI_clamp (by omega), hn]
  exact kk
/-- a new int[] or boolean[], of the class that is known, at the head of the world -/
theorem qn_i (hC : CallFix p m c cc nL s args lw_all own) (hK : kK D z s) (hP : va_P D vwCl ws H) (hD : va_D A ws) (hS : va_S A H0 H locs) (hA : ∀ q, H0.size ≤ q → A q) {n : Int32} {N : Nat} (hn : n = nI N) (hN : N ≤ 1000) (hcells : cells + 1 ≤ R.cells) (hslots : slots + N ≤ R.slots) (hdg : decode cc pc = .ok (.newarray .int, 2))
    (kk : ∀ (q : Nat) (H1 : Heap), va_P D vwCl ((q, .inl (z.1, N, .inl (fun _ => 0))) :: ws) H1 → va_D A ((q, .inl (z.1, N, .inl (fun _ => 0))) :: ws) → va_S A H0 H1 locs → W p l e R s m args below meth c H1 locs (cells + 1) (slots + N) Q (F0 m (pc + 2) ls (.ref q :: rest))) : W p l e R s m args below meth c H locs cells slots Q (F0 m pc ls (.int n :: rest)) := by
  have hcl : n.toNatClampNeg = N := by rw [hn]; exact nI_clamp (by omega)
  refine va_newa (atype := .int) (ty := .int) (N' := N) (a0 := (N, .inl (fun _ => 0))) hC.1 hC.2.1 (hC.2.2.2.2 _ mA_int) rfl hK hP hD hS hA (fun _ => rfl) (by rw [hn]; exact nI_pos (by omega)) hcl (by show N * 4 ≤ _; omega) hcells hslots hdg (fun q cA H1 hK1 hP1 hD1 hS1 => ?_)
  have ez : cA = z.1 := Option.some.inj ((show s.vm.findClass _ = some cA from (hK1.2 2 _ rfl).2).symm.trans (show s.vm.findClass _ = some z.1 from (hK.2 0 _ rfl).2))
  subst ez
  exact kk q H1 (wj_sP (M := [(q, .inl (z.1, N, .inl (fun _ => 0)))]) hP1) (wj_sD (M := [(q, .inl (z.1, N, .inl (fun _ => 0)))]) hD1) hS1
theorem qn_z (hC : CallFix p m c cc nL s args lw_all own) (hK : kK D z s) (hP : va_P D vwCl ws H) (hD : va_D A ws) (hS : va_S A H0 H locs) (hA : ∀ q, H0.size ≤ q → A q) {n : Int32} {N : Nat} (hn : n = nI N) (hN : N ≤ 1000) (hcells : cells + 1 ≤ R.cells) (hslots : slots + N ≤ R.slots) (hdg : decode cc pc = .ok (.newarray .boolean, 2))
    (kk : ∀ (q : Nat) (H1 : Heap), va_P D vwCl ((q, .inl (z.2, N, .inl (fun _ => 0))) :: ws) H1 → va_D A ((q, .inl (z.2, N, .inl (fun _ => 0))) :: ws) → va_S A H0 H1 locs → W p l e R s m args below meth c H1 locs (cells + 1) (slots + N) Q (F0 m (pc + 2) ls (.ref q :: rest))) : W p l e R s m args below meth c H locs cells slots Q (F0 m pc ls (.int n :: rest)) := by
  have hcl : n.toNatClampNeg = N := by rw [hn]; exact nI_clamp (by omega)
  refine va_newa (atype := .boolean) (ty := .boolean) (N' := N) (a0 := (N, .inl (fun _ => 0))) hC.1 hC.2.1 (hC.2.2.2.2 _ mA_boolean) rfl hK hP hD hS hA (fun _ => rfl) (by rw [hn]; exact nI_pos (by omega)) hcl (by show N * 1 ≤ _; omega) hcells hslots hdg (fun q cA H1 hK1 hP1 hD1 hS1 => ?_)
  have ez : cA = z.2 := Option.some.inj ((show s.vm.findClass _ = some cA from (hK1.2 2 _ rfl).2).symm.trans (show s.vm.findClass _ = some z.2 from (hK.2 1 _ rfl).2))
  subst ez
  exact kk q H1 (wj_sP (M := [(q, .inl (z.2, N, .inl (fun _ => 0)))]) hP1) (wj_sD (M := [(q, .inl (z.2, N, .inl (fun _ => 0)))]) hD1) hS1
end QR
end
section
/-! the rows of a kind -/
def rW (c : ClassId) (L : Nat) (r : Nat → Nat) (f : Nat → Nat → Int32) (n : Nat) : va_W := (List.range n).map (fun i => (r i, .inl (c, L, .inl (f i))))
theorem rW_len {c : ClassId} {L : Nat} {r : Nat → Nat} {f : Nat → Nat → Int32} {n : Nat} : (rW c L r f n).length = n := by simp [rW]
theorem rW_get {c : ClassId} {L : Nat} {r : Nat → Nat} {f : Nat → Nat → Int32} {n i : Nat} (hi : i < n) : (rW c L r f n)[i]? = some (r i, .inl (c, L, .inl (f i))) := by
  simp [rW, List.getElem?_map, List.getElem?_range hi]
theorem rW_congr {c : ClassId} {L : Nat} {r r' : Nat → Nat} {f f' : Nat → Nat → Int32} {n : Nat} (hr : ∀ i, i < n → r i = r' i) (hf : ∀ i, i < n → f i = f' i) : rW c L r f n = rW c L r' f' n := by
  unfold rW
  apply List.map_congr_left
  intro i hi
  have hi := List.mem_range.mp hi
  rw [hr i hi, hf i hi]
theorem rW_set {c : ClassId} {L : Nat} {r : Nat → Nat} {f : Nat → Nat → Int32} {n i : Nat} (g : Nat → Int32) : (rW c L r f n).set i (r i, .inl (c, L, .inl g)) = rW c L r (fun j => if j = i then g else f j) n := by
  apply List.ext_getElem?
  intro j
  rw [List.getElem?_set]
  by_cases hj : j < n
  · have h1 : (rW c L r (fun j => if j = i then g else f j) n)[j]? = some (r j, .inl (c, L, .inl (if j = i then g else f j))) := rW_get hj
    have h2 : (rW c L r f n)[j]? = some (r j, .inl (c, L, .inl (f j))) := rW_get hj
    rw [h1, h2]
    by_cases e : i = j
    · subst e
      rw [if_pos rfl, if_pos (by rw [rW_len]; exact hj), if_pos rfl]
    · rw [if_neg e, if_neg (Ne.symm e)]
  · have h1 : (rW c L r (fun j => if j = i then g else f j) n)[j]? = none := List.getElem?_eq_none (by rw [rW_len]; omega)
    have h2 : (rW c L r f n)[j]? = none := List.getElem?_eq_none (by rw [rW_len]; omega)
    rw [h1, h2]
    by_cases e : i = j
    · rw [if_pos e, if_neg (by rw [rW_len]; omega)]
    · rw [if_neg e]
theorem rW_succ {c : ClassId} {L : Nat} {r : Nat → Nat} {f : Nat → Nat → Int32} {n : Nat} : rW c L r f (n + 1) = rW c L r f n ++ [(r n, .inl (c, L, .inl (f n)))] := by
  simp [rW, List.range_succ]
def prow (lv lk pu fa he : Nat → Int32) (i j : Nat) : Int32 := if j = 0 then lv i else if j = 1 then lk i else if j = 2 then pu i else if j = 3 then fa i else he i
def wrow (nv du : Nat → Int32) (i j : Nat) : Int32 := if j = 0 then nv i else du i
abbrev qS (r : Nat → Nat) : (Nat → Int32) ⊕ (Nat → Int64) ⊕ (Nat → UInt32) ⊕ (Nat → UInt64) ⊕ (Nat → Option Nat) := .inr (.inr (.inr (.inr (fun i => some (r i)))))
def qT (z : ClassId) (rp rw rm : Nat → Nat) (lv lk pu fa he : Nat → Int32) (n : Nat) (nv du : Nat → Int32) (w : Nat) (mp mi : Nat → Int32) (k : Nat) : va_W := rW z 5 rp (prow lv lk pu fa he) n ++ (rW z 2 rw (wrow nv du) w ++ rW z 2 rm (wrow mp mi) k)
/-- the whole: its object, the outer rows of persons, witnesses, misses, and the rows -/
def qW (z : ClassId × ClassId) (cG : ClassId) (b : Nat → Nat) (rp : Nat → Nat) (rw : Nat → Nat) (rm : Nat → Nat) (lv : Nat → Int32) (lk : Nat → Int32) (pu : Nat → Int32) (fa : Nat → Int32) (he : Nat → Int32) (n : Nat) (nv : Nat → Int32) (du : Nat → Int32) (w : Nat) (mp : Nat → Int32) (mi : Nat → Int32) (k : Nat) (nt : Int32) (fu : Int32) (re : Int32) : va_W :=
  (b 0, .inr (1, [.int nt, .int fu, .int re, .ref (b 1), .ref (b 2), .ref (b 3)])) :: (b 1, .inl (cG, n, qS rp)) :: (b 2, .inl (cG, w, qS rw)) :: (b 3, .inl (cG, k, qS rm)) :: qT z.1 rp rw rm lv lk pu fa he n nv du w mp mi k
def qI (D : va_G) (z : ClassId × ClassId) (cG : ClassId) (Wd : va_W) (U : State) : Prop := va_P D vwCl Wd U.heap ∧ kK D z U ∧ kG cG U
theorem qI.call {D : va_G} {z : ClassId × ClassId} {cG : ClassId} {Wd : va_W} {U : State} {g : JFrame} {mk : MethodId} {a1 : Array Value} (h : qI D z cG Wd U) : qI D z cG Wd (U.calling g mk a1) :=
  ⟨h.1, va_K.moved (u := U) (U := U.calling g mk a1) (Vm.Alike.refl U.vm) h.2.1, kG.moved (u := U) (U := U.calling g mk a1) (Vm.Alike.refl U.vm) h.2.2⟩
theorem qI.into {D : va_G} {z : ClassId × ClassId} {cG : ClassId} {Wd : va_W} {s U : State} {H : Heap} (hK : kK D z s) (hG : kG cG s) (hP : va_P D vwCl Wd H) (hU : U.heap = H) (hW : s.WarmedH U.vm) : qI D z cG Wd U :=
  ⟨by rw [hU]; exact hP, va_K.moved hW.alike hK, kG.moved hW.alike hG⟩
section QW
variable {z : ClassId × ClassId} {cG : ClassId} {M : va_W}
variable {b : Nat → Nat} {rp : Nat → Nat} {rw : Nat → Nat} {rm : Nat → Nat} {lv : Nat → Int32} {lk : Nat → Int32} {pu : Nat → Int32} {fa : Nat → Int32} {he : Nat → Int32} {n : Nat} {nv : Nat → Int32} {du : Nat → Int32} {w : Nat} {mp : Nat → Int32} {mi : Nat → Int32} {k : Nat} {nt : Int32} {fu : Int32} {re : Int32}
theorem qW_p {i : Nat} (hi : i < n) : (qW z cG b rp rw rm lv lk pu fa he n nv du w mp mi k nt fu re ++ M)[4 + i]? = some (rp i, .inl (z.1, 5, .inl (prow lv lk pu fa he i))) := by
  rw [show 4 + i = i + 4 by omega]
  refine wj_lt ?_
  show (qT z.1 rp rw rm lv lk pu fa he n nv du w mp mi k)[i]? = _
  exact wj_lt (rW_get hi)
theorem qW_w {i : Nat} (hi : i < w) : (qW z cG b rp rw rm lv lk pu fa he n nv du w mp mi k nt fu re ++ M)[4 + n + i]? = some (rw i, .inl (z.1, 2, .inl (wrow nv du i))) := by
  rw [show 4 + n + i = (n + i) + 4 by omega]
  refine wj_lt ?_
  show (qT z.1 rp rw rm lv lk pu fa he n nv du w mp mi k)[n + i]? = _
  have h := wj_rt (X := rW z.1 5 rp (prow lv lk pu fa he) n) (wj_lt (M := rW z.1 2 rm (wrow mp mi) k) (rW_get (c := z.1) (L := 2) (r := rw) (f := wrow nv du) hi))
  rw [rW_len] at h
  exact h
theorem qW_m {i : Nat} (hi : i < k) : (qW z cG b rp rw rm lv lk pu fa he n nv du w mp mi k nt fu re ++ M)[4 + n + w + i]? = some (rm i, .inl (z.1, 2, .inl (wrow mp mi i))) := by
  rw [show 4 + n + w + i = (n + (w + i)) + 4 by omega]
  refine wj_lt ?_
  show (qT z.1 rp rw rm lv lk pu fa he n nv du w mp mi k)[n + (w + i)]? = _
  have h := wj_rt (X := rW z.1 2 rw (wrow nv du) w) (rW_get (c := z.1) (L := 2) (r := rm) (f := wrow mp mi) hi)
  have h2 := wj_rt (X := rW z.1 5 rp (prow lv lk pu fa he) n) h
  rw [rW_len, rW_len] at h2
  exact h2
theorem qW_sp {i : Nat} {lv' lk' pu' fa' he' : Nat → Int32} (hi : i < n) (g : Nat → Int32) (hg : g = prow lv' lk' pu' fa' he' i) (h : ∀ j, ¬ j = i → prow lv' lk' pu' fa' he' j = prow lv lk pu fa he j) : (qW z cG b rp rw rm lv lk pu fa he n nv du w mp mi k nt fu re ++ M).set (4 + i) (rp i, .inl (z.1, 5, .inl g)) = qW z cG b rp rw rm lv' lk' pu' fa' he' n nv du w mp mi k nt fu re ++ M := by
  rw [List.set_append_left _ _ (by unfold qW qT; simp only [List.length_cons, List.length_append, rW_len]; omega), show 4 + i = i + 4 by omega]
  congr 1
  show _ :: _ :: _ :: _ :: List.set _ i _ = _ :: _ :: _ :: _ :: _
  congr 4
  unfold qT
  rw [List.set_append_left _ _ (by rw [rW_len]; exact hi), rW_set]
  congr 1
  refine rW_congr (fun _ _ => rfl) (fun j _ => ?_)
  by_cases e : j = i
  · subst e; rw [if_pos rfl, hg]
  · rw [if_neg e, h j e]
theorem qW_sw {i : Nat} {nv' du' : Nat → Int32} (hi : i < w) (g : Nat → Int32) (hg : g = wrow nv' du' i) (h : ∀ j, ¬ j = i → wrow nv' du' j = wrow nv du j) : (qW z cG b rp rw rm lv lk pu fa he n nv du w mp mi k nt fu re ++ M).set (4 + n + i) (rw i, .inl (z.1, 2, .inl g)) = qW z cG b rp rw rm lv lk pu fa he n nv' du' w mp mi k nt fu re ++ M := by
  rw [List.set_append_left _ _ (by unfold qW qT; simp only [List.length_cons, List.length_append, rW_len]; omega), show 4 + n + i = (n + i) + 4 by omega]
  congr 1
  show _ :: _ :: _ :: _ :: List.set _ (n + i) _ = _ :: _ :: _ :: _ :: _
  congr 4
  unfold qT
  rw [List.set_append_right _ _ (by rw [rW_len]; omega), rW_len, Nat.add_sub_cancel_left, List.set_append_left _ _ (by rw [rW_len]; exact hi), rW_set]
  congr 2
  refine rW_congr (fun _ _ => rfl) (fun j _ => ?_)
  by_cases e : j = i
  · subst e; rw [if_pos rfl, hg]
  · rw [if_neg e, h j e]
end QW
theorem prow_0 {lv lk pu fa he : Nat → Int32} {i : Nat} {v : Int32} : upd (prow lv lk pu fa he i) 0 v = prow (upd lv i v) lk pu fa he i := by funext j; unfold upd prow; by_cases h : j = 0 <;> simp [h]
theorem prow_1 {lv lk pu fa he : Nat → Int32} {i : Nat} {v : Int32} : upd (prow lv lk pu fa he i) 1 v = prow lv (upd lk i v) pu fa he i := by funext j; unfold upd prow; by_cases h : j = 1 <;> simp [h]
theorem prow_2 {lv lk pu fa he : Nat → Int32} {i : Nat} {v : Int32} : upd (prow lv lk pu fa he i) 2 v = prow lv lk (upd pu i v) fa he i := by funext j; unfold upd prow; by_cases h : j = 2 <;> simp [h]
theorem prow_3 {lv lk pu fa he : Nat → Int32} {i : Nat} {v : Int32} : upd (prow lv lk pu fa he i) 3 v = prow lv lk pu (upd fa i v) he i := by funext j; unfold upd prow; by_cases h : j = 3 <;> simp [h]
theorem prow_o {a : Nat → Int32} {i j : Nat} {v : Int32} (h : ¬ j = i) : upd a i v j = a j := if_neg h
theorem wrow_0 {nv du : Nat → Int32} {i : Nat} {v : Int32} : upd (wrow nv du i) 0 v = wrow (upd nv i v) du i := by funext j; unfold upd wrow; by_cases h : j = 0 <;> simp [h]
end
section
/-- a row's cell may be told by other contents that are the same at its places -/
theorem ws_extP {D : va_G} {cl : List vw_C} {ws : va_W} {H : Heap} {q0 a L : Nat} {cA : ClassId} {e0 : va_E} {g g' : Nat → Int32} (ha : ws[q0]? = some (a, e0)) (h : ∀ t, t < L → g t = g' t) (hP : va_P D cl (ws.set q0 (a, .inl (cA, L, .inl g))) H) : va_P D cl (ws.set q0 (a, .inl (cA, L, .inl g'))) H := by
  have hl := (List.getElem?_eq_some_iff.mp ha).1
  intro k q hk
  by_cases e : k = q0
  · subst e
    rw [List.getElem?_set_self hl] at hk
    cases hk
    have h1 := hP k (a, .inl (cA, L, .inl g)) (List.getElem?_set_self hl)
    show H[a]? = some (vp_cell cA (L, .inl g'))
    rw [← cell_ext h]
    exact h1
  · rw [List.getElem?_set_ne (Ne.symm e)] at hk
    exact hP k q (by rw [List.getElem?_set_ne (Ne.symm e)]; exact hk)
theorem ws_extD {A : Nat → Prop} {ws : va_W} {q0 : Nat} {p q : Nat × va_E} (h : p.1 = q.1) (hD : va_D A (ws.set q0 p)) : va_D A (ws.set q0 q) := by
  rw [wj_mD] at hD ⊢
  rw [List.map_set] at hD ⊢
  refine ⟨by rw [← h]; exact hD.1, fun x hx => ?_⟩
  rcases List.mem_or_eq_of_mem_set hx with h1 | h1
  · obtain ⟨k, hk⟩ := List.getElem?_of_mem hx
    by_cases e : k = q0
    · subst e
      have hl : k < ws.length := by have := (List.getElem?_eq_some_iff.mp hk).1; rwa [List.length_set] at this
      rw [List.getElem?_set_self hl] at hk
      cases hk
      rw [← h]
      exact hD.2 p (List.mem_of_getElem? (List.getElem?_set_self hl))
    · rw [List.getElem?_set_ne (Ne.symm e)] at hk
      exact hD.2 x (List.mem_of_getElem? (i := k) (by rw [List.getElem?_set_ne (Ne.symm e)]; exact hk))
  · subst h1
    obtain ⟨k, hk⟩ := List.getElem?_of_mem hx
    by_cases hl : q0 < ws.length
    · rw [← h]; exact hD.2 p (List.mem_of_getElem? (List.getElem?_set_self hl))
    · have e1 : ws.set q0 x = ws := List.set_eq_of_length_le (by omega)
      have e2 : ws.set q0 p = ws := List.set_eq_of_length_le (by omega)
      rw [e1] at hx
      rw [e2] at hD
      exact hD.2 x hx
/-! what an instruction does at the registry of rows; F: cells ahead of it, M: behind it -/
section QX
variable {p : Program} {l : Launch} {e : Env} {R : Room} {s : State} {m : MethodId} {args : Array Value} {below : List Frame} {meth : Method} {c : Code} {H : Heap} {locs : List Loc} {cells slots : Nat} {Q : State → Prop} {cc : ByteArray} {nL pc : Nat} {ls : Array Slot} {rest : List Value} {D : va_G} {z : ClassId × ClassId} {cG : ClassId} {A : Nat → Prop} {H0 : Heap} {ws : va_W} {own : String}
variable {F M : va_W}
variable {b : Nat → Nat} {rp : Nat → Nat} {rw : Nat → Nat} {rm : Nat → Nat} {lv : Nat → Int32} {lk : Nat → Int32} {pu : Nat → Int32} {fa : Nat → Int32} {he : Nat → Int32} {n : Nat} {nv : Nat → Int32} {du : Nat → Int32} {w : Nat} {mp : Nat → Int32} {mi : Nat → Int32} {k : Nat} {nt : Int32} {fu : Int32} {re : Int32}
theorem qg_nt {idx : Nat} (hC : CallFix p m c cc nL s args lw_all own) (hK : kK D z s) (hP : va_P D vwCl (F ++ (qW z cG b rp rw rm lv lk pu fa he n nv du w mp mi k nt fu re ++ M)) H) (hk : Cond.fieldLink own idx RX1 "night" "I" ∈ lw_all) (hdg : decode cc pc = .ok (.getfield idx, 3)) (kk : W p l e R s m args below meth c H locs cells slots Q (F0 m (pc + 3) ls (.int nt :: rest))) : W p l e R s m args below meth c H locs cells slots Q (F0 m pc ls (.ref (b 0) :: rest)) := va_get (D := D) (ci := 1) (v := .int nt) (C := RX1) (T := TX1) (N := 6) hC.1 hC.2.1 hC.2.2.2.2 lays_X1 hC.2.2.2.1 hK hP (F.length + 0) (wj_rt (X := F) (k := 0) rfl) rfl 0 (by decide) (hC.2.2.2.2 _ hk) (fun _ h9 => h9) rfl hdg kk
theorem qp_nt {idx : Nat} {nt' : Int32} (hC : CallFix p m c cc nL s args lw_all own) (hK : kK D z s) (hP : va_P D vwCl (F ++ (qW z cG b rp rw rm lv lk pu fa he n nv du w mp mi k nt fu re ++ M)) H) (hD : va_D A (F ++ (qW z cG b rp rw rm lv lk pu fa he n nv du w mp mi k nt fu re ++ M))) (hS : va_S A H0 H locs) (hk : Cond.fieldLink own idx RX1 "night" "I" ∈ lw_all) (hdg : decode cc pc = .ok (.putfield idx, 3)) (kk : ∀ (H1 : Heap) (locs1 : List Loc), va_P D vwCl (F ++ (qW z cG b rp rw rm lv lk pu fa he n nv du w mp mi k nt' fu re ++ M)) H1 → va_D A (F ++ (qW z cG b rp rw rm lv lk pu fa he n nv du w mp mi k nt' fu re ++ M)) → va_S A H0 H1 locs1 → W p l e R s m args below meth c H1 locs1 cells slots Q (F0 m (pc + 3) ls rest)) : W p l e R s m args below meth c H locs cells slots Q (F0 m pc ls (.int nt' :: .ref (b 0) :: rest)) :=
  va_put (D := D) (ci := 1) (v := .int nt') (ty := .int) (C := RX1) (T := TX1) (N := 6) hC.1 hC.2.1 hC.2.2.2.2 lays_X1 tyX1 tyX1_ok nmX1 hC.2.2.2.1 hK hP hD hS (F.length + 0) (wj_rt (X := F) (k := 0) rfl) rfl 0 (by decide) (hC.2.2.2.2 _ hk) (fun _ h9 => h9) rfl (by decide +kernel) rfl rfl (Nat.le_of_ble_eq_true rfl) hdg (fun H1 locs1 hP1 hD1 hS1 => kk H1 locs1 (by rw [wj_set] at hP1; exact hP1) (by rw [wj_set] at hD1; exact hD1) hS1)
theorem qg_fu {idx : Nat} (hC : CallFix p m c cc nL s args lw_all own) (hK : kK D z s) (hP : va_P D vwCl (F ++ (qW z cG b rp rw rm lv lk pu fa he n nv du w mp mi k nt fu re ++ M)) H) (hk : Cond.fieldLink own idx RX1 "fund" "I" ∈ lw_all) (hdg : decode cc pc = .ok (.getfield idx, 3)) (kk : W p l e R s m args below meth c H locs cells slots Q (F0 m (pc + 3) ls (.int fu :: rest))) : W p l e R s m args below meth c H locs cells slots Q (F0 m pc ls (.ref (b 0) :: rest)) := va_get (D := D) (ci := 1) (v := .int fu) (C := RX1) (T := TX1) (N := 6) hC.1 hC.2.1 hC.2.2.2.2 lays_X1 hC.2.2.2.1 hK hP (F.length + 0) (wj_rt (X := F) (k := 0) rfl) rfl 1 (by decide) (hC.2.2.2.2 _ hk) (fun _ h9 => h9) rfl hdg kk
theorem qp_fu {idx : Nat} {fu' : Int32} (hC : CallFix p m c cc nL s args lw_all own) (hK : kK D z s) (hP : va_P D vwCl (F ++ (qW z cG b rp rw rm lv lk pu fa he n nv du w mp mi k nt fu re ++ M)) H) (hD : va_D A (F ++ (qW z cG b rp rw rm lv lk pu fa he n nv du w mp mi k nt fu re ++ M))) (hS : va_S A H0 H locs) (hk : Cond.fieldLink own idx RX1 "fund" "I" ∈ lw_all) (hdg : decode cc pc = .ok (.putfield idx, 3)) (kk : ∀ (H1 : Heap) (locs1 : List Loc), va_P D vwCl (F ++ (qW z cG b rp rw rm lv lk pu fa he n nv du w mp mi k nt fu' re ++ M)) H1 → va_D A (F ++ (qW z cG b rp rw rm lv lk pu fa he n nv du w mp mi k nt fu' re ++ M)) → va_S A H0 H1 locs1 → W p l e R s m args below meth c H1 locs1 cells slots Q (F0 m (pc + 3) ls rest)) : W p l e R s m args below meth c H locs cells slots Q (F0 m pc ls (.int fu' :: .ref (b 0) :: rest)) :=
  va_put (D := D) (ci := 1) (v := .int fu') (ty := .int) (C := RX1) (T := TX1) (N := 6) hC.1 hC.2.1 hC.2.2.2.2 lays_X1 tyX1 tyX1_ok nmX1 hC.2.2.2.1 hK hP hD hS (F.length + 0) (wj_rt (X := F) (k := 0) rfl) rfl 1 (by decide) (hC.2.2.2.2 _ hk) (fun _ h9 => h9) rfl (by decide +kernel) rfl rfl (Nat.le_of_ble_eq_true rfl) hdg (fun H1 locs1 hP1 hD1 hS1 => kk H1 locs1 (by rw [wj_set] at hP1; exact hP1) (by rw [wj_set] at hD1; exact hD1) hS1)
theorem qg_re {idx : Nat} (hC : CallFix p m c cc nL s args lw_all own) (hK : kK D z s) (hP : va_P D vwCl (F ++ (qW z cG b rp rw rm lv lk pu fa he n nv du w mp mi k nt fu re ++ M)) H) (hk : Cond.fieldLink own idx RX1 "refunded" "I" ∈ lw_all) (hdg : decode cc pc = .ok (.getfield idx, 3)) (kk : W p l e R s m args below meth c H locs cells slots Q (F0 m (pc + 3) ls (.int re :: rest))) : W p l e R s m args below meth c H locs cells slots Q (F0 m pc ls (.ref (b 0) :: rest)) := va_get (D := D) (ci := 1) (v := .int re) (C := RX1) (T := TX1) (N := 6) hC.1 hC.2.1 hC.2.2.2.2 lays_X1 hC.2.2.2.1 hK hP (F.length + 0) (wj_rt (X := F) (k := 0) rfl) rfl 2 (by decide) (hC.2.2.2.2 _ hk) (fun _ h9 => h9) rfl hdg kk
theorem qp_re {idx : Nat} {re' : Int32} (hC : CallFix p m c cc nL s args lw_all own) (hK : kK D z s) (hP : va_P D vwCl (F ++ (qW z cG b rp rw rm lv lk pu fa he n nv du w mp mi k nt fu re ++ M)) H) (hD : va_D A (F ++ (qW z cG b rp rw rm lv lk pu fa he n nv du w mp mi k nt fu re ++ M))) (hS : va_S A H0 H locs) (hk : Cond.fieldLink own idx RX1 "refunded" "I" ∈ lw_all) (hdg : decode cc pc = .ok (.putfield idx, 3)) (kk : ∀ (H1 : Heap) (locs1 : List Loc), va_P D vwCl (F ++ (qW z cG b rp rw rm lv lk pu fa he n nv du w mp mi k nt fu re' ++ M)) H1 → va_D A (F ++ (qW z cG b rp rw rm lv lk pu fa he n nv du w mp mi k nt fu re' ++ M)) → va_S A H0 H1 locs1 → W p l e R s m args below meth c H1 locs1 cells slots Q (F0 m (pc + 3) ls rest)) : W p l e R s m args below meth c H locs cells slots Q (F0 m pc ls (.int re' :: .ref (b 0) :: rest)) :=
  va_put (D := D) (ci := 1) (v := .int re') (ty := .int) (C := RX1) (T := TX1) (N := 6) hC.1 hC.2.1 hC.2.2.2.2 lays_X1 tyX1 tyX1_ok nmX1 hC.2.2.2.1 hK hP hD hS (F.length + 0) (wj_rt (X := F) (k := 0) rfl) rfl 2 (by decide) (hC.2.2.2.2 _ hk) (fun _ h9 => h9) rfl (by decide +kernel) rfl rfl (Nat.le_of_ble_eq_true rfl) hdg (fun H1 locs1 hP1 hD1 hS1 => kk H1 locs1 (by rw [wj_set] at hP1; exact hP1) (by rw [wj_set] at hD1; exact hD1) hS1)
theorem qg_ps {idx : Nat} (hC : CallFix p m c cc nL s args lw_all own) (hK : kK D z s) (hP : va_P D vwCl (F ++ (qW z cG b rp rw rm lv lk pu fa he n nv du w mp mi k nt fu re ++ M)) H) (hk : Cond.fieldLink own idx RX1 "persons" "[[I" ∈ lw_all) (hdg : decode cc pc = .ok (.getfield idx, 3)) (kk : W p l e R s m args below meth c H locs cells slots Q (F0 m (pc + 3) ls (.ref (b 1) :: rest))) : W p l e R s m args below meth c H locs cells slots Q (F0 m pc ls (.ref (b 0) :: rest)) := va_get (D := D) (ci := 1) (v := .ref (b 1)) (C := RX1) (T := TX1) (N := 6) hC.1 hC.2.1 hC.2.2.2.2 lays_X1 hC.2.2.2.1 hK hP (F.length + 0) (wj_rt (X := F) (k := 0) rfl) rfl 3 (by decide) (hC.2.2.2.2 _ hk) (fun _ h9 => h9) rfl hdg kk
theorem qg_ws {idx : Nat} (hC : CallFix p m c cc nL s args lw_all own) (hK : kK D z s) (hP : va_P D vwCl (F ++ (qW z cG b rp rw rm lv lk pu fa he n nv du w mp mi k nt fu re ++ M)) H) (hk : Cond.fieldLink own idx RX1 "witnesses" "[[I" ∈ lw_all) (hdg : decode cc pc = .ok (.getfield idx, 3)) (kk : W p l e R s m args below meth c H locs cells slots Q (F0 m (pc + 3) ls (.ref (b 2) :: rest))) : W p l e R s m args below meth c H locs cells slots Q (F0 m pc ls (.ref (b 0) :: rest)) := va_get (D := D) (ci := 1) (v := .ref (b 2)) (C := RX1) (T := TX1) (N := 6) hC.1 hC.2.1 hC.2.2.2.2 lays_X1 hC.2.2.2.1 hK hP (F.length + 0) (wj_rt (X := F) (k := 0) rfl) rfl 4 (by decide) (hC.2.2.2.2 _ hk) (fun _ h9 => h9) rfl hdg kk
theorem qg_ms {idx : Nat} (hC : CallFix p m c cc nL s args lw_all own) (hK : kK D z s) (hP : va_P D vwCl (F ++ (qW z cG b rp rw rm lv lk pu fa he n nv du w mp mi k nt fu re ++ M)) H) (hk : Cond.fieldLink own idx RX1 "misses" "[[I" ∈ lw_all) (hdg : decode cc pc = .ok (.getfield idx, 3)) (kk : W p l e R s m args below meth c H locs cells slots Q (F0 m (pc + 3) ls (.ref (b 3) :: rest))) : W p l e R s m args below meth c H locs cells slots Q (F0 m pc ls (.ref (b 0) :: rest)) := va_get (D := D) (ci := 1) (v := .ref (b 3)) (C := RX1) (T := TX1) (N := 6) hC.1 hC.2.1 hC.2.2.2.2 lays_X1 hC.2.2.2.1 hK hP (F.length + 0) (wj_rt (X := F) (k := 0) rfl) rfl 5 (by decide) (hC.2.2.2.2 _ hk) (fun _ h9 => h9) rfl hdg kk
theorem qlen_p (hC : CallFix p m c cc nL s args lw_all own) (hK : kK D z s) (hP : va_P D vwCl (F ++ (qW z cG b rp rw rm lv lk pu fa he n nv du w mp mi k nt fu re ++ M)) H) (hG : kG cG s) (hdg : decode cc pc = .ok (.arraylength, 1)) (kk : W p l e R s m args below meth c H locs cells slots Q (F0 m (pc + 1) ls (.int (nI n) :: rest))) : W p l e R s m args below meth c H locs cells slots Q (F0 m pc ls (.ref (b 1) :: rest)) := qa_len (q0 := F.length + 1) hC hK hG hP (wj_rt (X := F) (k := 1) rfl) hdg kk
theorem qr_p {x : Int32} (i : Nat) (hC : CallFix p m c cc nL s args lw_all own) (hK : kK D z s) (hP : va_P D vwCl (F ++ (qW z cG b rp rw rm lv lk pu fa he n nv du w mp mi k nt fu re ++ M)) H) (hG : kG cG s) (hx : x = nI i) (hi : i < n) (hn : n < 2 ^ 31) (hdg : decode cc pc = .ok (.aaload, 1)) (kk : W p l e R s m args below meth c H locs cells slots Q (F0 m (pc + 1) ls (.ref (rp i) :: rest))) : W p l e R s m args below meth c H locs cells slots Q (F0 m pc ls (.int x :: .ref (b 1) :: rest)) := qa_ld (q0 := F.length + 1) i hC hG hP (wj_rt (X := F) (k := 1) rfl) hx hi hn rfl hdg kk
theorem qlen_w (hC : CallFix p m c cc nL s args lw_all own) (hK : kK D z s) (hP : va_P D vwCl (F ++ (qW z cG b rp rw rm lv lk pu fa he n nv du w mp mi k nt fu re ++ M)) H) (hG : kG cG s) (hdg : decode cc pc = .ok (.arraylength, 1)) (kk : W p l e R s m args below meth c H locs cells slots Q (F0 m (pc + 1) ls (.int (nI w) :: rest))) : W p l e R s m args below meth c H locs cells slots Q (F0 m pc ls (.ref (b 2) :: rest)) := qa_len (q0 := F.length + 2) hC hK hG hP (wj_rt (X := F) (k := 2) rfl) hdg kk
theorem qr_w {x : Int32} (i : Nat) (hC : CallFix p m c cc nL s args lw_all own) (hK : kK D z s) (hP : va_P D vwCl (F ++ (qW z cG b rp rw rm lv lk pu fa he n nv du w mp mi k nt fu re ++ M)) H) (hG : kG cG s) (hx : x = nI i) (hi : i < w) (hn : w < 2 ^ 31) (hdg : decode cc pc = .ok (.aaload, 1)) (kk : W p l e R s m args below meth c H locs cells slots Q (F0 m (pc + 1) ls (.ref (rw i) :: rest))) : W p l e R s m args below meth c H locs cells slots Q (F0 m pc ls (.int x :: .ref (b 2) :: rest)) := qa_ld (q0 := F.length + 2) i hC hG hP (wj_rt (X := F) (k := 2) rfl) hx hi hn rfl hdg kk
theorem qlen_m (hC : CallFix p m c cc nL s args lw_all own) (hK : kK D z s) (hP : va_P D vwCl (F ++ (qW z cG b rp rw rm lv lk pu fa he n nv du w mp mi k nt fu re ++ M)) H) (hG : kG cG s) (hdg : decode cc pc = .ok (.arraylength, 1)) (kk : W p l e R s m args below meth c H locs cells slots Q (F0 m (pc + 1) ls (.int (nI k) :: rest))) : W p l e R s m args below meth c H locs cells slots Q (F0 m pc ls (.ref (b 3) :: rest)) := qa_len (q0 := F.length + 3) hC hK hG hP (wj_rt (X := F) (k := 3) rfl) hdg kk
theorem qr_m {x : Int32} (i : Nat) (hC : CallFix p m c cc nL s args lw_all own) (hK : kK D z s) (hP : va_P D vwCl (F ++ (qW z cG b rp rw rm lv lk pu fa he n nv du w mp mi k nt fu re ++ M)) H) (hG : kG cG s) (hx : x = nI i) (hi : i < k) (hn : k < 2 ^ 31) (hdg : decode cc pc = .ok (.aaload, 1)) (kk : W p l e R s m args below meth c H locs cells slots Q (F0 m (pc + 1) ls (.ref (rm i) :: rest))) : W p l e R s m args below meth c H locs cells slots Q (F0 m pc ls (.int x :: .ref (b 3) :: rest)) := qa_ld (q0 := F.length + 3) i hC hG hP (wj_rt (X := F) (k := 3) rfl) hx hi hn rfl hdg kk
theorem ql_lv {x : Int32} (i : Nat) (hC : CallFix p m c cc nL s args lw_all own) (hK : kK D z s) (hP : va_P D vwCl (F ++ (qW z cG b rp rw rm lv lk pu fa he n nv du w mp mi k nt fu re ++ M)) H) (hi : i < n) (hx : x = nI 0) (hdg : decode cc pc = .ok (.iaload, 1)) (kk : W p l e R s m args below meth c H locs cells slots Q (F0 m (pc + 1) ls (.int (lv i) :: rest))) : W p l e R s m args below meth c H locs cells slots Q (F0 m pc ls (.int x :: .ref (rp i) :: rest)) := qi_ld (q0 := F.length + (4 + i)) 0 hC hK hP (wj_rt (X := F) (qW_p hi)) hx (by decide) (by decide) hdg kk
theorem qs_lv {x v : Int32} (i : Nat) (hC : CallFix p m c cc nL s args lw_all own) (hK : kK D z s) (hP : va_P D vwCl (F ++ (qW z cG b rp rw rm lv lk pu fa he n nv du w mp mi k nt fu re ++ M)) H) (hD : va_D A (F ++ (qW z cG b rp rw rm lv lk pu fa he n nv du w mp mi k nt fu re ++ M))) (hS : va_S A H0 H locs) (hi : i < n) (hx : x = nI 0) (hdg : decode cc pc = .ok (.iastore, 1)) (kk : ∀ (H1 : Heap) (locs1 : List Loc), va_P D vwCl (F ++ (qW z cG b rp rw rm (upd lv i v) lk pu fa he n nv du w mp mi k nt fu re ++ M)) H1 → va_D A (F ++ (qW z cG b rp rw rm (upd lv i v) lk pu fa he n nv du w mp mi k nt fu re ++ M)) → va_S A H0 H1 locs1 → W p l e R s m args below meth c H1 locs1 cells slots Q (F0 m (pc + 1) ls rest)) : W p l e R s m args below meth c H locs cells slots Q (F0 m pc ls (.int v :: .int x :: .ref (rp i) :: rest)) := by
  have hrow : upd (prow lv lk pu fa he i) 0 v = prow (upd lv i v) lk pu fa he i := by
    exact prow_0
  refine qi_st (q0 := F.length + (4 + i)) (L := 5) 0 hC hK hP hD hS (wj_rt (X := F) (qW_p hi)) hx (by decide) (by decide) hdg (fun H1 locs1 hP1 hD1 hS1 => ?_)
  rw [wj_set, qW_sp hi _ (hrow : _ = prow (upd lv i v) lk pu fa he i) (fun j hj => by funext t; unfold prow; rw [show upd lv i v j = lv j from if_neg hj])] at hP1 hD1
  exact kk H1 locs1 hP1 hD1 hS1
theorem ql_lk {x : Int32} (i : Nat) (hC : CallFix p m c cc nL s args lw_all own) (hK : kK D z s) (hP : va_P D vwCl (F ++ (qW z cG b rp rw rm lv lk pu fa he n nv du w mp mi k nt fu re ++ M)) H) (hi : i < n) (hx : x = nI 1) (hdg : decode cc pc = .ok (.iaload, 1)) (kk : W p l e R s m args below meth c H locs cells slots Q (F0 m (pc + 1) ls (.int (lk i) :: rest))) : W p l e R s m args below meth c H locs cells slots Q (F0 m pc ls (.int x :: .ref (rp i) :: rest)) := qi_ld (q0 := F.length + (4 + i)) 1 hC hK hP (wj_rt (X := F) (qW_p hi)) hx (by decide) (by decide) hdg kk
theorem qs_lk {x v : Int32} (i : Nat) (hC : CallFix p m c cc nL s args lw_all own) (hK : kK D z s) (hP : va_P D vwCl (F ++ (qW z cG b rp rw rm lv lk pu fa he n nv du w mp mi k nt fu re ++ M)) H) (hD : va_D A (F ++ (qW z cG b rp rw rm lv lk pu fa he n nv du w mp mi k nt fu re ++ M))) (hS : va_S A H0 H locs) (hi : i < n) (hx : x = nI 1) (hdg : decode cc pc = .ok (.iastore, 1)) (kk : ∀ (H1 : Heap) (locs1 : List Loc), va_P D vwCl (F ++ (qW z cG b rp rw rm lv (upd lk i v) pu fa he n nv du w mp mi k nt fu re ++ M)) H1 → va_D A (F ++ (qW z cG b rp rw rm lv (upd lk i v) pu fa he n nv du w mp mi k nt fu re ++ M)) → va_S A H0 H1 locs1 → W p l e R s m args below meth c H1 locs1 cells slots Q (F0 m (pc + 1) ls rest)) : W p l e R s m args below meth c H locs cells slots Q (F0 m pc ls (.int v :: .int x :: .ref (rp i) :: rest)) := by
  have hrow : upd (prow lv lk pu fa he i) 1 v = prow lv (upd lk i v) pu fa he i := by
    exact prow_1
  refine qi_st (q0 := F.length + (4 + i)) (L := 5) 1 hC hK hP hD hS (wj_rt (X := F) (qW_p hi)) hx (by decide) (by decide) hdg (fun H1 locs1 hP1 hD1 hS1 => ?_)
  rw [wj_set, qW_sp hi _ (hrow : _ = prow lv (upd lk i v) pu fa he i) (fun j hj => by funext t; unfold prow; rw [show upd lk i v j = lk j from if_neg hj])] at hP1 hD1
  exact kk H1 locs1 hP1 hD1 hS1
theorem ql_pu {x : Int32} (i : Nat) (hC : CallFix p m c cc nL s args lw_all own) (hK : kK D z s) (hP : va_P D vwCl (F ++ (qW z cG b rp rw rm lv lk pu fa he n nv du w mp mi k nt fu re ++ M)) H) (hi : i < n) (hx : x = nI 2) (hdg : decode cc pc = .ok (.iaload, 1)) (kk : W p l e R s m args below meth c H locs cells slots Q (F0 m (pc + 1) ls (.int (pu i) :: rest))) : W p l e R s m args below meth c H locs cells slots Q (F0 m pc ls (.int x :: .ref (rp i) :: rest)) := qi_ld (q0 := F.length + (4 + i)) 2 hC hK hP (wj_rt (X := F) (qW_p hi)) hx (by decide) (by decide) hdg kk
theorem qs_pu {x v : Int32} (i : Nat) (hC : CallFix p m c cc nL s args lw_all own) (hK : kK D z s) (hP : va_P D vwCl (F ++ (qW z cG b rp rw rm lv lk pu fa he n nv du w mp mi k nt fu re ++ M)) H) (hD : va_D A (F ++ (qW z cG b rp rw rm lv lk pu fa he n nv du w mp mi k nt fu re ++ M))) (hS : va_S A H0 H locs) (hi : i < n) (hx : x = nI 2) (hdg : decode cc pc = .ok (.iastore, 1)) (kk : ∀ (H1 : Heap) (locs1 : List Loc), va_P D vwCl (F ++ (qW z cG b rp rw rm lv lk (upd pu i v) fa he n nv du w mp mi k nt fu re ++ M)) H1 → va_D A (F ++ (qW z cG b rp rw rm lv lk (upd pu i v) fa he n nv du w mp mi k nt fu re ++ M)) → va_S A H0 H1 locs1 → W p l e R s m args below meth c H1 locs1 cells slots Q (F0 m (pc + 1) ls rest)) : W p l e R s m args below meth c H locs cells slots Q (F0 m pc ls (.int v :: .int x :: .ref (rp i) :: rest)) := by
  have hrow : upd (prow lv lk pu fa he i) 2 v = prow lv lk (upd pu i v) fa he i := by
    exact prow_2
  refine qi_st (q0 := F.length + (4 + i)) (L := 5) 2 hC hK hP hD hS (wj_rt (X := F) (qW_p hi)) hx (by decide) (by decide) hdg (fun H1 locs1 hP1 hD1 hS1 => ?_)
  rw [wj_set, qW_sp hi _ (hrow : _ = prow lv lk (upd pu i v) fa he i) (fun j hj => by funext t; unfold prow; rw [show upd pu i v j = pu j from if_neg hj])] at hP1 hD1
  exact kk H1 locs1 hP1 hD1 hS1
theorem ql_fa {x : Int32} (i : Nat) (hC : CallFix p m c cc nL s args lw_all own) (hK : kK D z s) (hP : va_P D vwCl (F ++ (qW z cG b rp rw rm lv lk pu fa he n nv du w mp mi k nt fu re ++ M)) H) (hi : i < n) (hx : x = nI 3) (hdg : decode cc pc = .ok (.iaload, 1)) (kk : W p l e R s m args below meth c H locs cells slots Q (F0 m (pc + 1) ls (.int (fa i) :: rest))) : W p l e R s m args below meth c H locs cells slots Q (F0 m pc ls (.int x :: .ref (rp i) :: rest)) := qi_ld (q0 := F.length + (4 + i)) 3 hC hK hP (wj_rt (X := F) (qW_p hi)) hx (by decide) (by decide) hdg kk
theorem qs_fa {x v : Int32} (i : Nat) (hC : CallFix p m c cc nL s args lw_all own) (hK : kK D z s) (hP : va_P D vwCl (F ++ (qW z cG b rp rw rm lv lk pu fa he n nv du w mp mi k nt fu re ++ M)) H) (hD : va_D A (F ++ (qW z cG b rp rw rm lv lk pu fa he n nv du w mp mi k nt fu re ++ M))) (hS : va_S A H0 H locs) (hi : i < n) (hx : x = nI 3) (hdg : decode cc pc = .ok (.iastore, 1)) (kk : ∀ (H1 : Heap) (locs1 : List Loc), va_P D vwCl (F ++ (qW z cG b rp rw rm lv lk pu (upd fa i v) he n nv du w mp mi k nt fu re ++ M)) H1 → va_D A (F ++ (qW z cG b rp rw rm lv lk pu (upd fa i v) he n nv du w mp mi k nt fu re ++ M)) → va_S A H0 H1 locs1 → W p l e R s m args below meth c H1 locs1 cells slots Q (F0 m (pc + 1) ls rest)) : W p l e R s m args below meth c H locs cells slots Q (F0 m pc ls (.int v :: .int x :: .ref (rp i) :: rest)) := by
  have hrow : upd (prow lv lk pu fa he i) 3 v = prow lv lk pu (upd fa i v) he i := by
    exact prow_3
  refine qi_st (q0 := F.length + (4 + i)) (L := 5) 3 hC hK hP hD hS (wj_rt (X := F) (qW_p hi)) hx (by decide) (by decide) hdg (fun H1 locs1 hP1 hD1 hS1 => ?_)
  rw [wj_set, qW_sp hi _ (hrow : _ = prow lv lk pu (upd fa i v) he i) (fun j hj => by funext t; unfold prow; rw [show upd fa i v j = fa j from if_neg hj])] at hP1 hD1
  exact kk H1 locs1 hP1 hD1 hS1
theorem ql_he {x : Int32} (i : Nat) (hC : CallFix p m c cc nL s args lw_all own) (hK : kK D z s) (hP : va_P D vwCl (F ++ (qW z cG b rp rw rm lv lk pu fa he n nv du w mp mi k nt fu re ++ M)) H) (hi : i < n) (hx : x = nI 4) (hdg : decode cc pc = .ok (.iaload, 1)) (kk : W p l e R s m args below meth c H locs cells slots Q (F0 m (pc + 1) ls (.int (he i) :: rest))) : W p l e R s m args below meth c H locs cells slots Q (F0 m pc ls (.int x :: .ref (rp i) :: rest)) := qi_ld (q0 := F.length + (4 + i)) 4 hC hK hP (wj_rt (X := F) (qW_p hi)) hx (by decide) (by decide) hdg kk
theorem qs_he {x v : Int32} (i : Nat) (hC : CallFix p m c cc nL s args lw_all own) (hK : kK D z s) (hP : va_P D vwCl (F ++ (qW z cG b rp rw rm lv lk pu fa he n nv du w mp mi k nt fu re ++ M)) H) (hD : va_D A (F ++ (qW z cG b rp rw rm lv lk pu fa he n nv du w mp mi k nt fu re ++ M))) (hS : va_S A H0 H locs) (hi : i < n) (hx : x = nI 4) (hdg : decode cc pc = .ok (.iastore, 1)) (kk : ∀ (H1 : Heap) (locs1 : List Loc), va_P D vwCl (F ++ (qW z cG b rp rw rm lv lk pu fa (upd he i v) n nv du w mp mi k nt fu re ++ M)) H1 → va_D A (F ++ (qW z cG b rp rw rm lv lk pu fa (upd he i v) n nv du w mp mi k nt fu re ++ M)) → va_S A H0 H1 locs1 → W p l e R s m args below meth c H1 locs1 cells slots Q (F0 m (pc + 1) ls rest)) : W p l e R s m args below meth c H locs cells slots Q (F0 m pc ls (.int v :: .int x :: .ref (rp i) :: rest)) := by
  have hrow : ∀ t : Nat, t < 5 → upd (prow lv lk pu fa he i) 4 v t = prow lv lk pu fa (upd he i v) i t := by
    intro t ht
    unfold upd prow
    simp only [if_true]
    by_cases h9 : t = 4
    · subst h9; simp
    · rw [if_neg h9]; rcases (show t = 0 ∨ t = 1 ∨ t = 2 ∨ t = 3 by omega) with rfl | rfl | rfl | rfl <;> simp
  refine qi_st (q0 := F.length + (4 + i)) (L := 5) 4 hC hK hP hD hS (wj_rt (X := F) (qW_p hi)) hx (by decide) (by decide) hdg (fun H1 locs1 hP1 hD1 hS1 => ?_)
  have hP1 := ws_extP (wj_rt (X := F) (qW_p hi)) hrow hP1
  have hD1 := ws_extD (p := (rp i, .inl (z.1, 5, .inl (upd (prow lv lk pu fa he i) 4 v)))) (q := (rp i, .inl (z.1, 5, .inl (prow lv lk pu fa (upd he i v) i)))) rfl hD1
  rw [wj_set, qW_sp hi (prow lv lk pu fa (upd he i v) i) rfl (fun j hj => by funext t; unfold prow; rw [show upd he i v j = he j from if_neg hj])] at hP1 hD1
  exact kk H1 locs1 hP1 hD1 hS1
theorem ql_nv {x : Int32} (i : Nat) (hC : CallFix p m c cc nL s args lw_all own) (hK : kK D z s) (hP : va_P D vwCl (F ++ (qW z cG b rp rw rm lv lk pu fa he n nv du w mp mi k nt fu re ++ M)) H) (hi : i < w) (hx : x = nI 0) (hdg : decode cc pc = .ok (.iaload, 1)) (kk : W p l e R s m args below meth c H locs cells slots Q (F0 m (pc + 1) ls (.int (nv i) :: rest))) : W p l e R s m args below meth c H locs cells slots Q (F0 m pc ls (.int x :: .ref (rw i) :: rest)) := qi_ld (q0 := F.length + (4 + n + i)) 0 hC hK hP (wj_rt (X := F) (qW_w hi)) hx (by decide) (by decide) hdg kk
theorem qs_nv {x v : Int32} (i : Nat) (hC : CallFix p m c cc nL s args lw_all own) (hK : kK D z s) (hP : va_P D vwCl (F ++ (qW z cG b rp rw rm lv lk pu fa he n nv du w mp mi k nt fu re ++ M)) H) (hD : va_D A (F ++ (qW z cG b rp rw rm lv lk pu fa he n nv du w mp mi k nt fu re ++ M))) (hS : va_S A H0 H locs) (hi : i < w) (hx : x = nI 0) (hdg : decode cc pc = .ok (.iastore, 1)) (kk : ∀ (H1 : Heap) (locs1 : List Loc), va_P D vwCl (F ++ (qW z cG b rp rw rm lv lk pu fa he n (upd nv i v) du w mp mi k nt fu re ++ M)) H1 → va_D A (F ++ (qW z cG b rp rw rm lv lk pu fa he n (upd nv i v) du w mp mi k nt fu re ++ M)) → va_S A H0 H1 locs1 → W p l e R s m args below meth c H1 locs1 cells slots Q (F0 m (pc + 1) ls rest)) : W p l e R s m args below meth c H locs cells slots Q (F0 m pc ls (.int v :: .int x :: .ref (rw i) :: rest)) := by
  have hrow : upd (wrow nv du i) 0 v = wrow (upd nv i v) du i := by
    exact wrow_0
  refine qi_st (q0 := F.length + (4 + n + i)) (L := 2) 0 hC hK hP hD hS (wj_rt (X := F) (qW_w hi)) hx (by decide) (by decide) hdg (fun H1 locs1 hP1 hD1 hS1 => ?_)
  rw [wj_set, qW_sw hi _ (hrow : _ = wrow (upd nv i v) du i) (fun j hj => by funext t; unfold wrow; rw [show upd nv i v j = nv j from if_neg hj])] at hP1 hD1
  exact kk H1 locs1 hP1 hD1 hS1
theorem ql_du {x : Int32} (i : Nat) (hC : CallFix p m c cc nL s args lw_all own) (hK : kK D z s) (hP : va_P D vwCl (F ++ (qW z cG b rp rw rm lv lk pu fa he n nv du w mp mi k nt fu re ++ M)) H) (hi : i < w) (hx : x = nI 1) (hdg : decode cc pc = .ok (.iaload, 1)) (kk : W p l e R s m args below meth c H locs cells slots Q (F0 m (pc + 1) ls (.int (du i) :: rest))) : W p l e R s m args below meth c H locs cells slots Q (F0 m pc ls (.int x :: .ref (rw i) :: rest)) := qi_ld (q0 := F.length + (4 + n + i)) 1 hC hK hP (wj_rt (X := F) (qW_w hi)) hx (by decide) (by decide) hdg kk
theorem qs_du {x v : Int32} (i : Nat) (hC : CallFix p m c cc nL s args lw_all own) (hK : kK D z s) (hP : va_P D vwCl (F ++ (qW z cG b rp rw rm lv lk pu fa he n nv du w mp mi k nt fu re ++ M)) H) (hD : va_D A (F ++ (qW z cG b rp rw rm lv lk pu fa he n nv du w mp mi k nt fu re ++ M))) (hS : va_S A H0 H locs) (hi : i < w) (hx : x = nI 1) (hdg : decode cc pc = .ok (.iastore, 1)) (kk : ∀ (H1 : Heap) (locs1 : List Loc), va_P D vwCl (F ++ (qW z cG b rp rw rm lv lk pu fa he n nv (upd du i v) w mp mi k nt fu re ++ M)) H1 → va_D A (F ++ (qW z cG b rp rw rm lv lk pu fa he n nv (upd du i v) w mp mi k nt fu re ++ M)) → va_S A H0 H1 locs1 → W p l e R s m args below meth c H1 locs1 cells slots Q (F0 m (pc + 1) ls rest)) : W p l e R s m args below meth c H locs cells slots Q (F0 m pc ls (.int v :: .int x :: .ref (rw i) :: rest)) := by
  have hrow : ∀ t : Nat, t < 2 → upd (wrow nv du i) 1 v t = wrow nv (upd du i v) i t := by
    intro t ht
    unfold upd wrow
    simp only [if_true]
    by_cases h9 : t = 1
    · subst h9; simp
    · rw [if_neg h9]; rw [show t = 0 by omega]; simp
  refine qi_st (q0 := F.length + (4 + n + i)) (L := 2) 1 hC hK hP hD hS (wj_rt (X := F) (qW_w hi)) hx (by decide) (by decide) hdg (fun H1 locs1 hP1 hD1 hS1 => ?_)
  have hP1 := ws_extP (wj_rt (X := F) (qW_w hi)) hrow hP1
  have hD1 := ws_extD (p := (rw i, .inl (z.1, 2, .inl (upd (wrow nv du i) 1 v)))) (q := (rw i, .inl (z.1, 2, .inl (wrow nv (upd du i v) i)))) rfl hD1
  rw [wj_set, qW_sw hi (wrow nv (upd du i v) i) rfl (fun j hj => by funext t; unfold wrow; rw [show upd du i v j = du j from if_neg hj])] at hP1 hD1
  exact kk H1 locs1 hP1 hD1 hS1
theorem ql_mp {x : Int32} (i : Nat) (hC : CallFix p m c cc nL s args lw_all own) (hK : kK D z s) (hP : va_P D vwCl (F ++ (qW z cG b rp rw rm lv lk pu fa he n nv du w mp mi k nt fu re ++ M)) H) (hi : i < k) (hx : x = nI 0) (hdg : decode cc pc = .ok (.iaload, 1)) (kk : W p l e R s m args below meth c H locs cells slots Q (F0 m (pc + 1) ls (.int (mp i) :: rest))) : W p l e R s m args below meth c H locs cells slots Q (F0 m pc ls (.int x :: .ref (rm i) :: rest)) := qi_ld (q0 := F.length + (4 + n + w + i)) 0 hC hK hP (wj_rt (X := F) (qW_m hi)) hx (by decide) (by decide) hdg kk
theorem ql_mi {x : Int32} (i : Nat) (hC : CallFix p m c cc nL s args lw_all own) (hK : kK D z s) (hP : va_P D vwCl (F ++ (qW z cG b rp rw rm lv lk pu fa he n nv du w mp mi k nt fu re ++ M)) H) (hi : i < k) (hx : x = nI 1) (hdg : decode cc pc = .ok (.iaload, 1)) (kk : W p l e R s m args below meth c H locs cells slots Q (F0 m (pc + 1) ls (.int (mi i) :: rest))) : W p l e R s m args below meth c H locs cells slots Q (F0 m pc ls (.int x :: .ref (rm i) :: rest)) := qi_ld (q0 := F.length + (4 + n + w + i)) 1 hC hK hP (wj_rt (X := F) (qW_m hi)) hx (by decide) (by decide) hdg kk
theorem q_recv (hK : kK D z s) (hP : va_P D vwCl (F ++ (qW z cG b rp rw rm lv lk pu fa he n nv du w mp mi k nt fu re ++ M)) H) : ∃ cell : Cell, H[b 0]? = some cell ∧ cell.vm.isStatics = false ∧ s.vm.findClass RX1 = some cell.cls :=
  va_recv (q := (RX1, TX1, 6)) hK hP (ci := 1) (q0 := F.length + 0) rfl (show (F ++ (qW z cG b rp rw rm lv lk pu fa he n nv du w mp mi k nt fu re ++ M))[F.length + 0]? = some (b 0, .inr (1, [.int nt, .int fu, .int re, .ref (b 1), .ref (b 2), .ref (b 3)])) from wj_rt (X := F) (k := 0) rfl)
end QX
end
section
set_option maxHeartbeats 4000000 in
set_option maxRecDepth 100000 in
theorem c_X1_price (l : Launch) {D : va_G} {z : ClassId × ClassId} {cG : ClassId} {Wd : va_W} {q0 a9 : Nat} {g9 : Nat → Int32} (ha : Wd[q0]? = some (a9, .inl (z.1, 5, .inl g9)))  : Met l yX1_price (ws_ yX1_price cX1_price 1 (some .int)) ({ frames := 0, cells := 0, slots := 0, locals := 0 } : Room) (va_Pc [.ref a9] (fun U => qI D z cG Wd U)) (vp_Si (fun r : Int32 => r = sp_price (g9 1))) 0 0 (fun _ => False) := by
  refine Met.ofW (cc := cX1_price) (maxL := 1) (ret := (some .int)) (by decide) rfl ?_
  intro p e s m args below meth c s₁ B hml hv
  obtain ⟨rfl, ⟨hP, hK, hG⟩⟩ := hv
  have hx := B.exec
  have hb := B.bytes
  have hr := B.returns
  have hts := atoms_spec (ws := ws_ yX1_price cX1_price 1 (some .int)) B.pre
  have hts : ∀ w ∈ lw_all, w.before _ s = true := fun w h => hts w (List.mem_cons_of_mem _ h)
  have hown : s.vm.findClass RX1 = some m.cls := findClass_of_methodNamed B.named
  have hlocks := B.notSynchronized
  have hC : CallFix p m c cX1_price 1 s _ lw_all RX1 := ⟨hx, hb, hml, hown, hts⟩
  have hl := lv_entry ([.ref a9]) (n := 1) (Nat.le_of_ble_eq_true rfl)
  rw [lg_entry_eq]
  generalize (lg_sl ([.ref a9]) ++ List.replicate (1 - (lg_sl ([.ref a9])).length) Slot.unset).toArray = ls at hl ⊢
  have hl : lv_has ls 1 [(0, .ref a9)] := hl
  refine lv_iconst (v := 5) hx hb dX1_price_0 (by decide) ?_
  refine lv_bipush (v := 99) hx hb dX1_price_1 (by decide) ?_
  refine lv_aload_n hx hb dX1_price_3 rfl (lv_at hl 0 rfl) ?_
  refine lv_iconst (v := 1) hx hb dX1_price_4 (by decide) ?_
  refine qi_ld 1 hC hK hP ha rfl (by decide) (by decide) dX1_price_5 ?_
  refine lv_isub hx hb dX1_price_6 ?_
  refine lv_bipush (v := 10) hx hb dX1_price_7 (by decide) ?_
  refine lv_idiv hx hb dX1_price_9 (by decide) ?_
  refine lv_iadd hx hb dX1_price_10 ?_
  exact W.iret (v := 5 + ((99 - (g9 1)) / 10)) hx hb hr (fun t ht hW => ⟨5 + ((99 - (g9 1)) / 10), rfl, rfl, ht⟩) (fun q hq => absurd hq List.not_mem_nil) dX1_price_11
set_option maxRecDepth 100000 in
theorem k_X1_price {p : Program} {l : Launch} {e : Env} {R : Room} {s : State} {m : MethodId} {args : Array Value} {below : List Frame} {meth : Method} {c : Code} {H : Heap} {locs : List Loc} {cells slots : Nat} {Q : State → Prop} {cc : ByteArray} {nL pc : Nat} {ls : Array Slot} {rest : List Value} {own : String} {D : va_G} {z : ClassId × ClassId} {cG : ClassId} {Wd : va_W} {q0 a9 : Nat} {g9 : Nat → Int32}  {idx : Nat} (hC : CallFix p m c cc nL s args lw_all own) (hk : Cond.methodLink own idx yX1_price ∈ lw_all) (hK : kK D z s) (hG : kG cG s) (hP : va_P D vwCl (Wd) H) (ha : Wd[q0]? = some (a9, .inl (z.1, 5, .inl g9)))  (hl : ls.size = nL) (hR : 1 ≤ R.frames ∧ 20 ≤ R.locals) (hz : cells ≤ R.cells ∧ slots ≤ R.slots) (hr : (rest.map fun v => v.category).sum ≤ 8) (hdg : decode cc pc = .ok (.invokestatic idx, 3)) (kk : W p l e R s m args below meth c H locs cells slots Q (F0 m (pc + 3) ls (.int (sp_price (g9 1)) :: rest))) : W p l e R s m args below meth c H locs cells slots Q (F0 m pc ls (.ref a9 :: rest)) :=
  vp_callSi (W.runS (As := [.ref a9]) (rest := rest) hC (c_X1_price l ha ) (va_cwS 1 hC.2.2.2.2 (gi_S hk mT_X1_price mI_Sim mC_X1_price) rfl rfl rfl (by decide +kernel) hR) ⟨fun a1 U g mk q9 => ⟨q9.1, qI.call q9.2⟩, fun U hU hW => ⟨rfl, qI.into hK hG hP hU hW⟩⟩ rfl rfl hl rfl (lv_room hr) hdg hz) (fun r hr => by rw [hr]; exact kk)
set_option maxHeartbeats 4000000 in
set_option maxRecDepth 100000 in
theorem c_X1_tells (l : Launch) {D : va_G} {z : ClassId × ClassId} {cG : ClassId} {Wd : va_W} {q0 a9 : Nat} {g9 : Nat → Int32} (ha : Wd[q0]? = some (a9, .inl (z.1, 2, .inl g9))) (b : Int32) : Met l yX1_tells (ws_ yX1_tells cX1_tells 3 (some .int)) ({ frames := 0, cells := 0, slots := 0, locals := 0 } : Room) (va_Pc [.ref a9, .int b] (fun U => qI D z cG Wd U)) (vp_Si (fun r : Int32 => r = sp_tale (g9 0) b)) 0 0 (fun _ => False) := by
  refine Met.ofW (cc := cX1_tells) (maxL := 3) (ret := (some .int)) (by decide) rfl ?_
  intro p e s m args below meth c s₁ B hml hv
  obtain ⟨rfl, ⟨hP, hK, hG⟩⟩ := hv
  have hx := B.exec
  have hb := B.bytes
  have hr := B.returns
  have hts := atoms_spec (ws := ws_ yX1_tells cX1_tells 3 (some .int)) B.pre
  have hts : ∀ w ∈ lw_all, w.before _ s = true := fun w h => hts w (List.mem_cons_of_mem _ h)
  have hown : s.vm.findClass RX1 = some m.cls := findClass_of_methodNamed B.named
  have hlocks := B.notSynchronized
  have hC : CallFix p m c cX1_tells 3 s _ lw_all RX1 := ⟨hx, hb, hml, hown, hts⟩
  have hl := lv_entry ([.ref a9, .int b]) (n := 3) (Nat.le_of_ble_eq_true rfl)
  rw [lg_entry_eq]
  generalize (lg_sl ([.ref a9, .int b]) ++ List.replicate (3 - (lg_sl ([.ref a9, .int b])).length) Slot.unset).toArray = ls at hl ⊢
  have hl : lv_has ls 3 [(0, .ref a9), (1, .int b)] := hl
  refine lv_aload_n hx hb dX1_tells_0 rfl (lv_at hl 0 rfl) ?_
  refine lv_iconst (v := 0) hx hb dX1_tells_1 (by decide) ?_
  refine qi_ld 0 hC hK hP ha nI_0.symm (by decide) (by decide) dX1_tells_2 ?_
  refine lv_iconst (v := 3) hx hb dX1_tells_3 (by decide) ?_
  refine lv_icmp_ge (tgt := 9) hx hb dX1_tells_4 (by decide) (fun c_4 => ?_) (fun c_4 => ?_)
  · refine lv_iload_n hx hb dX1_tells_9 rfl (lv_at hl 1 rfl) ?_
    refine lv_bipush (v := 9) hx hb dX1_tells_10 (by decide) ?_
    refine lv_aload_n hx hb dX1_tells_12 rfl (lv_at hl 0 rfl) ?_
    refine lv_iconst (v := 0) hx hb dX1_tells_13 (by decide) ?_
    refine qi_ld 0 hC hK hP ha nI_0.symm (by decide) (by decide) dX1_tells_14 ?_
    refine lv_isub hx hb dX1_tells_15 ?_
    refine lv_iconst (v := 2) hx hb dX1_tells_16 (by decide) ?_
    refine lv_idiv hx hb dX1_tells_17 (by decide) ?_
    refine lv_isub hx hb dX1_tells_18 ?_
    refine lv_istore_n (lv' := [(2, .int (b - ((9 - (g9 0)) / 2))), (0, .ref a9), (1, .int b)]) hx hb dX1_tells_19 rfl hl (by decide) rfl (fun ls hl => ?_)
    refine lv_iload_n hx hb dX1_tells_20 rfl (lv_at hl 0 rfl) ?_
    refine lv_iconst (v := 1) hx hb dX1_tells_21 (by decide) ?_
    refine lv_icmp_ge (tgt := 29) hx hb dX1_tells_22 (by decide) (fun c_22 => ?_) (fun c_22 => ?_)
    · refine lv_iload_n hx hb dX1_tells_29 rfl (lv_at hl 0 rfl) ?_
      exact W.iret (v := b - ((9 - (g9 0)) / 2)) hx hb hr (fun t ht hW => ⟨b - ((9 - (g9 0)) / 2), rfl, (tells_2 c_4 c_22), ht⟩) (fun q hq => absurd hq List.not_mem_nil) dX1_tells_30
    · refine lv_iconst (v := 1) hx hb dX1_tells_25 (by decide) ?_
      refine lv_goto (tgt := 30) hx hb dX1_tells_26 (by decide) ?_
      exact W.iret (v := 1) hx hb hr (fun t ht hW => ⟨1, rfl, (tells_1 c_4 c_22), ht⟩) (fun q hq => absurd hq List.not_mem_nil) dX1_tells_30
  · refine lv_iconst (v := 0) hx hb dX1_tells_7 (by decide) ?_
    exact W.iret (v := 0) hx hb hr (fun t ht hW => ⟨0, rfl, (tells_0 c_4), ht⟩) (fun q hq => absurd hq List.not_mem_nil) dX1_tells_8
set_option maxRecDepth 100000 in
theorem k_X1_tells {p : Program} {l : Launch} {e : Env} {R : Room} {s : State} {m : MethodId} {args : Array Value} {below : List Frame} {meth : Method} {c : Code} {H : Heap} {locs : List Loc} {cells slots : Nat} {Q : State → Prop} {cc : ByteArray} {nL pc : Nat} {ls : Array Slot} {rest : List Value} {own : String} {D : va_G} {z : ClassId × ClassId} {cG : ClassId} {Wd : va_W} {q0 a9 : Nat} {g9 : Nat → Int32} {b : Int32} {idx : Nat} (hC : CallFix p m c cc nL s args lw_all own) (hk : Cond.methodLink own idx yX1_tells ∈ lw_all) (hK : kK D z s) (hG : kG cG s) (hP : va_P D vwCl (Wd) H) (ha : Wd[q0]? = some (a9, .inl (z.1, 2, .inl g9)))  (hl : ls.size = nL) (hR : 1 ≤ R.frames ∧ 22 ≤ R.locals) (hz : cells ≤ R.cells ∧ slots ≤ R.slots) (hr : (rest.map fun v => v.category).sum ≤ 8) (hdg : decode cc pc = .ok (.invokestatic idx, 3)) (kk : W p l e R s m args below meth c H locs cells slots Q (F0 m (pc + 3) ls (.int (sp_tale (g9 0) b) :: rest))) : W p l e R s m args below meth c H locs cells slots Q (F0 m pc ls (.int b :: .ref a9 :: rest)) :=
  vp_callSi (W.runS (As := [.ref a9, .int b]) (rest := rest) hC (c_X1_tells l ha b) (va_cwS 2 hC.2.2.2.2 (gi_S hk mT_X1_tells mI_Sim mC_X1_tells) rfl rfl rfl (by decide +kernel) hR) ⟨fun a1 U g mk q9 => ⟨q9.1, qI.call q9.2⟩, fun U hU hW => ⟨rfl, qI.into hK hG hP hU hW⟩⟩ rfl rfl hl rfl (lv_room hr) hdg hz) (fun r hr => by rw [hr]; exact kk)
set_option maxHeartbeats 4000000 in
set_option maxRecDepth 100000 in
theorem c_X1_shaken (l : Launch) {D : va_G} {z : ClassId × ClassId} {cG : ClassId} {F M : va_W} {b : Nat → Nat} {rp : Nat → Nat} {rw : Nat → Nat} {rm : Nat → Nat} {lv : Nat → Int32} {lk : Nat → Int32} {pu : Nat → Int32} {fa : Nat → Int32} {he : Nat → Int32} {n : Nat} {nv : Nat → Int32} {du : Nat → Int32} {w : Nat} {mp : Nat → Int32} {mi : Nat → Int32} {k : Nat} {nt : Int32} {fu : Int32} {re : Int32} (hw : w ≤ 6) : Met l yX1_shaken (ws_ yX1_shaken cX1_shaken 6 (some .int)) ({ frames := 0, cells := 0, slots := 0, locals := 0 } : Room) (va_Pc [.ref (b 0)] (fun U => qI D z cG (F ++ (qW z cG b rp rw rm lv lk pu fa he n nv du w mp mi k nt fu re ++ M)) U)) (vp_Si (fun r : Int32 => r = sp_shk nv w)) 0 0 (fun _ => False) := by
  refine Met.ofW (cc := cX1_shaken) (maxL := 6) (ret := (some .int)) (by decide) rfl ?_
  intro p e s m args below meth c s₁ B hml hv
  obtain ⟨rfl, ⟨hP, hK, hG⟩⟩ := hv
  have hx := B.exec
  have hb := B.bytes
  have hr := B.returns
  have hts := atoms_spec (ws := ws_ yX1_shaken cX1_shaken 6 (some .int)) B.pre
  have hts : ∀ w ∈ lw_all, w.before _ s = true := fun w h => hts w (List.mem_cons_of_mem _ h)
  have hown : s.vm.findClass RX1 = some m.cls := findClass_of_methodNamed B.named
  have hlocks := B.notSynchronized
  have hC : CallFix p m c cX1_shaken 6 s _ lw_all RX1 := ⟨hx, hb, hml, hown, hts⟩
  have hl := lv_entry ([.ref (b 0)]) (n := 6) (Nat.le_of_ble_eq_true rfl)
  rw [lg_entry_eq]
  generalize (lg_sl ([.ref (b 0)]) ++ List.replicate (6 - (lg_sl ([.ref (b 0)])).length) Slot.unset).toArray = ls at hl ⊢
  have hl : lv_has ls 6 [(0, .ref (b 0))] := hl
  refine lv_iconst (v := 0) hx hb dX1_shaken_0 (by decide) ?_
  refine lv_istore_n (lv' := [(1, .int 0), (0, .ref (b 0))]) hx hb dX1_shaken_1 rfl hl (by decide) rfl (fun ls hl => ?_)
  refine lv_aload_n hx hb dX1_shaken_2 rfl (lv_at hl 1 rfl) ?_
  refine qg_ws hC hK hP mF_X1_15 dX1_shaken_3 ?_
  refine lv_astore_n (lv' := [(2, .ref (b 2)), (1, .int 0), (0, .ref (b 0))]) hx hb dX1_shaken_6 rfl hl (by decide) rfl (fun ls hl => ?_)
  refine lv_aload_n hx hb dX1_shaken_7 rfl (lv_at hl 0 rfl) ?_
  refine qlen_w hC hK hP hG dX1_shaken_8 ?_
  refine lv_istore_n (lv' := [(3, .int (nI w)), (2, .ref (b 2)), (1, .int 0), (0, .ref (b 0))]) hx hb dX1_shaken_9 rfl hl (by decide) rfl (fun ls hl => ?_)
  refine lv_iconst (v := 0) hx hb dX1_shaken_10 (by decide) ?_
  refine lv_istore (lv' := [(4, .int 0), (3, .int (nI w)), (2, .ref (b 2)), (1, .int 0), (0, .ref (b 0))]) hx hb dX1_shaken_11 hl (by decide) rfl (fun ls hl => ?_)
  have loop_13 : ∀ (f : Nat) (j : Nat) (x : Int32), j ≤ w → w + 1 ≤ j + f → x = sp_shk nv j → ∀ ls : Array Slot, lv_has ls 6 [(0, .ref (b 0)), (2, .ref (b 2)), (3, .int (nI w)), (1, .int x), (4, .int (nI j))] → W p l e ({ frames := 0, cells := 0, slots := 0, locals := 0 } : Room) s m ([.ref (b 0)] : List Value).toArray below meth c s.heap [] 0 0 (MQ below (vp_Si (fun r : Int32 => r = sp_shk nv w)) ([.ref (b 0)] : List Value).toArray s 0 0 (fun _ => False)) (F0 m 13 ls []) := by
    intro f
    induction f with
    | zero =>
      intro j x hj hf ex
      exact absurd hf (by omega)
    | succ f ih13 =>
      intro j x hj hf ex ls hl
      refine lv_iload hx hb dX1_shaken_13 (lv_at hl 4 rfl) ?_
      refine lv_iload_n hx hb dX1_shaken_15 rfl (lv_at hl 2 rfl) ?_
      refine lv_icmp_ge (tgt := 42) hx hb dX1_shaken_16 (by decide) (fun c_16 => ?_) (fun c_16 => ?_)
      · have nc_16 : w ≤ j := nn_le (by omega) c_16
        refine lv_iload_n hx hb dX1_shaken_42 rfl (lv_at hl 3 rfl) ?_
        exact W.iret (v := x) hx hb hr (fun t ht hW => ⟨x, rfl, (by rw [ex, show j = w by omega]), ht⟩) (fun q hq => absurd hq List.not_mem_nil) dX1_shaken_43
      · have nc_16 : j < w := nn_nle (by omega) c_16
        refine lv_aload_n hx hb dX1_shaken_19 rfl (lv_at hl 1 rfl) ?_
        refine lv_iload hx hb dX1_shaken_20 (lv_at hl 4 rfl) ?_
        refine qr_w j hC hK hP hG rfl (by first | assumption | omega) (by omega) dX1_shaken_22 ?_
        refine lv_astore (lv' := [(5, .ref (rw j)), (0, .ref (b 0)), (2, .ref (b 2)), (3, .int (nI w)), (1, .int x), (4, .int (nI j))]) hx hb dX1_shaken_23 hl (by decide) rfl (fun ls hl => ?_)
        refine lv_aload hx hb dX1_shaken_25 (lv_at hl 0 rfl) ?_
        refine lv_iconst (v := 0) hx hb dX1_shaken_27 (by decide) ?_
        refine ql_nv j hC hK hP (by first | assumption | omega) nI_0.symm dX1_shaken_28 ?_
        refine lv_iconst (v := 3) hx hb dX1_shaken_29 (by decide) ?_
        refine lv_icmp_ge (tgt := 36) hx hb dX1_shaken_30 (by decide) (fun c_30 => ?_) (fun c_30 => ?_)
        · refine lv_iinc (v := nI (j + 1)) (lv' := [(4, .int (nI (j + 1))), (5, .ref (rw j)), (0, .ref (b 0)), (2, .ref (b 2)), (3, .int (nI w)), (1, .int x)]) hx hb dX1_shaken_36 hl (k := 5) rfl (nI_1 _) (by decide) rfl (fun ls hl => ?_)
          refine lv_goto (tgt := 13) hx hb dX1_shaken_39 (by decide) ?_
          exact ih13 (j + 1) x (by omega) (by omega) (by simp only [sp_shk]; rw [if_pos (sh_0 c_30)]; exact ex) _ (lv_sub hl [2, 3, 4, 5, 0] rfl)
        · refine lv_iinc (v := x + 1) (lv' := [(1, .int (x + 1)), (5, .ref (rw j)), (0, .ref (b 0)), (2, .ref (b 2)), (3, .int (nI w)), (4, .int (nI j))]) hx hb dX1_shaken_33 hl (k := 4) rfl rfl (by decide) rfl (fun ls hl => ?_)
          refine lv_iinc (v := nI (j + 1)) (lv' := [(4, .int (nI (j + 1))), (1, .int (x + 1)), (5, .ref (rw j)), (0, .ref (b 0)), (2, .ref (b 2)), (3, .int (nI w))]) hx hb dX1_shaken_36 hl (k := 5) rfl (nI_1 _) (by decide) rfl (fun ls hl => ?_)
          refine lv_goto (tgt := 13) hx hb dX1_shaken_39 (by decide) ?_
          exact ih13 (j + 1) (x + 1) (by omega) (by omega) (by simp only [sp_shk]; rw [if_neg (by rw [sh_1 c_30]; decide)]; exact congrArg (· + 1) ex) _ (lv_sub hl [3, 4, 5, 1, 0] rfl)
  exact loop_13 (w + 1) 0 0 (Nat.zero_le _) (by omega) rfl _ (lv_sub hl [4, 2, 1, 3, 0] rfl)
set_option maxRecDepth 100000 in
theorem k_X1_shaken {p : Program} {l : Launch} {e : Env} {R : Room} {s : State} {m : MethodId} {args : Array Value} {below : List Frame} {meth : Method} {c : Code} {H : Heap} {locs : List Loc} {cells slots : Nat} {Q : State → Prop} {cc : ByteArray} {nL pc : Nat} {ls : Array Slot} {rest : List Value} {own : String} {D : va_G} {z : ClassId × ClassId} {cG : ClassId} {F M : va_W} {b : Nat → Nat} {rp : Nat → Nat} {rw : Nat → Nat} {rm : Nat → Nat} {lv : Nat → Int32} {lk : Nat → Int32} {pu : Nat → Int32} {fa : Nat → Int32} {he : Nat → Int32} {n : Nat} {nv : Nat → Int32} {du : Nat → Int32} {w : Nat} {mp : Nat → Int32} {mi : Nat → Int32} {k : Nat} {nt : Int32} {fu : Int32} {re : Int32} {idx : Nat} (hC : CallFix p m c cc nL s args lw_all own) (hk : Cond.methodLink own idx yX1_shaken ∈ lw_all) (hK : kK D z s) (hG : kG cG s) (hP : va_P D vwCl (F ++ (qW z cG b rp rw rm lv lk pu fa he n nv du w mp mi k nt fu re ++ M)) H) (hw : w ≤ 6) (hl : ls.size = nL) (hR : 1 ≤ R.frames ∧ 25 ≤ R.locals) (hz : cells ≤ R.cells ∧ slots ≤ R.slots) (hr : (rest.map fun v => v.category).sum ≤ 8) (hdg : decode cc pc = .ok (.invokevirtual idx, 3)) (kk : W p l e R s m args below meth c H locs cells slots Q (F0 m (pc + 3) ls (.int (sp_shk nv w) :: rest))) : W p l e R s m args below meth c H locs cells slots Q (F0 m pc ls (.ref (b 0) :: rest)) :=
  vp_callSi (W.runV (As := []) (rest := rest) hC (c_X1_shaken l hw) (cwV 0 hC.2.2.2.2 (gi_V hk mV_X1_shaken mS_X1_shaken mI_Sim mC_X1_shaken) rfl rfl rfl (by decide +kernel) hR) ⟨fun a1 U g mk q9 => ⟨q9.1, qI.call q9.2⟩, q_recv hK hP, fun U hU hW => ⟨rfl, qI.into hK hG hP hU hW⟩⟩ rfl rfl hl rfl (lv_room hr) hdg hz) (fun r hr => by rw [hr]; exact kk)
end

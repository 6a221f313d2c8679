def k9 (x : Nat) : Nat := if x < 10 then 1 else 2
theorem k9_le (x : Nat) : 1 ≤ k9 x ∧ k9 x ≤ 2 := by unfold k9; split <;> omega
theorem neg_le {x c : Nat} (hx : x < 100) (hc : c ≤ 100) : -nI x ≤ -nI c ↔ c ≤ x := sb_nle (by omega) (by omega)
theorem ss_1 {x : Nat} (hx : x < 100) (h : ¬ -nI x ≤ (-10)) : (1 : Int32) + 0 = nI (k9 x) := by
  have h2 : x < 10 := Nat.lt_of_not_le (fun q => h ((neg_le (c := 10) hx (by omega)).mpr q))
  unfold k9
  rw [if_pos h2]
  rfl
theorem ss_2 {x : Nat} (hx : x < 100) (h : -nI x ≤ (-10)) : (1 : Int32) + 1 + 0 = nI (k9 x) := by
  have h2 : 10 ≤ x := (neg_le (c := 10) hx (by omega)).mp h
  unfold k9
  rw [if_neg (by omega)]
  rfl
theorem ss_3 {x : Nat} (hx : x < 100) : ¬ -nI x ≤ (10 : Int32) * (-10) := fun q => by
  have h2 : 100 ≤ x := (neg_le (c := 100) hx (by omega)).mp (show -nI x ≤ -nI 100 from q)
  omega
theorem gc_1 {x : Nat} (hx : x < 100) : (-100 : Int32) < -nI x := by
  have h := (sb_nlt (a := 100) (b := x) (by omega) (by omega)).mpr hx
  exact h
theorem gc_9 {x : Nat} (hx : x < 100) : (-9 : Int32) ≤ -nI x ↔ x ≤ 9 := sb_nle (a := 9) (b := x) (by omega) (by omega)
/-- the digits of x written in front of place e -/
def dg (x e : Nat) (g : Nat → Int32) : Nat → Int32 := if x < 10 then upd g (e - 1) (nI (48 + x % 10)) else upd (upd g (e - 1) (nI (48 + x % 10))) (e - 1 - 1) (nI (48 + x / 10))
def dgt (x j : Nat) : Int32 := if x < 10 then nI (48 + x % 10) else if j = 0 then nI (48 + x / 10) else nI (48 + x % 10)
theorem dg_lo {x c j : Nat} {g : Nat → Int32} (hj : j < c) : dg x (c + k9 x) g j = g j := by
  unfold dg k9
  by_cases h : x < 10
  · rw [if_pos h, if_pos h]; exact pk_un (by omega)
  · rw [if_neg h, if_neg h, pk_un (by omega), pk_un (by omega)]
theorem dg_at {x c j : Nat} {g : Nat → Int32} (hj : j < k9 x) : dg x (c + k9 x) g (c + j) = dgt x j := by
  unfold dg dgt
  unfold k9 at hj ⊢
  by_cases h : x < 10
  · rw [if_pos h] at hj
    rw [if_pos h, if_pos h, if_pos h, show c + j = c + 1 - 1 by omega]; exact pk_us
  · rw [if_neg h] at hj
    rw [if_neg h, if_neg h, if_neg h]
    by_cases e : j = 0
    · rw [if_pos e, show c + j = c + 2 - 1 - 1 by omega]; exact pk_us
    · rw [if_neg e, show c + j = c + 2 - 1 by omega, pk_un (by omega)]; exact pk_us
theorem dg_fit {x e : Nat} {g : Nat → Int32} (hx : x < 100) (h : sb_Fit g) : sb_Fit (dg x e g) := by
  unfold dg
  split
  · exact sb_fitU h (fb_dig (by omega))
  · exact sb_fitU (sb_fitU h (fb_dig (by omega))) (fb_dig (by omega))

set_option maxHeartbeats 4000000 in
set_option maxRecDepth 100000 in
theorem c_J6_stringSize_0f7a4 (l : Launch) (sz : Nat) {D : va_G} {cB : ClassId}  {Wd : va_W} (x9 : Nat) (hx9 : x9 < 100) : Met l yJ6_stringSize_0f7a4 (ws_ yJ6_stringSize_0f7a4 cJ6_stringSize_0f7a4 4 (some .int)) ({ frames := 0, cells := 0, slots := 0, locals := 0 } : Room) (va_Pc [.int (nI x9)] (fun U => U.heap.size = sz ∧ (va_P D vwCl (Wd) U.heap ∧ va_K D vwCl [(cB, .byte)] U) ∧ va_D (fun _ => True) (Wd) ∧ True)) (va_Qi (fun (r : Int32) (u : Unit) => r = nI (k9 x9)) (fun u t9 => va_P D vwCl (Wd) t9.heap ∧ va_D (va_A (Wd) sz) (Wd)) (va_A (Wd) sz)) 0 0 (va_A (Wd) sz) := by
  refine Met.ofW (cc := cJ6_stringSize_0f7a4) (maxL := 4) (ret := (some .int)) (by decide) rfl ?_
  intro p e s m args below meth c s₁ B hml hv
  obtain ⟨rfl, hsz, ⟨hP, hK⟩, hD0, -⟩ := hv
  have hx := B.exec
  have hb := B.bytes
  have hr := B.returns
  have hts := atoms_spec (ws := ws_ yJ6_stringSize_0f7a4 cJ6_stringSize_0f7a4 4 (some .int)) B.pre
  have hts : ∀ w ∈ lw_all, w.before _ s = true := fun w h => hts w (List.mem_cons_of_mem _ h)
  have hown : s.vm.findClass RJ6 = some m.cls := findClass_of_methodNamed B.named
  have hlocks := B.notSynchronized
  have hC : CallFix p m c cJ6_stringSize_0f7a4 4 s _ lw_all RJ6 := ⟨hx, hb, hml, hown, hts⟩
  subst hsz
  have hD := hD0.self (sz := s.heap.size)
  generalize hAe : va_A (Wd) s.heap.size = A at hD  ⊢
  have hA : ∀ q : Nat, s.heap.size ≤ q → A q := fun q h => by rw [← hAe]; exact Or.inr h
  have hS : va_S A s.heap s.heap [] := va_S.rf
  have hl := lv_entry ([.int (nI x9)]) (n := 4) (Nat.le_of_ble_eq_true rfl)
  rw [lg_entry_eq]
  generalize (lg_sl ([.int (nI x9)]) ++ List.replicate (4 - (lg_sl ([.int (nI x9)])).length) Slot.unset).toArray = ls at hl ⊢
  have hl : lv_has ls 4 [(0, .int (nI x9))] := hl
  obtain ⟨H, hH⟩ : ∃ H : Heap, H = s.heap := ⟨_, rfl⟩
  rw [← hH] at hP
  have hS : va_S A s.heap H [] := by rw [hH]; exact va_S.rf
  rw [← hH]
  refine lv_iconst (v := 1) hx hb dJ6_stringSize_0f7a4_0 (by decide) ?_
  refine lv_istore_n (lv' := [(1, .int 1), (0, .int (nI x9))]) hx hb dJ6_stringSize_0f7a4_1 rfl hl (by decide) rfl (fun ls hl => ?_)
  refine lv_iload_n hx hb dJ6_stringSize_0f7a4_2 rfl (lv_at hl 1 rfl) ?_
  refine lv_if_lt (tgt := 11) hx hb dJ6_stringSize_0f7a4_3 (by decide) (fun c_3 => ?_) (fun c_3 => ?_)
  · exact absurd c_3 (nI_pos (by omega))
  · refine lv_iconst (v := 0) hx hb dJ6_stringSize_0f7a4_6 (by decide) ?_
    refine lv_istore_n (lv' := [(1, .int 0), (0, .int (nI x9))]) hx hb dJ6_stringSize_0f7a4_7 rfl hl (by decide) rfl (fun ls hl => ?_)
    refine lv_iload_n hx hb dJ6_stringSize_0f7a4_8 rfl (lv_at hl 1 rfl) ?_
    refine lv_ineg hx hb dJ6_stringSize_0f7a4_9 ?_
    refine lv_istore_n (lv' := [(0, .int (-(nI x9))), (1, .int 0)]) hx hb dJ6_stringSize_0f7a4_10 rfl hl (by decide) rfl (fun ls hl => ?_)
    refine lv_bipush (v := (-10)) hx hb dJ6_stringSize_0f7a4_11 (by decide) ?_
    refine lv_istore_n (lv' := [(2, .int (-10)), (0, .int (-(nI x9))), (1, .int 0)]) hx hb dJ6_stringSize_0f7a4_13 rfl hl (by decide) rfl (fun ls hl => ?_)
    refine lv_iconst (v := 1) hx hb dJ6_stringSize_0f7a4_14 (by decide) ?_
    refine lv_istore_n (lv' := [(3, .int 1), (2, .int (-10)), (0, .int (-(nI x9))), (1, .int 0)]) hx hb dJ6_stringSize_0f7a4_15 rfl hl (by decide) rfl (fun ls hl => ?_)
    refine lv_iload_n hx hb dJ6_stringSize_0f7a4_16 rfl (lv_at hl 0 rfl) ?_
    refine lv_bipush (v := 10) hx hb dJ6_stringSize_0f7a4_17 (by decide) ?_
    refine lv_icmp_ge (tgt := 42) hx hb dJ6_stringSize_0f7a4_19 (by decide) (fun c_19 => ?_) (fun c_19 => ?_)
    · exact absurd c_19 (by decide)
    · refine lv_iload_n hx hb dJ6_stringSize_0f7a4_22 rfl (lv_at hl 2 rfl) ?_
      refine lv_iload_n hx hb dJ6_stringSize_0f7a4_23 rfl (lv_at hl 1 rfl) ?_
      refine lv_icmp_le (tgt := 31) hx hb dJ6_stringSize_0f7a4_24 (by decide) (fun c_24 => ?_) (fun c_24 => ?_)
      · refine lv_bipush (v := 10) hx hb dJ6_stringSize_0f7a4_31 (by decide) ?_
        refine lv_iload_n hx hb dJ6_stringSize_0f7a4_33 rfl (lv_at hl 1 rfl) ?_
        refine lv_imul hx hb dJ6_stringSize_0f7a4_34 ?_
        refine lv_istore_n (lv' := [(2, .int (10 * (-10))), (3, .int 1), (0, .int (-(nI x9))), (1, .int 0)]) hx hb dJ6_stringSize_0f7a4_35 rfl hl (by decide) rfl (fun ls hl => ?_)
        refine lv_iinc (v := 1 + 1) (lv' := [(3, .int (1 + 1)), (2, .int (10 * (-10))), (0, .int (-(nI x9))), (1, .int 0)]) hx hb dJ6_stringSize_0f7a4_36 hl (k := 1) rfl rfl (by decide) rfl (fun ls hl => ?_)
        refine lv_goto (tgt := 16) hx hb dJ6_stringSize_0f7a4_39 (by decide) ?_
        refine lv_iload_n hx hb dJ6_stringSize_0f7a4_16 rfl (lv_at hl 0 rfl) ?_
        refine lv_bipush (v := 10) hx hb dJ6_stringSize_0f7a4_17 (by decide) ?_
        refine lv_icmp_ge (tgt := 42) hx hb dJ6_stringSize_0f7a4_19 (by decide) (fun c_19' => ?_) (fun c_19' => ?_)
        · exact absurd c_19' (by decide)
        · refine lv_iload_n hx hb dJ6_stringSize_0f7a4_22 rfl (lv_at hl 2 rfl) ?_
          refine lv_iload_n hx hb dJ6_stringSize_0f7a4_23 rfl (lv_at hl 1 rfl) ?_
          refine lv_icmp_le (tgt := 31) hx hb dJ6_stringSize_0f7a4_24 (by decide) (fun c_24' => ?_) (fun c_24' => ?_)
          · exact absurd c_24' (ss_3 hx9)
          · refine lv_iload_n hx hb dJ6_stringSize_0f7a4_27 rfl (lv_at hl 0 rfl) ?_
            refine lv_iload_n hx hb dJ6_stringSize_0f7a4_28 rfl (lv_at hl 3 rfl) ?_
            refine lv_iadd hx hb dJ6_stringSize_0f7a4_29 ?_
            have hP : va_P D vwCl (Wd) H := hP
            have hD : va_D A (Wd) := hD
            exact W.iret (v := (1 + 1) + 0) hx hb hr (fun t ht hW => ⟨⟨(1 + 1) + 0, (), rfl, (ss_2 hx9 c_24), by rw [ht]; exact hP, hD⟩, hS.F ht⟩) hS.2.2 dJ6_stringSize_0f7a4_30
      · refine lv_iload_n hx hb dJ6_stringSize_0f7a4_27 rfl (lv_at hl 0 rfl) ?_
        refine lv_iload_n hx hb dJ6_stringSize_0f7a4_28 rfl (lv_at hl 3 rfl) ?_
        refine lv_iadd hx hb dJ6_stringSize_0f7a4_29 ?_
        have hP : va_P D vwCl (Wd) H := hP
        have hD : va_D A (Wd) := hD
        exact W.iret (v := 1 + 0) hx hb hr (fun t ht hW => ⟨⟨1 + 0, (), rfl, (ss_1 hx9 c_24), by rw [ht]; exact hP, hD⟩, hS.F ht⟩) hS.2.2 dJ6_stringSize_0f7a4_30
set_option maxHeartbeats 4000000 in
set_option maxRecDepth 100000 in
theorem c_J6_getChars_ba4f3 (l : Launch) (sz : Nat) {D : va_G} {cB : ClassId} {t8 : Nat × Nat} {Wd : va_W} {v9 m9 q1 : Nat} {g9 : Nat → Int32} (hv9 : Wd[q1]? = some (v9, .inl (cB, m9, .inl g9))) (x9 e9 : Nat) (hx9 : x9 < 100) (he : k9 x9 ≤ e9) (hem : e9 ≤ m9) (hm9 : m9 < 1000) : Met l yJ6_getChars_ba4f3 (ws_ yJ6_getChars_ba4f3 cJ6_getChars_ba4f3 7 (some .int)) ({ frames := 0, cells := 0, slots := 0, locals := 0 } : Room) (va_Pc [.int (nI x9), .int (nI e9), .ref v9] (fun U => U.heap.size = sz ∧ (va_P D vwCl (Wd) U.heap ∧ va_K D vwCl [(cB, .byte)] U) ∧ va_D (fun _ => True) (Wd) ∧ dH t8 (va_A (Wd) sz) U U.heap)) (va_Qi (fun (r : Int32) (u : Unit) => True) (fun u t9 => va_P D vwCl (Wd.set q1 (v9, .inl (cB, m9, .inl (dg x9 e9 g9)))) t9.heap ∧ va_D (va_A (Wd) sz) (Wd.set q1 (v9, .inl (cB, m9, .inl (dg x9 e9 g9))))) (va_A (Wd) sz)) 0 0 (va_A (Wd) sz) := by
  refine Met.ofW (cc := cJ6_getChars_ba4f3) (maxL := 7) (ret := (some .int)) (by decide) rfl ?_
  intro p e s m args below meth c s₁ B hml hv
  obtain ⟨rfl, hsz, ⟨hP, hK⟩, hD0, hG⟩ := hv
  have hx := B.exec
  have hb := B.bytes
  have hr := B.returns
  have hts := atoms_spec (ws := ws_ yJ6_getChars_ba4f3 cJ6_getChars_ba4f3 7 (some .int)) B.pre
  have hts : ∀ w ∈ lw_all, w.before _ s = true := fun w h => hts w (List.mem_cons_of_mem _ h)
  have hown : s.vm.findClass RJ6 = some m.cls := findClass_of_methodNamed B.named
  have hlocks := B.notSynchronized
  have hC : CallFix p m c cJ6_getChars_ba4f3 7 s _ lw_all RJ6 := ⟨hx, hb, hml, hown, hts⟩
  subst hsz
  have hD := hD0.self (sz := s.heap.size)
  generalize hAe : va_A (Wd) s.heap.size = A at hD hG ⊢
  have hA : ∀ q : Nat, s.heap.size ≤ q → A q := fun q h => by rw [← hAe]; exact Or.inr h
  have hS : va_S A s.heap s.heap [] := va_S.rf
  have hl := lv_entry ([.int (nI x9), .int (nI e9), .ref v9]) (n := 7) (Nat.le_of_ble_eq_true rfl)
  rw [lg_entry_eq]
  generalize (lg_sl ([.int (nI x9), .int (nI e9), .ref v9]) ++ List.replicate (7 - (lg_sl ([.int (nI x9), .int (nI e9), .ref v9])).length) Slot.unset).toArray = ls at hl ⊢
  have hl : lv_has ls 7 [(0, .int (nI x9)), (1, .int (nI e9)), (2, .ref v9)] := hl
  obtain ⟨H, hH⟩ : ∃ H : Heap, H = s.heap := ⟨_, rfl⟩
  rw [← hH] at hP
  have hS : va_S A s.heap H [] := by rw [hH]; exact va_S.rf
  rw [← hH]
  have hk9 := k9_le x9
  refine lv_iload_n hx hb dJ6_getChars_ba4f3_0 rfl (lv_at hl 1 rfl) ?_
  refine lv_istore (lv' := [(5, .int (nI e9)), (0, .int (nI x9)), (1, .int (nI e9)), (2, .ref v9)]) hx hb dJ6_getChars_ba4f3_1 hl (by decide) rfl (fun ls hl => ?_)
  refine lv_iload_n hx hb dJ6_getChars_ba4f3_3 rfl (lv_at hl 1 rfl) ?_
  refine lv_if_ge (tgt := 11) hx hb dJ6_getChars_ba4f3_4 (by decide) (fun c_4 => ?_) (fun c_4 => ?_)
  · refine lv_iconst (v := 0) hx hb dJ6_getChars_ba4f3_11 (by decide) ?_
    refine lv_istore (lv' := [(6, .int 0), (5, .int (nI e9)), (0, .int (nI x9)), (1, .int (nI e9)), (2, .ref v9)]) hx hb dJ6_getChars_ba4f3_12 hl (by decide) rfl (fun ls hl => ?_)
    refine lv_iload hx hb dJ6_getChars_ba4f3_14 (lv_at hl 0 rfl) ?_
    refine lv_if_ne (tgt := 22) hx hb dJ6_getChars_ba4f3_16 (by decide) (fun c_16 => ?_) (fun c_16 => ?_)
    · exact absurd rfl c_16
    · refine lv_iload_n hx hb dJ6_getChars_ba4f3_19 rfl (lv_at hl 2 rfl) ?_
      refine lv_ineg hx hb dJ6_getChars_ba4f3_20 ?_
      refine lv_istore_n (lv' := [(0, .int (-(nI x9))), (6, .int 0), (5, .int (nI e9)), (1, .int (nI e9)), (2, .ref v9)]) hx hb dJ6_getChars_ba4f3_21 rfl hl (by decide) rfl (fun ls hl => ?_)
      refine lv_iload_n hx hb dJ6_getChars_ba4f3_22 rfl (lv_at hl 0 rfl) ?_
      refine lv_bipush (v := (-100)) hx hb dJ6_getChars_ba4f3_23 (by decide) ?_
      refine lv_icmp_gt (tgt := 72) hx hb dJ6_getChars_ba4f3_25 (by decide) (fun c_25 => ?_) (fun c_25 => ?_)
      · refine lv_aload_n hx hb dJ6_getChars_ba4f3_72 rfl (lv_at hl 4 rfl) ?_
        refine lv_iinc (v := nI (e9 - 1)) (lv' := [(5, .int (nI (e9 - 1))), (0, .int (-(nI x9))), (6, .int 0), (1, .int (nI e9)), (2, .ref v9)]) hx hb dJ6_getChars_ba4f3_73 hl (k := 2) rfl (ix_m1 (by omega)) (by decide) rfl (fun ls hl => ?_)
        refine lv_iload hx hb dJ6_getChars_ba4f3_76 (lv_at hl 0 rfl) ?_
        refine va_gets hx hb hG.1 hS hown (hts _ mF_J6_83) (fun _ h9 => h9) dJ6_getChars_ba4f3_78 ?_
        refine lv_iload_n hx hb dJ6_getChars_ba4f3_81 rfl (lv_at hl 1 rfl) ?_
        refine lv_ineg hx hb dJ6_getChars_ba4f3_82 ?_
        rw [show (-(-(nI x9)) : Int32) = nI x9 from neg_neg_nI]
        refine va_tb hx hb hG.2.1 hS (i := nI x9) (v := .int (nI (48 + x9 % 10))) (vp_in_nI (by omega) (by omega)) (by rw [nI_clamp (by omega)]) dJ6_getChars_ba4f3_83 ?_
        refine qb_st (q0 := q1) (L := m9) (g := g9) (e9 - 1) hC hK hP hD hS hv9 rfl (by omega) (by omega) (nb_dig (by omega)) dJ6_getChars_ba4f3_84 (fun H locs hP hD hS => ?_)
        refine lv_iload_n hx hb dJ6_getChars_ba4f3_85 rfl (lv_at hl 1 rfl) ?_
        refine lv_bipush (v := (-9)) hx hb dJ6_getChars_ba4f3_86 (by decide) ?_
        refine lv_icmp_ge (tgt := 104) hx hb dJ6_getChars_ba4f3_88 (by decide) (fun c_88 => ?_) (fun c_88 => ?_)
        · refine lv_iload hx hb dJ6_getChars_ba4f3_104 (lv_at hl 2 rfl) ?_
          refine lv_if_eq (tgt := 118) hx hb dJ6_getChars_ba4f3_106 (by decide) (fun c_106 => ?_) (fun c_106 => ?_)
          · refine lv_iload hx hb dJ6_getChars_ba4f3_118 (lv_at hl 0 rfl) ?_
            have hW9 : upd g9 (e9 - 1) (nI (48 + x9 % 10)) = dg x9 e9 g9 := (if_pos (Nat.lt_succ_of_le ((gc_9 hx9).mp c_88))).symm
            rw [hW9] at hP hD
            have hP : va_P D vwCl (Wd.set q1 (v9, .inl (cB, m9, .inl (dg x9 e9 g9)))) H := hP
            have hD : va_D A (Wd.set q1 (v9, .inl (cB, m9, .inl (dg x9 e9 g9)))) := hD
            exact W.iret (v := nI (e9 - 1)) hx hb hr (fun t ht hW => ⟨⟨nI (e9 - 1), (), rfl, trivial, by rw [ht]; exact hP, hD⟩, hS.F ht⟩) hS.2.2 dJ6_getChars_ba4f3_120
          · exact absurd rfl c_106
        · have h10 : ¬ x9 < 10 := fun q9 => c_88 ((gc_9 hx9).mpr (Nat.le_of_lt_succ q9))
          have he2 : 2 ≤ e9 := by have h9 := he; unfold k9 at h9; rw [if_neg h10] at h9; exact h9
          refine lv_aload_n hx hb dJ6_getChars_ba4f3_91 rfl (lv_at hl 4 rfl) ?_
          refine lv_iinc (v := nI (e9 - 1 - 1)) (lv' := [(5, .int (nI (e9 - 1 - 1))), (0, .int (-(nI x9))), (6, .int 0), (1, .int (nI e9)), (2, .ref v9)]) hx hb dJ6_getChars_ba4f3_92 hl (k := 0) rfl (ix_m1 (by omega)) (by decide) rfl (fun ls hl => ?_)
          refine lv_iload hx hb dJ6_getChars_ba4f3_95 (lv_at hl 0 rfl) ?_
          refine va_gets hx hb hG.2.2.1 hS hown (hts _ mF_J6_87) (fun _ h9 => h9) dJ6_getChars_ba4f3_97 ?_
          refine lv_iload_n hx hb dJ6_getChars_ba4f3_100 rfl (lv_at hl 1 rfl) ?_
          refine lv_ineg hx hb dJ6_getChars_ba4f3_101 ?_
          rw [show (-(-(nI x9)) : Int32) = nI x9 from neg_neg_nI]
          refine va_tb hx hb hG.2.2.2 hS (i := nI x9) (v := .int (nI (48 + x9 / 10))) (vp_in_nI (by omega) (by omega)) (by rw [nI_clamp (by omega)]) dJ6_getChars_ba4f3_102 ?_
          refine qb_st (q0 := q1) (L := m9) (g := (upd g9 (e9 - 1) (nI (48 + x9 % 10)))) (e9 - 1 - 1) hC hK hP hD hS (wd_set hv9) rfl (by omega) (by omega) (nb_dig (by omega)) dJ6_getChars_ba4f3_103 (fun H locs hP hD hS => ?_)
          refine lv_iload hx hb dJ6_getChars_ba4f3_104 (lv_at hl 2 rfl) ?_
          refine lv_if_eq (tgt := 118) hx hb dJ6_getChars_ba4f3_106 (by decide) (fun c_106 => ?_) (fun c_106 => ?_)
          · refine lv_iload hx hb dJ6_getChars_ba4f3_118 (lv_at hl 0 rfl) ?_
            rw [List.set_set] at hP hD
            have hW9 : upd (upd g9 (e9 - 1) (nI (48 + x9 % 10))) (e9 - 1 - 1) (nI (48 + x9 / 10)) = dg x9 e9 g9 := (if_neg (fun q9 => c_88 ((gc_9 hx9).mpr (Nat.le_of_lt_succ q9)))).symm
            rw [hW9] at hP hD
            have hP : va_P D vwCl (Wd.set q1 (v9, .inl (cB, m9, .inl (dg x9 e9 g9)))) H := hP
            have hD : va_D A (Wd.set q1 (v9, .inl (cB, m9, .inl (dg x9 e9 g9)))) := hD
            exact W.iret (v := nI (e9 - 1 - 1)) hx hb hr (fun t ht hW => ⟨⟨nI (e9 - 1 - 1), (), rfl, trivial, by rw [ht]; exact hP, hD⟩, hS.F ht⟩) hS.2.2 dJ6_getChars_ba4f3_120
          · exact absurd rfl c_106
      · exact absurd (gc_1 hx9) c_25
  · exact absurd (nI_pos' (by omega)) c_4
set_option maxHeartbeats 4000000 in
set_option maxRecDepth 100000 in
theorem c_J5_append_c97b9 (l : Launch) (sz : Nat) {D : va_G} {cB : ClassId}  {t8 : Nat × Nat} {b9 v9 c9 m9 : Nat} {g9 : Nat → Int32} (x9 : Nat) (hx9 : x9 < 100) (hm : m9 = 16 ∨ m9 = 34) (hc9 : c9 ≤ m9) (hfit : sb_Fit g9) (hcN : c9 + k9 x9 ≤ 34) : Met l yJ5_append_c97b9 (ws_ yJ5_append_c97b9 cJ5_append_c97b9 4 (some (.object "java/lang/AbstractStringBuilder"))) ({ frames := 4, cells := 1, slots := 34, locals := 91 } : Room) (va_Pc [.ref b9, .int (nI x9)] (fun U => U.heap.size = sz ∧ (va_P D vwCl ([(b9, .inr (3, [.ref v9, .int 0, .int 0, .int (nI c9)])), (v9, .inl (cB, m9, .inl g9))]) U.heap ∧ va_K D vwCl [(cB, .byte)] U) ∧ va_D (fun _ => True) ([(b9, .inr (3, [.ref v9, .int 0, .int 0, .int (nI c9)])), (v9, .inl (cB, m9, .inl g9))]) ∧ jH (va_A ([(b9, .inr (3, [.ref v9, .int 0, .int 0, .int (nI c9)])), (v9, .inl (cB, m9, .inl g9))]) sz) U U.heap ∧ dH t8 (va_A ([(b9, .inr (3, [.ref v9, .int 0, .int 0, .int (nI c9)])), (v9, .inl (cB, m9, .inl g9))]) sz) U U.heap)) (va_Qr (fun u : Nat × Nat × (Nat → Int32) => (u.2.1 = 16 ∨ u.2.1 = 34) ∧ c9 + k9 x9 ≤ u.2.1 ∧ sb_Fit u.2.2 ∧ (∀ j, j < c9 → u.2.2 j = g9 j) ∧ ∀ j, j < k9 x9 → u.2.2 (c9 + j) = dgt x9 j) (fun u ra t9 => va_P D vwCl ([(b9, .inr (3, [.ref u.1, .int 0, .int 0, .int (nI (c9 + k9 x9))])), (u.1, .inl (cB, u.2.1, .inl u.2.2))]) t9.heap ∧ va_D (va_A ([(b9, .inr (3, [.ref v9, .int 0, .int 0, .int (nI c9)])), (v9, .inl (cB, m9, .inl g9))]) sz) ([(b9, .inr (3, [.ref u.1, .int 0, .int 0, .int (nI (c9 + k9 x9))])), (u.1, .inl (cB, u.2.1, .inl u.2.2))]) ∧ ra = b9) (va_A ([(b9, .inr (3, [.ref v9, .int 0, .int 0, .int (nI c9)])), (v9, .inl (cB, m9, .inl g9))]) sz)) 1 34 (va_A ([(b9, .inr (3, [.ref v9, .int 0, .int 0, .int (nI c9)])), (v9, .inl (cB, m9, .inl g9))]) sz) := by
  refine Met.ofW (cc := cJ5_append_c97b9) (maxL := 4) (ret := (some (.object "java/lang/AbstractStringBuilder"))) (by decide) rfl ?_
  intro p e s m args below meth c s₁ B hml hv
  obtain ⟨rfl, hsz, ⟨hP, hK⟩, hD0, ⟨hJ, hG⟩⟩ := hv
  have hx := B.exec
  have hb := B.bytes
  have hr := B.returns
  have hts := atoms_spec (ws := ws_ yJ5_append_c97b9 cJ5_append_c97b9 4 (some (.object "java/lang/AbstractStringBuilder"))) B.pre
  have hts : ∀ w ∈ lw_all, w.before _ s = true := fun w h => hts w (List.mem_cons_of_mem _ h)
  have hown : s.vm.findClass RJ5 = some m.cls := findClass_of_methodNamed B.named
  have hlocks := B.notSynchronized
  have hC : CallFix p m c cJ5_append_c97b9 4 s _ lw_all RJ5 := ⟨hx, hb, hml, hown, hts⟩
  subst hsz
  have hD := hD0.self (sz := s.heap.size)
  generalize hAe : va_A ([(b9, .inr (3, [.ref v9, .int 0, .int 0, .int (nI c9)])), (v9, .inl (cB, m9, .inl g9))]) s.heap.size = A at hD hJ hG ⊢
  have hA : ∀ q : Nat, s.heap.size ≤ q → A q := fun q h => by rw [← hAe]; exact Or.inr h
  have hS : va_S A s.heap s.heap [] := va_S.rf
  have hl := lv_entry ([.ref b9, .int (nI x9)]) (n := 4) (Nat.le_of_ble_eq_true rfl)
  rw [lg_entry_eq]
  generalize (lg_sl ([.ref b9, .int (nI x9)]) ++ List.replicate (4 - (lg_sl ([.ref b9, .int (nI x9)])).length) Slot.unset).toArray = ls at hl ⊢
  have hl : lv_has ls 4 [(0, .ref b9), (1, .int (nI x9))] := hl
  obtain ⟨H, hH⟩ : ∃ H : Heap, H = s.heap := ⟨_, rfl⟩
  rw [← hH] at hP
  have hS : va_S A s.heap H [] := by rw [hH]; exact va_S.rf
  rw [← hH]
  have hk9 := k9_le x9
  refine lv_aload_n hx hb dJ5_append_c97b9_0 rfl (lv_at hl 0 rfl) ?_
  refine va_get (D := D) (ci := 3) (v := .int (nI c9)) (C := RJ4) (T := TJ4) (N := 4) hx hb hts lays_J4 hown hK hP 0 rfl rfl 3 (by decide) (hts _ mF_J5_79) (fun _ h9 => h9) rfl dJ5_append_c97b9_1 ?_
  refine lv_istore_n (lv' := [(2, .int (nI c9)), (0, .ref b9), (1, .int (nI x9))]) hx hb dJ5_append_c97b9_4 rfl hl (by decide) rfl (fun ls hl => ?_)
  refine lv_iload_n hx hb dJ5_append_c97b9_5 rfl (lv_at hl 0 rfl) ?_
  refine lv_iload_n hx hb dJ5_append_c97b9_6 rfl (lv_at hl 2 rfl) ?_
  have hF := wj_F hD hS hA
  refine va_calli (va_runS (As := [.int (nI x9)]) (rest := [.int (nI c9)]) hC (c_J6_stringSize_0f7a4 l H.size x9 hx9) (va_cwS 1 hts (gi_S mM_J5_245 mT_J6_stringSize_0f7a4 mI_Integer mC_J6_stringSize_0f7a4) rfl rfl rfl (by decide +kernel) ⟨Nat.le_of_ble_eq_true rfl, Nat.le_of_ble_eq_true rfl⟩) ⟨fun a1 U g mk q9 => ⟨q9.1, q9.2.1, ⟨q9.2.2.1.1, va_K.moved (u := U) (U := U.calling g mk a1) (Vm.Alike.refl U.vm) q9.2.2.1.2⟩, q9.2.2.2.1, trivial⟩, fun U hU hW => ⟨rfl, by rw [hU], ⟨by rw [hU]; exact hP, va_K.moved hW.alike hK⟩, hD.weaken (fun _ _ _ _ => trivial), trivial⟩⟩ rfl rfl hl.1 rfl (lv_room (Nat.le_of_ble_eq_true rfl)) dJ5_append_c97b9_7 ⟨Nat.zero_le _, Nat.zero_le _⟩) hS (fun q _ h => hF q h) hF (fun r9 u9 t H locs ht hvm hw hB hz1 hk1 hS => ?_)
  obtain ⟨hP, hD⟩ := hB
  rw [ht] at hP
  have hD := hD.weaken (fun _ q9 _ h => hF q9.1 h)
  have hw9 := hw
  rw [hw9]
  refine lv_iadd hx hb dJ5_append_c97b9_10 ?_
  rw [show (nI c9 + nI (k9 x9) : Int32) = nI (c9 + k9 x9) from nI_add c9 (k9 x9)]
  refine lv_istore_n (lv' := [(3, .int (nI (c9 + k9 x9))), (2, .int (nI c9)), (0, .ref b9), (1, .int (nI x9))]) hx hb dJ5_append_c97b9_11 rfl hl (by decide) rfl (fun ls hl => ?_)
  refine lv_aload_n hx hb dJ5_append_c97b9_12 rfl (lv_at hl 2 rfl) ?_
  refine lv_iload_n hx hb dJ5_append_c97b9_13 rfl (lv_at hl 0 rfl) ?_
  have hF := wj_F hD hS hA
  refine va_callv (va_runU (As := [.int (nI (c9 + k9 x9))]) (rest := []) hC (c_J5_ensureCapacityInternal_d00df l H.size (c9 + k9 x9) (by omega) hm hc9 hfit) (va_cwU 1 hts (gi_U mM_J5_100 mE_AbstractStringBuilder___ensureCapacityInternal___I_V mS_J5_ensureCapacityInternal_d00df_StringBuilder mV_J5_ensureCapacityInternal_d00df mI_AbstractStringBuilder mC_J5_ensureCapacityInternal_d00df) rfl rfl rfl rfl (by decide +kernel) ⟨Nat.le_of_ble_eq_true rfl, Nat.le_of_ble_eq_true rfl⟩) ⟨fun a1 U g mk q9 => ⟨q9.1, q9.2.1, ⟨q9.2.2.1.1, va_K.moved (u := U) (U := U.calling g mk a1) (Vm.Alike.refl U.vm) q9.2.2.1.2⟩, q9.2.2.2.1, trivial⟩, va_recv (q := (RJ4, TJ4, 4)) hK hP (ci := 3) (q0 := 0) rfl rfl, fun U hU hW => ⟨rfl, by rw [hU], ⟨by rw [hU]; exact hP, va_K.moved hW.alike hK⟩, hD.weaken (fun _ _ _ _ => trivial), trivial⟩⟩ rfl rfl hl.1 rfl (lv_room (Nat.le_of_ble_eq_true rfl)) dJ5_append_c97b9_14 ⟨(by show _ ≤ 1; omega), (by show _ ≤ 34; omega)⟩) hS (fun q _ h => hF q h) hF (fun u9 t H locs ht hvm hw hB hz1 hk1 hS => ?_)
  obtain ⟨hP, hD⟩ := hB
  rw [ht] at hP
  have hD := hD.weaken (fun _ q9 _ h => hF q9.1 h)
  obtain ⟨v8, m8, g8⟩ := u9
  obtain ⟨hm8, hq8, hfit8, heq8⟩ := hw
  have hP : va_P D vwCl ([(b9, .inr (3, [.ref v8, .int 0, .int 0, .int (nI c9)])), (v8, .inl (cB, m8, .inl g8))]) H := hP
  have hD : va_D A ([(b9, .inr (3, [.ref v8, .int 0, .int 0, .int (nI c9)])), (v8, .inl (cB, m8, .inl g8))]) := hD
  refine lv_aload_n hx hb dJ5_append_c97b9_17 rfl (lv_at hl 2 rfl) ?_
  have hF := wj_F hD hS hA
  refine va_calli (va_runU (As := []) (rest := []) hC (c_J5_isLatin1_aae02 l H.size (q0 := 0) rfl) (va_cwU 0 hts (gi_U mM_J5_83 mE_AbstractStringBuilder___isLatin1___Z mS_J5_isLatin1_aae02_StringBuilder mV_J5_isLatin1_aae02 mI_AbstractStringBuilder mC_J5_isLatin1_aae02) rfl rfl rfl rfl (by decide +kernel) ⟨Nat.le_of_ble_eq_true rfl, Nat.le_of_ble_eq_true rfl⟩) ⟨fun a1 U g mk q9 => ⟨q9.1, q9.2.1, ⟨q9.2.2.1.1, va_K.moved (u := U) (U := U.calling g mk a1) (Vm.Alike.refl U.vm) q9.2.2.1.2⟩, q9.2.2.2.1, jH.moved (u := U) (U := U.calling g mk a1) (Vm.Alike.refl U.vm) q9.2.2.2.2⟩, va_recv (q := (RJ4, TJ4, 4)) hK hP (ci := 3) (q0 := 0) rfl rfl, fun U hU hW => ⟨rfl, by rw [hU], ⟨by rw [hU]; exact hP, va_K.moved hW.alike hK⟩, hD.weaken (fun _ _ _ _ => trivial), (by rw [hU]; exact ((hJ.kept hS.2.1).narrow hF).moved hW.alike)⟩⟩ rfl rfl hl.1 rfl (lv_room (Nat.le_of_ble_eq_true rfl)) dJ5_append_c97b9_18 ⟨(by show _ ≤ 1; omega), (by show _ ≤ 34; omega)⟩) hS (fun q _ h => hF q h) hF (fun r9 u9 t H locs ht hvm hw hB hz1 hk1 hS => ?_)
  obtain ⟨hP, hD⟩ := hB
  rw [ht] at hP
  have hD := hD.weaken (fun _ q9 _ h => hF q9.1 h)
  have hw9 := hw
  rw [hw9]
  refine lv_if_eq (tgt := 37) hx hb dJ5_append_c97b9_21 (by decide) (fun c_21 => ?_) (fun c_21 => ?_)
  · exact absurd c_21 (by decide)
  · refine lv_iload_n hx hb dJ5_append_c97b9_24 rfl (lv_at hl 3 rfl) ?_
    refine lv_iload_n hx hb dJ5_append_c97b9_25 rfl (lv_at hl 0 rfl) ?_
    refine lv_aload_n hx hb dJ5_append_c97b9_26 rfl (lv_at hl 2 rfl) ?_
    refine va_get (D := D) (ci := 3) (v := .ref v8) (C := RJ4) (T := TJ4) (N := 4) hx hb hts lays_J4 hown hK hP 0 rfl rfl 0 (by decide) (hts _ mF_J5_15) (fun _ h9 => h9) rfl dJ5_append_c97b9_27 ?_
    have hF := wj_F hD hS hA
    refine va_calli (va_runS (As := [.int (nI x9), .int (nI (c9 + k9 x9)), .ref v8]) (rest := []) hC (c_J6_getChars_ba4f3 l H.size (q1 := 1) rfl x9 (c9 + k9 x9) hx9 (by omega) hq8 (by omega)) (va_cwS 3 hts (gi_S mM_J5_248 mT_J6_getChars_ba4f3 mI_Integer mC_J6_getChars_ba4f3) rfl rfl rfl (by decide +kernel) ⟨Nat.le_of_ble_eq_true rfl, Nat.le_of_ble_eq_true rfl⟩) ⟨fun a1 U g mk q9 => ⟨q9.1, q9.2.1, ⟨q9.2.2.1.1, va_K.moved (u := U) (U := U.calling g mk a1) (Vm.Alike.refl U.vm) q9.2.2.1.2⟩, q9.2.2.2.1, dH.moved (u := U) (U := U.calling g mk a1) (Vm.Alike.refl U.vm) q9.2.2.2.2⟩, fun U hU hW => ⟨rfl, by rw [hU], ⟨by rw [hU]; exact hP, va_K.moved hW.alike hK⟩, hD.weaken (fun _ _ _ _ => trivial), (by rw [hU]; exact ((hG.kept hS.2.1).narrow hF).moved hW.alike)⟩⟩ rfl rfl hl.1 rfl (lv_room (Nat.le_of_ble_eq_true rfl)) dJ5_append_c97b9_30 ⟨(by show _ ≤ 1; omega), (by show _ ≤ 34; omega)⟩) hS (fun q _ h => hF q h) hF (fun r9 u9 t H locs ht hvm hw hB hz1 hk1 hS => ?_)
    obtain ⟨hP, hD⟩ := hB
    rw [ht] at hP
    have hD := hD.weaken (fun _ q9 _ h => hF q9.1 h)
    have hP : va_P D vwCl ([(b9, .inr (3, [.ref v8, .int 0, .int 0, .int (nI c9)])), (v8, .inl (cB, m8, .inl (dg x9 (c9 + k9 x9) g8)))]) H := hP
    have hD : va_D A ([(b9, .inr (3, [.ref v8, .int 0, .int 0, .int (nI c9)])), (v8, .inl (cB, m8, .inl (dg x9 (c9 + k9 x9) g8)))]) := hD
    refine lv_pop hx hb dJ5_append_c97b9_33 rfl ?_
    refine lv_goto (tgt := 48) hx hb dJ5_append_c97b9_34 (by decide) ?_
    refine lv_aload_n hx hb dJ5_append_c97b9_48 rfl (lv_at hl 2 rfl) ?_
    refine lv_iload_n hx hb dJ5_append_c97b9_49 rfl (lv_at hl 0 rfl) ?_
    refine va_put (D := D) (ci := 3) (v := .int (nI (c9 + k9 x9))) (ty := .int) (C := RJ4) (T := TJ4) (N := 4) hx hb hts lays_J4 tyJ4 tyJ4_ok nmJ4 hown hK hP hD hS 0 rfl rfl 3 (by decide) (hts _ mF_J5_79) (fun _ h9 => h9) rfl (by decide +kernel) rfl rfl (Nat.le_of_ble_eq_true rfl) dJ5_append_c97b9_50 (fun H locs hP hD hS => ?_)
    have hP : va_P D vwCl ([(b9, .inr (3, [.ref v8, .int 0, .int 0, .int (nI (c9 + k9 x9))])), (v8, .inl (cB, m8, .inl (dg x9 (c9 + k9 x9) g8)))]) H := hP
    have hD : va_D A ([(b9, .inr (3, [.ref v8, .int 0, .int 0, .int (nI (c9 + k9 x9))])), (v8, .inl (cB, m8, .inl (dg x9 (c9 + k9 x9) g8)))]) := hD
    refine lv_aload_n hx hb dJ5_append_c97b9_53 rfl (lv_at hl 2 rfl) ?_
    have hP : va_P D vwCl ([(b9, .inr (3, [.ref ((v8, m8, dg x9 (c9 + k9 x9) g8) : Nat × Nat × (Nat → Int32)).1, .int 0, .int 0, .int (nI (c9 + k9 x9))])), (((v8, m8, dg x9 (c9 + k9 x9) g8) : Nat × Nat × (Nat → Int32)).1, .inl (cB, ((v8, m8, dg x9 (c9 + k9 x9) g8) : Nat × Nat × (Nat → Int32)).2.1, .inl ((v8, m8, dg x9 (c9 + k9 x9) g8) : Nat × Nat × (Nat → Int32)).2.2))]) H := hP
    have hD : va_D A ([(b9, .inr (3, [.ref ((v8, m8, dg x9 (c9 + k9 x9) g8) : Nat × Nat × (Nat → Int32)).1, .int 0, .int 0, .int (nI (c9 + k9 x9))])), (((v8, m8, dg x9 (c9 + k9 x9) g8) : Nat × Nat × (Nat → Int32)).1, .inl (cB, ((v8, m8, dg x9 (c9 + k9 x9) g8) : Nat × Nat × (Nat → Int32)).2.1, .inl ((v8, m8, dg x9 (c9 + k9 x9) g8) : Nat × Nat × (Nat → Int32)).2.2))]) := hD
    refine W.widen (k := 1) (n := 34) (by omega) (by omega) ?_
    exact W.aret (v := .ref b9) hx hb hr (by first | exact Or.inl ⟨_, rfl⟩ | exact Or.inr ⟨_, rfl⟩) (Or.inr ⟨_, rfl⟩) (fun t ht hW => ⟨⟨((v8, m8, dg x9 (c9 + k9 x9) g8) : Nat × Nat × (Nat → Int32)), b9, rfl, ⟨hm8, hq8, dg_fit hx9 hfit8, fun j hj => (show dg x9 (c9 + k9 x9) g8 j = g9 j from (dg_lo hj).trans (heq8 j hj)), fun j hj => (show dg x9 (c9 + k9 x9) g8 (c9 + j) = dgt x9 j from dg_at hj)⟩, by rw [ht]; exact hP, hD, rfl⟩, hS.F ht⟩) hS.2.2 dJ5_append_c97b9_54
set_option maxHeartbeats 4000000 in
set_option maxRecDepth 100000 in
theorem c_J4_append_bf812 (l : Launch) (sz : Nat) {D : va_G} {cB : ClassId}  {t8 : Nat × Nat} {b9 v9 c9 m9 : Nat} {g9 : Nat → Int32} (x9 : Nat) (hx9 : x9 < 100) (hm : m9 = 16 ∨ m9 = 34) (hc9 : c9 ≤ m9) (hfit : sb_Fit g9) (hcN : c9 + k9 x9 ≤ 34) : Met l yJ4_append_bf812 (ws_ yJ4_append_bf812 cJ4_append_bf812 2 (some (.object "java/lang/StringBuilder"))) ({ frames := 5, cells := 1, slots := 34, locals := 114 } : Room) (va_Pc [.ref b9, .int (nI x9)] (fun U => U.heap.size = sz ∧ (va_P D vwCl ([(b9, .inr (3, [.ref v9, .int 0, .int 0, .int (nI c9)])), (v9, .inl (cB, m9, .inl g9))]) U.heap ∧ va_K D vwCl [(cB, .byte)] U) ∧ va_D (fun _ => True) ([(b9, .inr (3, [.ref v9, .int 0, .int 0, .int (nI c9)])), (v9, .inl (cB, m9, .inl g9))]) ∧ jH (va_A ([(b9, .inr (3, [.ref v9, .int 0, .int 0, .int (nI c9)])), (v9, .inl (cB, m9, .inl g9))]) sz) U U.heap ∧ dH t8 (va_A ([(b9, .inr (3, [.ref v9, .int 0, .int 0, .int (nI c9)])), (v9, .inl (cB, m9, .inl g9))]) sz) U U.heap)) (va_Qr (fun u : Nat × Nat × (Nat → Int32) => (u.2.1 = 16 ∨ u.2.1 = 34) ∧ c9 + k9 x9 ≤ u.2.1 ∧ sb_Fit u.2.2 ∧ (∀ j, j < c9 → u.2.2 j = g9 j) ∧ ∀ j, j < k9 x9 → u.2.2 (c9 + j) = dgt x9 j) (fun u ra t9 => va_P D vwCl ([(b9, .inr (3, [.ref u.1, .int 0, .int 0, .int (nI (c9 + k9 x9))])), (u.1, .inl (cB, u.2.1, .inl u.2.2))]) t9.heap ∧ va_D (va_A ([(b9, .inr (3, [.ref v9, .int 0, .int 0, .int (nI c9)])), (v9, .inl (cB, m9, .inl g9))]) sz) ([(b9, .inr (3, [.ref u.1, .int 0, .int 0, .int (nI (c9 + k9 x9))])), (u.1, .inl (cB, u.2.1, .inl u.2.2))]) ∧ ra = b9) (va_A ([(b9, .inr (3, [.ref v9, .int 0, .int 0, .int (nI c9)])), (v9, .inl (cB, m9, .inl g9))]) sz)) 1 34 (va_A ([(b9, .inr (3, [.ref v9, .int 0, .int 0, .int (nI c9)])), (v9, .inl (cB, m9, .inl g9))]) sz) := by
  refine Met.ofW (cc := cJ4_append_bf812) (maxL := 2) (ret := (some (.object "java/lang/StringBuilder"))) (by decide) rfl ?_
  intro p e s m args below meth c s₁ B hml hv
  obtain ⟨rfl, hsz, ⟨hP, hK⟩, hD0, ⟨hJ, hG⟩⟩ := hv
  have hx := B.exec
  have hb := B.bytes
  have hr := B.returns
  have hts := atoms_spec (ws := ws_ yJ4_append_bf812 cJ4_append_bf812 2 (some (.object "java/lang/StringBuilder"))) B.pre
  have hts : ∀ w ∈ lw_all, w.before _ s = true := fun w h => hts w (List.mem_cons_of_mem _ h)
  have hown : s.vm.findClass RJ4 = some m.cls := findClass_of_methodNamed B.named
  have hlocks := B.notSynchronized
  have hC : CallFix p m c cJ4_append_bf812 2 s _ lw_all RJ4 := ⟨hx, hb, hml, hown, hts⟩
  subst hsz
  have hD := hD0.self (sz := s.heap.size)
  generalize hAe : va_A ([(b9, .inr (3, [.ref v9, .int 0, .int 0, .int (nI c9)])), (v9, .inl (cB, m9, .inl g9))]) s.heap.size = A at hD hJ hG ⊢
  have hA : ∀ q : Nat, s.heap.size ≤ q → A q := fun q h => by rw [← hAe]; exact Or.inr h
  have hS : va_S A s.heap s.heap [] := va_S.rf
  have hl := lv_entry ([.ref b9, .int (nI x9)]) (n := 2) (Nat.le_of_ble_eq_true rfl)
  rw [lg_entry_eq]
  generalize (lg_sl ([.ref b9, .int (nI x9)]) ++ List.replicate (2 - (lg_sl ([.ref b9, .int (nI x9)])).length) Slot.unset).toArray = ls at hl ⊢
  have hl : lv_has ls 2 [(0, .ref b9), (1, .int (nI x9))] := hl
  obtain ⟨H, hH⟩ : ∃ H : Heap, H = s.heap := ⟨_, rfl⟩
  rw [← hH] at hP
  have hS : va_S A s.heap H [] := by rw [hH]; exact va_S.rf
  rw [← hH]
  refine lv_aload_n hx hb dJ4_append_bf812_0 rfl (lv_at hl 0 rfl) ?_
  refine lv_iload_n hx hb dJ4_append_bf812_1 rfl (lv_at hl 1 rfl) ?_
  have hF := wj_F hD hS hA
  refine va_callr (va_runSU (hK.1 3 _ rfl).2 (As := [.int (nI x9)]) (rest := []) hC (c_J5_append_c97b9 l H.size x9 hx9 hm hc9 hfit hcN) (va_cwSU 1 hts (gi_SU mM_J4_53 mE_AbstractStringBuilder___append___I_Ljava_lang_AbstractStringBuilder mP_StringBuilder__AbstractStringBuilder mV_J5_append_c97b9 mI_AbstractStringBuilder mC_J5_append_c97b9) rfl rfl rfl (by decide +kernel) ⟨Nat.le_of_ble_eq_true rfl, Nat.le_of_ble_eq_true rfl⟩) ⟨fun a1 U g mk q9 => ⟨q9.1, q9.2.1, ⟨q9.2.2.1.1, va_K.moved (u := U) (U := U.calling g mk a1) (Vm.Alike.refl U.vm) q9.2.2.1.2⟩, q9.2.2.2.1, ⟨jH.moved (u := U) (U := U.calling g mk a1) (Vm.Alike.refl U.vm) q9.2.2.2.2.1, dH.moved (u := U) (U := U.calling g mk a1) (Vm.Alike.refl U.vm) q9.2.2.2.2.2⟩⟩, va_recv (q := (RJ4, TJ4, 4)) hK hP (ci := 3) (q0 := 0) rfl rfl, fun U hU hW => ⟨rfl, by rw [hU], ⟨by rw [hU]; exact hP, va_K.moved hW.alike hK⟩, hD.weaken (fun _ _ _ _ => trivial), ⟨by rw [hU]; exact ((hJ.kept hS.2.1).narrow hF).moved hW.alike, by rw [hU]; exact ((hG.kept hS.2.1).narrow hF).moved hW.alike⟩⟩⟩ rfl rfl hl.1 rfl (lv_room (Nat.le_of_ble_eq_true rfl)) dJ4_append_bf812_2 ⟨(by show _ ≤ 1; omega), (by show _ ≤ 34; omega)⟩) hS (fun q _ h => hF q h) hF (fun u9 ra9 t H locs ht hvm hw hB hz1 hk1 hS => ?_)
  obtain ⟨hP, hD, hra⟩ := hB
  rw [ht] at hP
  have hD := hD.weaken (fun _ q9 _ h => hF q9.1 h)
  obtain ⟨v8, m8, g8⟩ := u9
  have hp8 := hw
  have hP : va_P D vwCl ([(b9, .inr (3, [.ref v8, .int 0, .int 0, .int (nI (c9 + k9 x9))])), (v8, .inl (cB, m8, .inl g8))]) H := hP
  have hD : va_D A ([(b9, .inr (3, [.ref v8, .int 0, .int 0, .int (nI (c9 + k9 x9))])), (v8, .inl (cB, m8, .inl g8))]) := hD
  refine lv_pop hx hb dJ4_append_bf812_5 rfl ?_
  refine lv_aload_n hx hb dJ4_append_bf812_6 rfl (lv_at hl 0 rfl) ?_
  have hP : va_P D vwCl ([(b9, .inr (3, [.ref ((v8, m8, g8) : Nat × Nat × (Nat → Int32)).1, .int 0, .int 0, .int (nI (c9 + k9 x9))])), (((v8, m8, g8) : Nat × Nat × (Nat → Int32)).1, .inl (cB, ((v8, m8, g8) : Nat × Nat × (Nat → Int32)).2.1, .inl ((v8, m8, g8) : Nat × Nat × (Nat → Int32)).2.2))]) H := hP
  have hD : va_D A ([(b9, .inr (3, [.ref ((v8, m8, g8) : Nat × Nat × (Nat → Int32)).1, .int 0, .int 0, .int (nI (c9 + k9 x9))])), (((v8, m8, g8) : Nat × Nat × (Nat → Int32)).1, .inl (cB, ((v8, m8, g8) : Nat × Nat × (Nat → Int32)).2.1, .inl ((v8, m8, g8) : Nat × Nat × (Nat → Int32)).2.2))]) := hD
  refine W.widen (k := 1) (n := 34) (by omega) (by omega) ?_
  exact W.aret (v := .ref b9) hx hb hr (by first | exact Or.inl ⟨_, rfl⟩ | exact Or.inr ⟨_, rfl⟩) (Or.inr ⟨_, rfl⟩) (fun t ht hW => ⟨⟨((v8, m8, g8) : Nat × Nat × (Nat → Int32)), b9, rfl, hp8, by rw [ht]; exact hP, hD, rfl⟩, hS.F ht⟩) hS.2.2 dJ4_append_bf812_7

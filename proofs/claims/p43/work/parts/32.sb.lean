theorem sH.at {q t N : Nat} {f : Nat → Int32} {A : Nat → Prop} {s : State} {H : Heap} {locs : List Loc} (h : sH q t N f A s s.heap) (hS : va_S A s.heap H locs) : sH q t N f nA s H := (h.kept hS.2.1).narrow (fun _ q => q.elim)
theorem jH.at {A : Nat → Prop} {s : State} {H : Heap} {locs : List Loc} (h : jH A s s.heap) (hS : va_S A s.heap H locs) : jH nA s H := (h.kept hS.2.1).narrow (fun _ q => q.elim)
/-- the two tables of digits -/
def dH (t8 : Nat × Nat) (A : Nat → Prop) (U : State) (H : Heap) : Prop := va_Z "java/lang/Integer" "DigitOnes" "[B" (.ref t8.1) A U H ∧ va_T .byte t8.1 100 (fun j => .int (nI (48 + j % 10))) A U H ∧ va_Z "java/lang/Integer" "DigitTens" "[B" (.ref t8.2) A U H ∧ va_T .byte t8.2 100 (fun j => .int (nI (48 + j / 10))) A U H
theorem dH.moved {t8 : Nat × Nat} {A : Nat → Prop} {u U : State} {H : Heap} (hvm : u.vm.Alike U.vm) (h : dH t8 A u H) : dH t8 A U H := ⟨va_Z.moved hvm h.1, va_T.moved hvm h.2.1, va_Z.moved hvm h.2.2.1, va_T.moved hvm h.2.2.2⟩
theorem dH.kept {t8 : Nat × Nat} {A : Nat → Prop} {U : State} {H H1 : Heap} (h : dH t8 A U H) (hq : ∀ a : Nat, a < H.size → ¬ A a → H1[a]? = H[a]?) : dH t8 A U H1 := ⟨h.1.kept hq, h.2.1.kept hq, h.2.2.1.kept hq, h.2.2.2.kept hq⟩
theorem dH.narrow {t8 : Nat × Nat} {A B : Nat → Prop} {U : State} {H : Heap} (h : dH t8 A U H) (hAB : ∀ q, B q → A q) : dH t8 B U H := ⟨h.1.narrow hAB, h.2.1.narrow hAB, h.2.2.1.narrow hAB, h.2.2.2.narrow hAB⟩
theorem wd_set {Wd : va_W} {q0 : Nat} {x y : Nat × va_E} (h : Wd[q0]? = some x) : (Wd.set q0 y)[q0]? = some y := List.getElem?_set_self (List.getElem?_eq_some_iff.mp h).1
section QB
variable {p : Program} {l : Launch} {e : Env} {R : Room} {s : State} {m : MethodId} {args : Array Value} {below : List Frame} {meth : Method} {c : Code} {H : Heap} {locs : List Loc} {cells slots : Nat} {Q : State → Prop} {cc : ByteArray} {nL pc : Nat} {ls : Array Slot} {rest : List Value} {D : va_G} {z : ClassId × ClassId} {cG : ClassId} {A : Nat → Prop} {H0 : Heap} {ws : va_W} {own : String}
variable {cB : ClassId}
theorem qn_b (hC : CallFix p m c cc nL s args lw_all own) (hK : va_K D vwCl [(cB, .byte)] s) (hP : va_P D vwCl ws H) (hD : va_D A ws) (hS : va_S A H0 H locs) (hA : ∀ q, H0.size ≤ q → A q) {n : Int32} {N : Nat} (hn : n = nI N) (hN : N ≤ 1000) (hcells : cells + 1 ≤ R.cells) (hslots : slots + N ≤ R.slots) (hdg : decode cc pc = .ok (.newarray .byte, 2))
    (kk : ∀ (q : Nat) (H1 : Heap), va_P D vwCl ((q, .inl (cB, N, .inl (fun _ => 0))) :: ws) H1 → va_D A ((q, .inl (cB, N, .inl (fun _ => 0))) :: ws) → va_S A H0 H1 locs → W p l e R s m args below meth c H1 locs (cells + 1) (slots + N) Q (F0 m (pc + 2) ls (.ref q :: rest))) : W p l e R s m args below meth c H locs cells slots Q (F0 m pc ls (.int n :: rest)) := by
  have hcl : n.toNatClampNeg = N := by rw [hn]; exact nI_clamp (by omega)
  refine va_newa (atype := .byte) (ty := .byte) (N' := N) (a0 := (N, .inl (fun _ => 0))) hC.1 hC.2.1 (hC.2.2.2.2 _ mA_byte) rfl hK hP hD hS hA (fun _ => rfl) (by rw [hn]; exact nI_pos (by omega)) hcl (by show N * 1 ≤ _; omega) hcells hslots hdg (fun q cA H1 hK1 hP1 hD1 hS1 => ?_)
  have ez : cA = cB := Option.some.inj ((show s.vm.findClass _ = some cA from (hK1.2 1 _ rfl).2).symm.trans (show s.vm.findClass _ = some cB from (hK.2 0 _ rfl).2))
  subst ez
  exact kk q H1 (wj_sP (M := [(q, .inl (cA, N, .inl (fun _ => 0)))]) hP1) (wj_sD (M := [(q, .inl (cA, N, .inl (fun _ => 0)))]) hD1) hS1
theorem qb_st {a L q0 : Nat} {g : Nat → Int32} {i v : Int32} (j : Nat) (hC : CallFix p m c cc nL s args lw_all own) (hK : va_K D vwCl [(cB, .byte)] s) (hP : va_P D vwCl ws H) (hD : va_D A ws) (hS : va_S A H0 H locs) (ha : ws[q0]? = some (a, .inl (cB, L, .inl g))) (hi : i = nI j) (hj : j < L) (hL : L < 2 ^ 31) (hn : vp_nar .byte v = v) (hdg : decode cc pc = .ok (.bastore, 1))
    (kk : ∀ (H1 : Heap) (locs1 : List Loc), va_P D vwCl (ws.set q0 (a, .inl (cB, L, .inl (upd g j v)))) H1 → va_D A (ws.set q0 (a, .inl (cB, L, .inl (upd g j v)))) → va_S A H0 H1 locs1 → W p l e R s m args below meth c H1 locs1 cells slots Q (F0 m (pc + 1) ls rest)) : W p l e R s m args below meth c H locs cells slots Q (F0 m pc ls (.int v :: .int i :: .ref a :: rest)) := by
  subst hi
  refine va_bast (D := D) hC.1 hC.2.1 hK hP hD hS q0 0 (n := L) (f := g) ha rfl (vp_in_nI hj hL) hdg ?_
  rw [nI_clamp (by omega), hn]
  exact kk
end QB
theorem nb_dig {x : Nat} (h : x < 128) : vp_nar .byte (nI x) = nI x := by
  have hh : ∀ n, n < 128 → vp_nar .byte (nI n) = nI n := by
    intro n hn
    rw [vp_nar_byte]
    exact (by decide +kernel : ∀ n, n < 128 → (nI n).toInt8.toInt32 = nI n) n hn
  exact hh x h
theorem fb_dig {x : Nat} (h : x < 128) : fits .byte (.int (nI x)) = true := by
  have e := nb_dig h
  rw [vp_nar_byte] at e
  rw [← e]
  exact pk_fb _
theorem sub_le0 {a b : Nat} (ha : a < 1000) (hb : b < 1000) : nI a - nI b ≤ 0 ↔ a ≤ b := by
  rw [Int32.le_iff_toInt_le, pk_sub_toInt (by omega) (by omega), t_0]
  omega
theorem neg_toInt {x : Nat} (h : x < 100) : (-nI x).toInt = -(x : Int) := sb_negT (by omega)
theorem neg_neg_nI {x : Nat} : -(-nI x) = nI x := by grind

set_option maxHeartbeats 4000000 in
set_option maxRecDepth 100000 in
theorem c_J8_newLength_cabcc (l : Launch) (sz : Nat) {D : va_G} {cB : ClassId}  {Wd : va_W} (e9 : Nat) (he : e9 ≤ 18) : Met l yJ8_newLength_cabcc (ws_ yJ8_newLength_cabcc cJ8_newLength_cabcc 4 (some .int)) ({ frames := 1, cells := 0, slots := 0, locals := 21 } : Room) (va_Pc [.int 16, .int (nI e9), .int 18] (fun U => U.heap.size = sz ∧ (va_P D vwCl (Wd) U.heap ∧ va_K D vwCl [(cB, .byte)] U) ∧ va_D (fun _ => True) (Wd) ∧ True)) (va_Qi (fun (r : Int32) (u : Unit) => r = 34) (fun u t9 => va_P D vwCl (Wd) t9.heap ∧ va_D (va_A (Wd) sz) (Wd)) (va_A (Wd) sz)) 0 0 (va_A (Wd) sz) := by
  refine Met.ofW (cc := cJ8_newLength_cabcc) (maxL := 4) (ret := (some .int)) (by decide) rfl ?_
  intro p e s m args below meth c s₁ B hml hv
  obtain ⟨rfl, hsz, ⟨hP, hK⟩, hD0, -⟩ := hv
  have hx := B.exec
  have hb := B.bytes
  have hr := B.returns
  have hts := atoms_spec (ws := ws_ yJ8_newLength_cabcc cJ8_newLength_cabcc 4 (some .int)) B.pre
  have hts : ∀ w ∈ lw_all, w.before _ s = true := fun w h => hts w (List.mem_cons_of_mem _ h)
  have hown : s.vm.findClass RJ8 = some m.cls := findClass_of_methodNamed B.named
  have hlocks := B.notSynchronized
  have hC : CallFix p m c cJ8_newLength_cabcc 4 s _ lw_all RJ8 := ⟨hx, hb, hml, hown, hts⟩
  subst hsz
  have hD := hD0.self (sz := s.heap.size)
  generalize hAe : va_A (Wd) s.heap.size = A at hD  ⊢
  have hA : ∀ q : Nat, s.heap.size ≤ q → A q := fun q h => by rw [← hAe]; exact Or.inr h
  have hS : va_S A s.heap s.heap [] := va_S.rf
  have hl := lv_entry ([.int 16, .int (nI e9), .int 18]) (n := 4) (Nat.le_of_ble_eq_true rfl)
  rw [lg_entry_eq]
  generalize (lg_sl ([.int 16, .int (nI e9), .int 18]) ++ List.replicate (4 - (lg_sl ([.int 16, .int (nI e9), .int 18])).length) Slot.unset).toArray = ls at hl ⊢
  have hl : lv_has ls 4 [(0, .int 16), (1, .int (nI e9)), (2, .int 18)] := hl
  obtain ⟨H, hH⟩ : ∃ H : Heap, H = s.heap := ⟨_, rfl⟩
  rw [← hH] at hP
  have hS : va_S A s.heap H [] := by rw [hH]; exact va_S.rf
  rw [← hH]
  refine lv_iload_n hx hb dJ8_newLength_cabcc_0 rfl (lv_at hl 0 rfl) ?_
  refine lv_iload_n hx hb dJ8_newLength_cabcc_1 rfl (lv_at hl 1 rfl) ?_
  refine lv_iload_n hx hb dJ8_newLength_cabcc_2 rfl (lv_at hl 2 rfl) ?_
  refine va_mmax hx hb (hml.trans hl.1.symm) hown (hts _ mM_J8_194) (hts _ mT_max) (hts _ mI_Math) (hts _ mC_max) (Nat.le_of_ble_eq_true rfl) (Nat.le_of_ble_eq_true rfl) (Nat.zero_le _) (Nat.zero_le _) dJ8_newLength_cabcc_3 ?_
  rw [show (if (nI e9) < (18 : Int32) then (18 : Int32) else (nI e9) : Int32) = 18 from (by
        by_cases c : nI e9 < 18
        · rw [if_pos c]
        · rw [if_neg c]
          have h : ¬ e9 < 18 := fun q => c (nI_lt (b := 18) q (by omega))
          rw [show e9 = 18 by omega]; rfl)]
  refine lv_iadd hx hb dJ8_newLength_cabcc_6 ?_
  refine lv_istore_n (lv' := [(3, .int (16 + 18)), (0, .int 16), (1, .int (nI e9)), (2, .int 18)]) hx hb dJ8_newLength_cabcc_7 rfl hl (by decide) rfl (fun ls hl => ?_)
  refine lv_iconst (v := 0) hx hb dJ8_newLength_cabcc_8 (by decide) ?_
  refine lv_iload_n hx hb dJ8_newLength_cabcc_9 rfl (lv_at hl 0 rfl) ?_
  refine lv_icmp_ge (tgt := 21) hx hb dJ8_newLength_cabcc_10 (by decide) (fun c_10 => ?_) (fun c_10 => ?_)
  · exact absurd c_10 (by decide)
  · refine lv_iload_n hx hb dJ8_newLength_cabcc_13 rfl (lv_at hl 0 rfl) ?_
    refine lv_ldc (v := 2147483639) hx hb hown (hts _ mL_RJ8_200) dJ8_newLength_cabcc_14 ?_
    refine lv_icmp_gt (tgt := 21) hx hb dJ8_newLength_cabcc_16 (by decide) (fun c_16 => ?_) (fun c_16 => ?_)
    · exact absurd c_16 (by decide)
    · refine lv_iload_n hx hb dJ8_newLength_cabcc_19 rfl (lv_at hl 0 rfl) ?_
      have hP : va_P D vwCl (Wd) H := hP
      have hD : va_D A (Wd) := hD
      exact W.iret (v := 16 + 18) hx hb hr (fun t ht hW => ⟨⟨16 + 18, (), rfl, (by decide), by rw [ht]; exact hP, hD⟩, hS.F ht⟩) hS.2.2 dJ8_newLength_cabcc_20
set_option maxHeartbeats 4000000 in
set_option maxRecDepth 100000 in
theorem c_J5_isLatin1_aae02 (l : Launch) (sz : Nat) {D : va_G} {cB : ClassId}  {Wd : va_W} {b9 v9 c9 q0 : Nat} (hb9 : Wd[q0]? = some (b9, .inr (3, [.ref v9, .int 0, .int 0, .int (nI c9)]))) : Met l yJ5_isLatin1_aae02 (ws_ yJ5_isLatin1_aae02 cJ5_isLatin1_aae02 1 (some .boolean)) ({ frames := 0, cells := 0, slots := 0, locals := 0 } : Room) (va_Pc [.ref b9] (fun U => U.heap.size = sz ∧ (va_P D vwCl (Wd) U.heap ∧ va_K D vwCl [(cB, .byte)] U) ∧ va_D (fun _ => True) (Wd) ∧ jH (va_A (Wd) sz) U U.heap)) (va_Qi (fun (r : Int32) (u : Unit) => r = 1) (fun u t9 => va_P D vwCl (Wd) t9.heap ∧ va_D (va_A (Wd) sz) (Wd)) (va_A (Wd) sz)) 0 0 (va_A (Wd) sz) := by
  refine Met.ofW (cc := cJ5_isLatin1_aae02) (maxL := 1) (ret := (some .boolean)) (by decide) rfl ?_
  intro p e s m args below meth c s₁ B hml hv
  obtain ⟨rfl, hsz, ⟨hP, hK⟩, hD0, hJ⟩ := hv
  have hx := B.exec
  have hb := B.bytes
  have hr := B.returns
  have hts := atoms_spec (ws := ws_ yJ5_isLatin1_aae02 cJ5_isLatin1_aae02 1 (some .boolean)) B.pre
  have hts : ∀ w ∈ lw_all, w.before _ s = true := fun w h => hts w (List.mem_cons_of_mem _ h)
  have hown : s.vm.findClass RJ5 = some m.cls := findClass_of_methodNamed B.named
  have hlocks := B.notSynchronized
  have hC : CallFix p m c cJ5_isLatin1_aae02 1 s _ lw_all RJ5 := ⟨hx, hb, hml, hown, hts⟩
  subst hsz
  have hD := hD0.self (sz := s.heap.size)
  generalize hAe : va_A (Wd) s.heap.size = A at hD hJ ⊢
  have hA : ∀ q : Nat, s.heap.size ≤ q → A q := fun q h => by rw [← hAe]; exact Or.inr h
  have hS : va_S A s.heap s.heap [] := va_S.rf
  have hl := lv_entry ([.ref b9]) (n := 1) (Nat.le_of_ble_eq_true rfl)
  rw [lg_entry_eq]
  generalize (lg_sl ([.ref b9]) ++ List.replicate (1 - (lg_sl ([.ref b9])).length) Slot.unset).toArray = ls at hl ⊢
  have hl : lv_has ls 1 [(0, .ref b9)] := hl
  obtain ⟨H, hH⟩ : ∃ H : Heap, H = s.heap := ⟨_, rfl⟩
  rw [← hH] at hP
  have hS : va_S A s.heap H [] := by rw [hH]; exact va_S.rf
  rw [← hH]
  refine va_gets hx hb hJ.1 hS hown (hts _ mF_J5_18) (fun _ h9 => h9) dJ5_isLatin1_aae02_0 ?_
  refine lv_if_eq (tgt := 17) hx hb dJ5_isLatin1_aae02_3 (by decide) (fun c_3 => ?_) (fun c_3 => ?_)
  · exact absurd c_3 (by decide)
  · refine lv_aload_n hx hb dJ5_isLatin1_aae02_6 rfl (lv_at hl 0 rfl) ?_
    refine va_get (D := D) (ci := 3) (v := .int 0) (C := RJ4) (T := TJ4) (N := 4) hx hb hts lays_J4 hown hK hP q0 hb9 rfl 1 (by decide) (hts _ mF_J5_22) (fun _ h9 => h9) rfl dJ5_isLatin1_aae02_7 ?_
    refine lv_if_ne (tgt := 17) hx hb dJ5_isLatin1_aae02_10 (by decide) (fun c_10 => ?_) (fun c_10 => ?_)
    · exact absurd rfl c_10
    · refine lv_iconst (v := 1) hx hb dJ5_isLatin1_aae02_13 (by decide) ?_
      refine lv_goto (tgt := 18) hx hb dJ5_isLatin1_aae02_14 (by decide) ?_
      have hP : va_P D vwCl (Wd) H := hP
      have hD : va_D A (Wd) := hD
      exact W.zret (v := 1) hx hb hr (by decide) (fun t ht hW => ⟨⟨1, (), rfl, rfl, by rw [ht]; exact hP, hD⟩, hS.F ht⟩) hS.2.2 dJ5_isLatin1_aae02_18
set_option maxHeartbeats 4000000 in
set_option maxRecDepth 100000 in
theorem c_J5_getValue_6d5f1 (l : Launch) (sz : Nat) {D : va_G} {cB : ClassId}  {Wd : va_W} {b9 v9 c9 q0 : Nat} (hb9 : Wd[q0]? = some (b9, .inr (3, [.ref v9, .int 0, .int 0, .int (nI c9)]))) : Met l yJ5_getValue_6d5f1 (ws_ yJ5_getValue_6d5f1 cJ5_getValue_6d5f1 1 (some (.array .byte))) ({ frames := 0, cells := 0, slots := 0, locals := 0 } : Room) (va_Pc [.ref b9] (fun U => U.heap.size = sz ∧ (va_P D vwCl (Wd) U.heap ∧ va_K D vwCl [(cB, .byte)] U) ∧ va_D (fun _ => True) (Wd) ∧ True)) (va_Qr (fun u : Unit => True) (fun u ra t9 => va_P D vwCl (Wd) t9.heap ∧ va_D (va_A (Wd) sz) (Wd) ∧ ra = v9) (va_A (Wd) sz)) 0 0 (va_A (Wd) sz) := by
  refine Met.ofW (cc := cJ5_getValue_6d5f1) (maxL := 1) (ret := (some (.array .byte))) (by decide) rfl ?_
  intro p e s m args below meth c s₁ B hml hv
  obtain ⟨rfl, hsz, ⟨hP, hK⟩, hD0, -⟩ := hv
  have hx := B.exec
  have hb := B.bytes
  have hr := B.returns
  have hts := atoms_spec (ws := ws_ yJ5_getValue_6d5f1 cJ5_getValue_6d5f1 1 (some (.array .byte))) B.pre
  have hts : ∀ w ∈ lw_all, w.before _ s = true := fun w h => hts w (List.mem_cons_of_mem _ h)
  have hown : s.vm.findClass RJ5 = some m.cls := findClass_of_methodNamed B.named
  have hlocks := B.notSynchronized
  have hC : CallFix p m c cJ5_getValue_6d5f1 1 s _ lw_all RJ5 := ⟨hx, hb, hml, hown, hts⟩
  subst hsz
  have hD := hD0.self (sz := s.heap.size)
  generalize hAe : va_A (Wd) s.heap.size = A at hD  ⊢
  have hA : ∀ q : Nat, s.heap.size ≤ q → A q := fun q h => by rw [← hAe]; exact Or.inr h
  have hS : va_S A s.heap s.heap [] := va_S.rf
  have hl := lv_entry ([.ref b9]) (n := 1) (Nat.le_of_ble_eq_true rfl)
  rw [lg_entry_eq]
  generalize (lg_sl ([.ref b9]) ++ List.replicate (1 - (lg_sl ([.ref b9])).length) Slot.unset).toArray = ls at hl ⊢
  have hl : lv_has ls 1 [(0, .ref b9)] := hl
  obtain ⟨H, hH⟩ : ∃ H : Heap, H = s.heap := ⟨_, rfl⟩
  rw [← hH] at hP
  have hS : va_S A s.heap H [] := by rw [hH]; exact va_S.rf
  rw [← hH]
  refine lv_aload_n hx hb dJ5_getValue_6d5f1_0 rfl (lv_at hl 0 rfl) ?_
  refine va_get (D := D) (ci := 3) (v := .ref v9) (C := RJ4) (T := TJ4) (N := 4) hx hb hts lays_J4 hown hK hP q0 hb9 rfl 0 (by decide) (hts _ mF_J5_15) (fun _ h9 => h9) rfl dJ5_getValue_6d5f1_1 ?_
  have hP : va_P D vwCl (Wd) H := hP
  have hD : va_D A (Wd) := hD
  exact W.aret (v := .ref v9) hx hb hr (by first | exact Or.inl ⟨_, rfl⟩ | exact Or.inr ⟨_, rfl⟩) (Or.inr ⟨_, rfl⟩) (fun t ht hW => ⟨⟨(), v9, rfl, trivial, by rw [ht]; exact hP, hD, rfl⟩, hS.F ht⟩) hS.2.2 dJ5_getValue_6d5f1_4
set_option maxHeartbeats 4000000 in
set_option maxRecDepth 100000 in
theorem c_J5_length_8abf5 (l : Launch) (sz : Nat) {D : va_G} {cB : ClassId}  {Wd : va_W} {b9 v9 c9 q0 : Nat} (hb9 : Wd[q0]? = some (b9, .inr (3, [.ref v9, .int 0, .int 0, .int (nI c9)]))) : Met l yJ5_length_8abf5 (ws_ yJ5_length_8abf5 cJ5_length_8abf5 1 (some .int)) ({ frames := 0, cells := 0, slots := 0, locals := 0 } : Room) (va_Pc [.ref b9] (fun U => U.heap.size = sz ∧ (va_P D vwCl (Wd) U.heap ∧ va_K D vwCl [(cB, .byte)] U) ∧ va_D (fun _ => True) (Wd) ∧ True)) (va_Qi (fun (r : Int32) (u : Unit) => r = nI c9) (fun u t9 => va_P D vwCl (Wd) t9.heap ∧ va_D (va_A (Wd) sz) (Wd)) (va_A (Wd) sz)) 0 0 (va_A (Wd) sz) := by
  refine Met.ofW (cc := cJ5_length_8abf5) (maxL := 1) (ret := (some .int)) (by decide) rfl ?_
  intro p e s m args below meth c s₁ B hml hv
  obtain ⟨rfl, hsz, ⟨hP, hK⟩, hD0, -⟩ := hv
  have hx := B.exec
  have hb := B.bytes
  have hr := B.returns
  have hts := atoms_spec (ws := ws_ yJ5_length_8abf5 cJ5_length_8abf5 1 (some .int)) B.pre
  have hts : ∀ w ∈ lw_all, w.before _ s = true := fun w h => hts w (List.mem_cons_of_mem _ h)
  have hown : s.vm.findClass RJ5 = some m.cls := findClass_of_methodNamed B.named
  have hlocks := B.notSynchronized
  have hC : CallFix p m c cJ5_length_8abf5 1 s _ lw_all RJ5 := ⟨hx, hb, hml, hown, hts⟩
  subst hsz
  have hD := hD0.self (sz := s.heap.size)
  generalize hAe : va_A (Wd) s.heap.size = A at hD  ⊢
  have hA : ∀ q : Nat, s.heap.size ≤ q → A q := fun q h => by rw [← hAe]; exact Or.inr h
  have hS : va_S A s.heap s.heap [] := va_S.rf
  have hl := lv_entry ([.ref b9]) (n := 1) (Nat.le_of_ble_eq_true rfl)
  rw [lg_entry_eq]
  generalize (lg_sl ([.ref b9]) ++ List.replicate (1 - (lg_sl ([.ref b9])).length) Slot.unset).toArray = ls at hl ⊢
  have hl : lv_has ls 1 [(0, .ref b9)] := hl
  obtain ⟨H, hH⟩ : ∃ H : Heap, H = s.heap := ⟨_, rfl⟩
  rw [← hH] at hP
  have hS : va_S A s.heap H [] := by rw [hH]; exact va_S.rf
  rw [← hH]
  refine lv_aload_n hx hb dJ5_length_8abf5_0 rfl (lv_at hl 0 rfl) ?_
  refine va_get (D := D) (ci := 3) (v := .int (nI c9)) (C := RJ4) (T := TJ4) (N := 4) hx hb hts lays_J4 hown hK hP q0 hb9 rfl 3 (by decide) (hts _ mF_J5_79) (fun _ h9 => h9) rfl dJ5_length_8abf5_1 ?_
  have hP : va_P D vwCl (Wd) H := hP
  have hD : va_D A (Wd) := hD
  exact W.iret (v := nI c9) hx hb hr (fun t ht hW => ⟨⟨nI c9, (), rfl, rfl, by rw [ht]; exact hP, hD⟩, hS.F ht⟩) hS.2.2 dJ5_length_8abf5_4
set_option maxHeartbeats 4000000 in
set_option maxRecDepth 100000 in
theorem c_J4_length_8abf5 (l : Launch) (sz : Nat) {D : va_G} {cB : ClassId}  {Wd : va_W} {b9 v9 c9 q0 : Nat} (hb9 : Wd[q0]? = some (b9, .inr (3, [.ref v9, .int 0, .int 0, .int (nI c9)]))) : Met l yJ4_length_8abf5 (ws_ yJ4_length_8abf5 cJ4_length_8abf5 1 (some .int)) ({ frames := 1, cells := 0, slots := 0, locals := 20 } : Room) (va_Pc [.ref b9] (fun U => U.heap.size = sz ∧ (va_P D vwCl (Wd) U.heap ∧ va_K D vwCl [(cB, .byte)] U) ∧ va_D (fun _ => True) (Wd) ∧ True)) (va_Qi (fun (r : Int32) (u : Unit) => r = nI c9) (fun u t9 => va_P D vwCl (Wd) t9.heap ∧ va_D (va_A (Wd) sz) (Wd)) (va_A (Wd) sz)) 0 0 (va_A (Wd) sz) := by
  refine Met.ofW (cc := cJ4_length_8abf5) (maxL := 1) (ret := (some .int)) (by decide) rfl ?_
  intro p e s m args below meth c s₁ B hml hv
  obtain ⟨rfl, hsz, ⟨hP, hK⟩, hD0, -⟩ := hv
  have hx := B.exec
  have hb := B.bytes
  have hr := B.returns
  have hts := atoms_spec (ws := ws_ yJ4_length_8abf5 cJ4_length_8abf5 1 (some .int)) B.pre
  have hts : ∀ w ∈ lw_all, w.before _ s = true := fun w h => hts w (List.mem_cons_of_mem _ h)
  have hown : s.vm.findClass RJ4 = some m.cls := findClass_of_methodNamed B.named
  have hlocks := B.notSynchronized
  have hC : CallFix p m c cJ4_length_8abf5 1 s _ lw_all RJ4 := ⟨hx, hb, hml, hown, hts⟩
  subst hsz
  have hD := hD0.self (sz := s.heap.size)
  generalize hAe : va_A (Wd) s.heap.size = A at hD  ⊢
  have hA : ∀ q : Nat, s.heap.size ≤ q → A q := fun q h => by rw [← hAe]; exact Or.inr h
  have hS : va_S A s.heap s.heap [] := va_S.rf
  have hl := lv_entry ([.ref b9]) (n := 1) (Nat.le_of_ble_eq_true rfl)
  rw [lg_entry_eq]
  generalize (lg_sl ([.ref b9]) ++ List.replicate (1 - (lg_sl ([.ref b9])).length) Slot.unset).toArray = ls at hl ⊢
  have hl : lv_has ls 1 [(0, .ref b9)] := hl
  obtain ⟨H, hH⟩ : ∃ H : Heap, H = s.heap := ⟨_, rfl⟩
  rw [← hH] at hP
  have hS : va_S A s.heap H [] := by rw [hH]; exact va_S.rf
  rw [← hH]
  refine lv_aload_n hx hb dJ4_length_8abf5_0 rfl (lv_at hl 0 rfl) ?_
  have hF := wj_F hD hS hA
  refine va_calli (va_runSU (hK.1 3 _ rfl).2 (As := []) (rest := []) hC (c_J5_length_8abf5 l H.size hb9) (va_cwSU 0 hts (gi_SU mM_J4_343 mE_AbstractStringBuilder___length___I mP_StringBuilder__AbstractStringBuilder mV_J5_length_8abf5 mI_AbstractStringBuilder mC_J5_length_8abf5) rfl rfl rfl (by decide +kernel) ⟨Nat.le_of_ble_eq_true rfl, Nat.le_of_ble_eq_true rfl⟩) ⟨fun a1 U g mk q9 => ⟨q9.1, q9.2.1, ⟨q9.2.2.1.1, va_K.moved (u := U) (U := U.calling g mk a1) (Vm.Alike.refl U.vm) q9.2.2.1.2⟩, q9.2.2.2.1, trivial⟩, va_recv (q := (RJ4, TJ4, 4)) hK hP (ci := 3) (q0 := q0) rfl hb9, fun U hU hW => ⟨rfl, by rw [hU], ⟨by rw [hU]; exact hP, va_K.moved hW.alike hK⟩, hD.weaken (fun _ _ _ _ => trivial), trivial⟩⟩ rfl rfl hl.1 rfl (lv_room (Nat.le_of_ble_eq_true rfl)) dJ4_length_8abf5_1 ⟨Nat.zero_le _, Nat.zero_le _⟩) hS (fun q _ h => hF q h) hF (fun r9 u9 t H locs ht hvm hw hB hz1 hk1 hS => ?_)
  obtain ⟨hP, hD⟩ := hB
  rw [ht] at hP
  have hD := hD.weaken (fun _ q9 _ h => hF q9.1 h)
  have hw9 := hw
  rw [hw9]
  have hP : va_P D vwCl (Wd) H := hP
  have hD : va_D A (Wd) := hD
  exact W.iret (v := nI c9) hx hb hr (fun t ht hW => ⟨⟨nI c9, (), rfl, rfl, by rw [ht]; exact hP, hD⟩, hS.F ht⟩) hS.2.2 dJ4_length_8abf5_4
set_option maxHeartbeats 4000000 in
set_option maxRecDepth 100000 in
theorem c_J5_newCapacity_0f7a4 (l : Launch) (sz : Nat) {D : va_G} {cB : ClassId}  {Wd : va_W} {b9 v9 c9 q0 q1 : Nat} {g9 : Nat → Int32} (hb9 : Wd[q0]? = some (b9, .inr (3, [.ref v9, .int 0, .int 0, .int (nI c9)]))) (hv9 : Wd[q1]? = some (v9, .inl (cB, 16, .inl g9))) (q9 : Nat) (h1 : 16 ≤ q9) (h2 : q9 ≤ 34) : Met l yJ5_newCapacity_0f7a4 (ws_ yJ5_newCapacity_0f7a4 cJ5_newCapacity_0f7a4 6 (some .int)) ({ frames := 2, cells := 0, slots := 0, locals := 44 } : Room) (va_Pc [.ref b9, .int (nI q9)] (fun U => U.heap.size = sz ∧ (va_P D vwCl (Wd) U.heap ∧ va_K D vwCl [(cB, .byte)] U) ∧ va_D (fun _ => True) (Wd) ∧ True)) (va_Qi (fun (r : Int32) (u : Unit) => r = 34) (fun u t9 => va_P D vwCl (Wd) t9.heap ∧ va_D (va_A (Wd) sz) (Wd)) (va_A (Wd) sz)) 0 0 (va_A (Wd) sz) := by
  refine Met.ofW (cc := cJ5_newCapacity_0f7a4) (maxL := 6) (ret := (some .int)) (by decide) rfl ?_
  intro p e s m args below meth c s₁ B hml hv
  obtain ⟨rfl, hsz, ⟨hP, hK⟩, hD0, -⟩ := hv
  have hx := B.exec
  have hb := B.bytes
  have hr := B.returns
  have hts := atoms_spec (ws := ws_ yJ5_newCapacity_0f7a4 cJ5_newCapacity_0f7a4 6 (some .int)) B.pre
  have hts : ∀ w ∈ lw_all, w.before _ s = true := fun w h => hts w (List.mem_cons_of_mem _ h)
  have hown : s.vm.findClass RJ5 = some m.cls := findClass_of_methodNamed B.named
  have hlocks := B.notSynchronized
  have hC : CallFix p m c cJ5_newCapacity_0f7a4 6 s _ lw_all RJ5 := ⟨hx, hb, hml, hown, hts⟩
  subst hsz
  have hD := hD0.self (sz := s.heap.size)
  generalize hAe : va_A (Wd) s.heap.size = A at hD  ⊢
  have hA : ∀ q : Nat, s.heap.size ≤ q → A q := fun q h => by rw [← hAe]; exact Or.inr h
  have hS : va_S A s.heap s.heap [] := va_S.rf
  have hl := lv_entry ([.ref b9, .int (nI q9)]) (n := 6) (Nat.le_of_ble_eq_true rfl)
  rw [lg_entry_eq]
  generalize (lg_sl ([.ref b9, .int (nI q9)]) ++ List.replicate (6 - (lg_sl ([.ref b9, .int (nI q9)])).length) Slot.unset).toArray = ls at hl ⊢
  have hl : lv_has ls 6 [(0, .ref b9), (1, .int (nI q9))] := hl
  obtain ⟨H, hH⟩ : ∃ H : Heap, H = s.heap := ⟨_, rfl⟩
  rw [← hH] at hP
  have hS : va_S A s.heap H [] := by rw [hH]; exact va_S.rf
  rw [← hH]
  refine lv_aload_n hx hb dJ5_newCapacity_0f7a4_0 rfl (lv_at hl 0 rfl) ?_
  refine va_get (D := D) (ci := 3) (v := .ref v9) (C := RJ4) (T := TJ4) (N := 4) hx hb hts lays_J4 hown hK hP q0 hb9 rfl 0 (by decide) (hts _ mF_J5_15) (fun _ h9 => h9) rfl dJ5_newCapacity_0f7a4_1 ?_
  refine va_alen hx hb hK hP q1 0 hv9 rfl (v := 16) rfl dJ5_newCapacity_0f7a4_4 ?_
  refine lv_istore_n (lv' := [(2, .int 16), (0, .ref b9), (1, .int (nI q9))]) hx hb dJ5_newCapacity_0f7a4_5 rfl hl (by decide) rfl (fun ls hl => ?_)
  refine lv_iload_n hx hb dJ5_newCapacity_0f7a4_6 rfl (lv_at hl 2 rfl) ?_
  refine lv_aload_n hx hb dJ5_newCapacity_0f7a4_7 rfl (lv_at hl 1 rfl) ?_
  refine va_get (D := D) (ci := 3) (v := .int 0) (C := RJ4) (T := TJ4) (N := 4) hx hb hts lays_J4 hown hK hP q0 hb9 rfl 1 (by decide) (hts _ mF_J5_22) (fun _ h9 => h9) rfl dJ5_newCapacity_0f7a4_8 ?_
  refine lv_ishl hx hb dJ5_newCapacity_0f7a4_11 ?_
  rw [sb_shl0]
  refine lv_istore_n (lv' := [(3, .int (nI q9)), (2, .int 16), (0, .ref b9), (1, .int (nI q9))]) hx hb dJ5_newCapacity_0f7a4_12 rfl hl (by decide) rfl (fun ls hl => ?_)
  refine lv_iload_n hx hb dJ5_newCapacity_0f7a4_13 rfl (lv_at hl 0 rfl) ?_
  refine lv_iload_n hx hb dJ5_newCapacity_0f7a4_14 rfl (lv_at hl 1 rfl) ?_
  refine lv_isub hx hb dJ5_newCapacity_0f7a4_15 ?_
  rw [show ((nI q9) - 16 : Int32) = nI (q9 - 16) from pk_sub (a := q9) (b := 16) (by omega)]
  refine lv_istore (lv' := [(4, .int (nI (q9 - 16))), (3, .int (nI q9)), (2, .int 16), (0, .ref b9), (1, .int (nI q9))]) hx hb dJ5_newCapacity_0f7a4_16 hl (by decide) rfl (fun ls hl => ?_)
  refine lv_iload_n hx hb dJ5_newCapacity_0f7a4_18 rfl (lv_at hl 2 rfl) ?_
  refine lv_iload hx hb dJ5_newCapacity_0f7a4_19 (lv_at hl 0 rfl) ?_
  refine lv_iload_n hx hb dJ5_newCapacity_0f7a4_21 rfl (lv_at hl 2 rfl) ?_
  refine lv_iconst (v := 2) hx hb dJ5_newCapacity_0f7a4_22 (by decide) ?_
  refine lv_aload_n hx hb dJ5_newCapacity_0f7a4_23 rfl (lv_at hl 3 rfl) ?_
  refine va_get (D := D) (ci := 3) (v := .int 0) (C := RJ4) (T := TJ4) (N := 4) hx hb hts lays_J4 hown hK hP q0 hb9 rfl 1 (by decide) (hts _ mF_J5_22) (fun _ h9 => h9) rfl dJ5_newCapacity_0f7a4_24 ?_
  refine lv_ishl hx hb dJ5_newCapacity_0f7a4_27 ?_
  rw [sb_shl0]
  refine lv_iadd hx hb dJ5_newCapacity_0f7a4_28 ?_
  rw [show (16 + 2 : Int32) = 18 from (by decide)]
  have hF := wj_F hD hS hA
  refine va_calli (va_runS (As := [.int 16, .int (nI (q9 - 16)), .int 18]) (rest := []) hC (c_J8_newLength_cabcc l H.size (q9 - 16) (by omega)) (va_cwS 3 hts (gi_S mM_J5_114 mT_J8_newLength_cabcc mI_ArraysSupport mC_J8_newLength_cabcc) rfl rfl rfl (by decide +kernel) ⟨Nat.le_of_ble_eq_true rfl, Nat.le_of_ble_eq_true rfl⟩) ⟨fun a1 U g mk q9 => ⟨q9.1, q9.2.1, ⟨q9.2.2.1.1, va_K.moved (u := U) (U := U.calling g mk a1) (Vm.Alike.refl U.vm) q9.2.2.1.2⟩, q9.2.2.2.1, trivial⟩, fun U hU hW => ⟨rfl, by rw [hU], ⟨by rw [hU]; exact hP, va_K.moved hW.alike hK⟩, hD.weaken (fun _ _ _ _ => trivial), trivial⟩⟩ rfl rfl hl.1 rfl (lv_room (Nat.le_of_ble_eq_true rfl)) dJ5_newCapacity_0f7a4_29 ⟨Nat.zero_le _, Nat.zero_le _⟩) hS (fun q _ h => hF q h) hF (fun r9 u9 t H locs ht hvm hw hB hz1 hk1 hS => ?_)
  obtain ⟨hP, hD⟩ := hB
  rw [ht] at hP
  have hD := hD.weaken (fun _ q9 _ h => hF q9.1 h)
  have hw9 := hw
  rw [hw9]
  refine lv_istore (lv' := [(5, .int 34), (4, .int (nI (q9 - 16))), (3, .int (nI q9)), (2, .int 16), (0, .ref b9), (1, .int (nI q9))]) hx hb dJ5_newCapacity_0f7a4_32 hl (by decide) rfl (fun ls hl => ?_)
  refine lv_iload hx hb dJ5_newCapacity_0f7a4_34 (lv_at hl 0 rfl) ?_
  refine lv_ldc (v := 2147483647) hx hb hown (hts _ mL_RJ5_39) dJ5_newCapacity_0f7a4_36 ?_
  refine lv_icmp_ne (tgt := 51) hx hb dJ5_newCapacity_0f7a4_38 (by decide) (fun c_38 => ?_) (fun c_38 => ?_)
  · refine lv_iload hx hb dJ5_newCapacity_0f7a4_51 (lv_at hl 0 rfl) ?_
    refine lv_aload_n hx hb dJ5_newCapacity_0f7a4_53 rfl (lv_at hl 4 rfl) ?_
    refine va_get (D := D) (ci := 3) (v := .int 0) (C := RJ4) (T := TJ4) (N := 4) hx hb hts lays_J4 hown hK hP q0 hb9 rfl 1 (by decide) (hts _ mF_J5_22) (fun _ h9 => h9) rfl dJ5_newCapacity_0f7a4_54 ?_
    refine lv_ishr hx hb dJ5_newCapacity_0f7a4_57 ?_
    rw [sb_shr0]
    have hP : va_P D vwCl (Wd) H := hP
    have hD : va_D A (Wd) := hD
    exact W.iret (v := 34) hx hb hr (fun t ht hW => ⟨⟨34, (), rfl, rfl, by rw [ht]; exact hP, hD⟩, hS.F ht⟩) hS.2.2 dJ5_newCapacity_0f7a4_58
  · exact absurd c_38 (by decide)
set_option maxHeartbeats 4000000 in
set_option maxRecDepth 100000 in
theorem c_J7_copyOf_9075b (l : Launch) (sz : Nat) {D : va_G} {cB : ClassId}  {Wd : va_W} {v9 q1 : Nat} {g9 : Nat → Int32} (hv9 : Wd[q1]? = some (v9, .inl (cB, 16, .inl g9))) (hfit : sb_Fit g9) : Met l yJ7_copyOf_9075b (ws_ yJ7_copyOf_9075b cJ7_copyOf_9075b 3 (some (.array .byte))) ({ frames := 1, cells := 1, slots := 34, locals := 21 } : Room) (va_Pc [.ref v9, .int 34] (fun U => U.heap.size = sz ∧ (va_P D vwCl (Wd) U.heap ∧ va_K D vwCl [(cB, .byte)] U) ∧ va_D (fun _ => True) (Wd) ∧ True)) (va_Qr (fun u : Unit => True) (fun u ra t9 => va_P D vwCl ((ra, .inl (cB, 34, .inl (va_cpy g9 (fun _ => 0) 0 0 16))) :: Wd) t9.heap ∧ va_D (va_A (Wd) sz) ((ra, .inl (cB, 34, .inl (va_cpy g9 (fun _ => 0) 0 0 16))) :: Wd)) (va_A (Wd) sz)) 1 34 (va_A (Wd) sz) := by
  refine Met.ofW (cc := cJ7_copyOf_9075b) (maxL := 3) (ret := (some (.array .byte))) (by decide) rfl ?_
  intro p e s m args below meth c s₁ B hml hv
  obtain ⟨rfl, hsz, ⟨hP, hK⟩, hD0, -⟩ := hv
  have hx := B.exec
  have hb := B.bytes
  have hr := B.returns
  have hts := atoms_spec (ws := ws_ yJ7_copyOf_9075b cJ7_copyOf_9075b 3 (some (.array .byte))) B.pre
  have hts : ∀ w ∈ lw_all, w.before _ s = true := fun w h => hts w (List.mem_cons_of_mem _ h)
  have hown : s.vm.findClass RJ7 = some m.cls := findClass_of_methodNamed B.named
  have hlocks := B.notSynchronized
  have hC : CallFix p m c cJ7_copyOf_9075b 3 s _ lw_all RJ7 := ⟨hx, hb, hml, hown, hts⟩
  subst hsz
  have hD := hD0.self (sz := s.heap.size)
  generalize hAe : va_A (Wd) s.heap.size = A at hD  ⊢
  have hA : ∀ q : Nat, s.heap.size ≤ q → A q := fun q h => by rw [← hAe]; exact Or.inr h
  have hS : va_S A s.heap s.heap [] := va_S.rf
  have hl := lv_entry ([.ref v9, .int 34]) (n := 3) (Nat.le_of_ble_eq_true rfl)
  rw [lg_entry_eq]
  generalize (lg_sl ([.ref v9, .int 34]) ++ List.replicate (3 - (lg_sl ([.ref v9, .int 34])).length) Slot.unset).toArray = ls at hl ⊢
  have hl : lv_has ls 3 [(0, .ref v9), (1, .int 34)] := hl
  obtain ⟨H, hH⟩ : ∃ H : Heap, H = s.heap := ⟨_, rfl⟩
  rw [← hH] at hP
  have hS : va_S A s.heap H [] := by rw [hH]; exact va_S.rf
  rw [← hH]
  refine lv_iload_n hx hb dJ7_copyOf_9075b_0 rfl (lv_at hl 1 rfl) ?_
  refine lv_aload_n hx hb dJ7_copyOf_9075b_1 rfl (lv_at hl 0 rfl) ?_
  refine va_alen hx hb hK hP q1 0 hv9 rfl (v := 16) rfl dJ7_copyOf_9075b_2 ?_
  refine lv_icmp_ne (tgt := 14) hx hb dJ7_copyOf_9075b_3 (by decide) (fun c_3 => ?_) (fun c_3 => ?_)
  · refine lv_iload_n hx hb dJ7_copyOf_9075b_14 rfl (lv_at hl 1 rfl) ?_
    refine qn_b hC hK hP hD hS hA (N := 34) rfl (by omega) (by show _ ≤ 1; omega) (by show _ ≤ 34; omega) dJ7_copyOf_9075b_15 (fun q15 H hP hD hS => ?_)
    have hP : va_P D vwCl ((q15, .inl (cB, 34, .inl (fun _ => 0))) :: Wd) H := hP
    have hD : va_D A ((q15, .inl (cB, 34, .inl (fun _ => 0))) :: Wd) := hD
    refine lv_astore_n (lv' := [(2, .ref q15), (0, .ref v9), (1, .int 34)]) hx hb dJ7_copyOf_9075b_17 rfl hl (by decide) rfl (fun ls hl => ?_)
    refine lv_aload_n hx hb dJ7_copyOf_9075b_18 rfl (lv_at hl 1 rfl) ?_
    refine lv_iconst (v := 0) hx hb dJ7_copyOf_9075b_19 (by decide) ?_
    refine lv_aload_n hx hb dJ7_copyOf_9075b_20 rfl (lv_at hl 0 rfl) ?_
    refine lv_iconst (v := 0) hx hb dJ7_copyOf_9075b_21 (by decide) ?_
    refine lv_aload_n hx hb dJ7_copyOf_9075b_22 rfl (lv_at hl 1 rfl) ?_
    refine va_alen hx hb hK hP (1 + q1) 0 (wj_rt (X := [_]) hv9) rfl (v := 16) rfl dJ7_copyOf_9075b_23 ?_
    refine lv_iload_n hx hb dJ7_copyOf_9075b_24 rfl (lv_at hl 2 rfl) ?_
    refine va_mmin hx hb (hml.trans hl.1.symm) hown (hts _ mM_J7_304) (hts _ mT_min) (hts _ mI_Math) (hts _ mC_min) (Nat.le_of_ble_eq_true rfl) (Nat.le_of_ble_eq_true rfl) (by show _ ≤ 1; omega) (by show _ ≤ 34; omega) dJ7_copyOf_9075b_25 ?_
    rw [show (if (34 : Int32) < (16 : Int32) then (34 : Int32) else (16 : Int32) : Int32) = 16 from (by decide)]
    refine va_copyi hx hb (hml.trans hl.1.symm) hown (hts _ mM_J7_150) (hts _ mN_java_lang_System_arraycopy_Ljava_lang_Object_ILjava_lang_Object_II_V) (hts _ mT_java_lang_System_arraycopy_Ljava_lang_Object_ILjava_lang_Object_II_V) (hts _ mI_System) hK hP hD hS (1 + q1) 0 0 0 (wj_rt (X := [_]) hv9) rfl rfl rfl rfl (by decide) (by decide) (by decide) (by decide) (by decide) (fun i _ => hfit _) (Nat.le_of_ble_eq_true rfl) (Nat.le_of_ble_eq_true rfl) dJ7_copyOf_9075b_28 (fun H locs hP hD hS => ?_)
    rw [show ((0 : Int32)).toNatClampNeg = 0 from rfl, show ((16 : Int32)).toNatClampNeg = 16 from rfl] at hP hD
    have hP : va_P D vwCl ((q15, .inl (cB, 34, .inl (va_cpy g9 (fun _ => 0) 0 0 16))) :: Wd) H := hP
    have hD : va_D A ((q15, .inl (cB, 34, .inl (va_cpy g9 (fun _ => 0) 0 0 16))) :: Wd) := hD
    refine lv_aload_n hx hb dJ7_copyOf_9075b_31 rfl (lv_at hl 0 rfl) ?_
    have hP : va_P D vwCl ((q15, .inl (cB, 34, .inl (va_cpy g9 (fun _ => 0) 0 0 16))) :: Wd) H := hP
    have hD : va_D A ((q15, .inl (cB, 34, .inl (va_cpy g9 (fun _ => 0) 0 0 16))) :: Wd) := hD
    refine W.widen (k := 1) (n := 34) (by omega) (by omega) ?_
    exact W.aret (v := .ref q15) hx hb hr (by first | exact Or.inl ⟨_, rfl⟩ | exact Or.inr ⟨_, rfl⟩) (Or.inr ⟨_, rfl⟩) (fun t ht hW => ⟨⟨(), q15, rfl, trivial, by rw [ht]; exact hP, hD⟩, hS.F ht⟩) hS.2.2 dJ7_copyOf_9075b_32
  · exact absurd c_3 (by decide)
set_option maxHeartbeats 4000000 in
set_option maxRecDepth 100000 in
theorem c_J5_ensureCapacityInternal_d00df (l : Launch) (sz : Nat) {D : va_G} {cB : ClassId}  {b9 v9 c9 m9 : Nat} {g9 : Nat → Int32} (q9 : Nat) (hq : q9 ≤ 34) (hm : m9 = 16 ∨ m9 = 34) (hc : c9 ≤ m9) (hfit : sb_Fit g9) : Met l yJ5_ensureCapacityInternal_d00df (ws_ yJ5_ensureCapacityInternal_d00df cJ5_ensureCapacityInternal_d00df 3 none) ({ frames := 3, cells := 1, slots := 34, locals := 69 } : Room) (va_Pc [.ref b9, .int (nI q9)] (fun U => U.heap.size = sz ∧ (va_P D vwCl ([(b9, .inr (3, [.ref v9, .int 0, .int 0, .int (nI c9)])), (v9, .inl (cB, m9, .inl g9))]) U.heap ∧ va_K D vwCl [(cB, .byte)] U) ∧ va_D (fun _ => True) ([(b9, .inr (3, [.ref v9, .int 0, .int 0, .int (nI c9)])), (v9, .inl (cB, m9, .inl g9))]) ∧ True)) (va_Qv (fun u : Nat × Nat × (Nat → Int32) => (u.2.1 = 16 ∨ u.2.1 = 34) ∧ q9 ≤ u.2.1 ∧ sb_Fit u.2.2 ∧ ∀ j, j < c9 → u.2.2 j = g9 j) (fun u t9 => va_P D vwCl ([(b9, .inr (3, [.ref u.1, .int 0, .int 0, .int (nI (c9))])), (u.1, .inl (cB, u.2.1, .inl u.2.2))]) t9.heap ∧ va_D (va_A ([(b9, .inr (3, [.ref v9, .int 0, .int 0, .int (nI c9)])), (v9, .inl (cB, m9, .inl g9))]) sz) ([(b9, .inr (3, [.ref u.1, .int 0, .int 0, .int (nI (c9))])), (u.1, .inl (cB, u.2.1, .inl u.2.2))])) (va_A ([(b9, .inr (3, [.ref v9, .int 0, .int 0, .int (nI c9)])), (v9, .inl (cB, m9, .inl g9))]) sz)) 1 34 (va_A ([(b9, .inr (3, [.ref v9, .int 0, .int 0, .int (nI c9)])), (v9, .inl (cB, m9, .inl g9))]) sz) := by
  refine Met.ofW (cc := cJ5_ensureCapacityInternal_d00df) (maxL := 3) (ret := none) (by decide) rfl ?_
  intro p e s m args below meth c s₁ B hml hv
  obtain ⟨rfl, hsz, ⟨hP, hK⟩, hD0, -⟩ := hv
  have hx := B.exec
  have hb := B.bytes
  have hr := B.returns
  have hts := atoms_spec (ws := ws_ yJ5_ensureCapacityInternal_d00df cJ5_ensureCapacityInternal_d00df 3 none) B.pre
  have hts : ∀ w ∈ lw_all, w.before _ s = true := fun w h => hts w (List.mem_cons_of_mem _ h)
  have hown : s.vm.findClass RJ5 = some m.cls := findClass_of_methodNamed B.named
  have hlocks := B.notSynchronized
  have hC : CallFix p m c cJ5_ensureCapacityInternal_d00df 3 s _ lw_all RJ5 := ⟨hx, hb, hml, hown, hts⟩
  subst hsz
  have hD := hD0.self (sz := s.heap.size)
  generalize hAe : va_A ([(b9, .inr (3, [.ref v9, .int 0, .int 0, .int (nI c9)])), (v9, .inl (cB, m9, .inl g9))]) s.heap.size = A at hD  ⊢
  have hA : ∀ q : Nat, s.heap.size ≤ q → A q := fun q h => by rw [← hAe]; exact Or.inr h
  have hS : va_S A s.heap s.heap [] := va_S.rf
  have hl := lv_entry ([.ref b9, .int (nI q9)]) (n := 3) (Nat.le_of_ble_eq_true rfl)
  rw [lg_entry_eq]
  generalize (lg_sl ([.ref b9, .int (nI q9)]) ++ List.replicate (3 - (lg_sl ([.ref b9, .int (nI q9)])).length) Slot.unset).toArray = ls at hl ⊢
  have hl : lv_has ls 3 [(0, .ref b9), (1, .int (nI q9))] := hl
  obtain ⟨H, hH⟩ : ∃ H : Heap, H = s.heap := ⟨_, rfl⟩
  rw [← hH] at hP
  have hS : va_S A s.heap H [] := by rw [hH]; exact va_S.rf
  rw [← hH]
  refine lv_aload_n hx hb dJ5_ensureCapacityInternal_d00df_0 rfl (lv_at hl 0 rfl) ?_
  refine va_get (D := D) (ci := 3) (v := .ref v9) (C := RJ4) (T := TJ4) (N := 4) hx hb hts lays_J4 hown hK hP 0 rfl rfl 0 (by decide) (hts _ mF_J5_15) (fun _ h9 => h9) rfl dJ5_ensureCapacityInternal_d00df_1 ?_
  refine va_alen hx hb hK hP 1 0 rfl rfl (v := nI m9) rfl dJ5_ensureCapacityInternal_d00df_4 ?_
  refine lv_aload_n hx hb dJ5_ensureCapacityInternal_d00df_5 rfl (lv_at hl 0 rfl) ?_
  refine va_get (D := D) (ci := 3) (v := .int 0) (C := RJ4) (T := TJ4) (N := 4) hx hb hts lays_J4 hown hK hP 0 rfl rfl 1 (by decide) (hts _ mF_J5_22) (fun _ h9 => h9) rfl dJ5_ensureCapacityInternal_d00df_6 ?_
  refine lv_ishr hx hb dJ5_ensureCapacityInternal_d00df_9 ?_
  rw [sb_shr0]
  refine lv_istore_n (lv' := [(2, .int (nI m9)), (0, .ref b9), (1, .int (nI q9))]) hx hb dJ5_ensureCapacityInternal_d00df_10 rfl hl (by decide) rfl (fun ls hl => ?_)
  refine lv_iload_n hx hb dJ5_ensureCapacityInternal_d00df_11 rfl (lv_at hl 2 rfl) ?_
  refine lv_iload_n hx hb dJ5_ensureCapacityInternal_d00df_12 rfl (lv_at hl 0 rfl) ?_
  refine lv_isub hx hb dJ5_ensureCapacityInternal_d00df_13 ?_
  refine lv_if_le (tgt := 38) hx hb dJ5_ensureCapacityInternal_d00df_14 (by decide) (fun c_14 => ?_) (fun c_14 => ?_)
  · have hP : va_P D vwCl ([(b9, .inr (3, [.ref ((v9, m9, g9) : Nat × Nat × (Nat → Int32)).1, .int 0, .int 0, .int (nI (c9))])), (((v9, m9, g9) : Nat × Nat × (Nat → Int32)).1, .inl (cB, ((v9, m9, g9) : Nat × Nat × (Nat → Int32)).2.1, .inl ((v9, m9, g9) : Nat × Nat × (Nat → Int32)).2.2))]) H := hP
    have hD : va_D A ([(b9, .inr (3, [.ref ((v9, m9, g9) : Nat × Nat × (Nat → Int32)).1, .int 0, .int 0, .int (nI (c9))])), (((v9, m9, g9) : Nat × Nat × (Nat → Int32)).1, .inl (cB, ((v9, m9, g9) : Nat × Nat × (Nat → Int32)).2.1, .inl ((v9, m9, g9) : Nat × Nat × (Nat → Int32)).2.2))]) := hD
    refine W.widen (k := 1) (n := 34) (by omega) (by omega) ?_
    exact W.vret hx hb hr (fun t ht hW => ⟨⟨((v9, m9, g9) : Nat × Nat × (Nat → Int32)), rfl, ⟨hm, (sub_le0 (a := q9) (b := m9) (by omega) (by omega)).mp c_14, hfit, fun j _ => rfl⟩, by rw [ht]; exact hP, hD⟩, hS.F ht⟩) hS.2.2 dJ5_ensureCapacityInternal_d00df_38
  · have hlt : m9 < q9 := Nat.lt_of_not_le (fun h9 => c_14 ((sub_le0 (by omega) (by omega)).mpr h9))
    have e16 : m9 = 16 := by omega
    subst e16
    refine lv_aload_n hx hb dJ5_ensureCapacityInternal_d00df_17 rfl (lv_at hl 1 rfl) ?_
    refine lv_aload_n hx hb dJ5_ensureCapacityInternal_d00df_18 rfl (lv_at hl 1 rfl) ?_
    refine va_get (D := D) (ci := 3) (v := .ref v9) (C := RJ4) (T := TJ4) (N := 4) hx hb hts lays_J4 hown hK hP 0 rfl rfl 0 (by decide) (hts _ mF_J5_15) (fun _ h9 => h9) rfl dJ5_ensureCapacityInternal_d00df_19 ?_
    refine lv_aload_n hx hb dJ5_ensureCapacityInternal_d00df_22 rfl (lv_at hl 1 rfl) ?_
    refine lv_iload_n hx hb dJ5_ensureCapacityInternal_d00df_23 rfl (lv_at hl 2 rfl) ?_
    have hF := wj_F hD hS hA
    refine va_calli (va_runU (As := [.int (nI q9)]) (rest := [.ref v9, .ref b9]) hC (c_J5_newCapacity_0f7a4 l H.size (q0 := 0) (q1 := 1) rfl rfl q9 (by omega) (by omega)) (va_cwU 1 hts (gi_U mM_J5_104 mE_AbstractStringBuilder___newCapacity___I_I mS_J5_newCapacity_0f7a4_StringBuilder mV_J5_newCapacity_0f7a4 mI_AbstractStringBuilder mC_J5_newCapacity_0f7a4) rfl rfl rfl rfl (by decide +kernel) ⟨Nat.le_of_ble_eq_true rfl, Nat.le_of_ble_eq_true rfl⟩) ⟨fun a1 U g mk q9 => ⟨q9.1, q9.2.1, ⟨q9.2.2.1.1, va_K.moved (u := U) (U := U.calling g mk a1) (Vm.Alike.refl U.vm) q9.2.2.1.2⟩, q9.2.2.2.1, trivial⟩, va_recv (q := (RJ4, TJ4, 4)) hK hP (ci := 3) (q0 := 0) rfl rfl, fun U hU hW => ⟨rfl, by rw [hU], ⟨by rw [hU]; exact hP, va_K.moved hW.alike hK⟩, hD.weaken (fun _ _ _ _ => trivial), trivial⟩⟩ rfl rfl hl.1 rfl (lv_room (Nat.le_of_ble_eq_true rfl)) dJ5_ensureCapacityInternal_d00df_24 ⟨Nat.zero_le _, Nat.zero_le _⟩) hS (fun q _ h => hF q h) hF (fun r9 u9 t H locs ht hvm hw hB hz1 hk1 hS => ?_)
    obtain ⟨hP, hD⟩ := hB
    rw [ht] at hP
    have hD := hD.weaken (fun _ q9 _ h => hF q9.1 h)
    have hw9 := hw
    rw [hw9]
    refine lv_aload_n hx hb dJ5_ensureCapacityInternal_d00df_27 rfl (lv_at hl 1 rfl) ?_
    refine va_get (D := D) (ci := 3) (v := .int 0) (C := RJ4) (T := TJ4) (N := 4) hx hb hts lays_J4 hown hK hP 0 rfl rfl 1 (by decide) (hts _ mF_J5_22) (fun _ h9 => h9) rfl dJ5_ensureCapacityInternal_d00df_28 ?_
    refine lv_ishl hx hb dJ5_ensureCapacityInternal_d00df_31 ?_
    rw [sb_shl0]
    have hF := wj_F hD hS hA
    refine va_callr (va_runS (As := [.ref v9, .int 34]) (rest := [.ref b9]) hC (c_J7_copyOf_9075b l H.size (q1 := 1) rfl hfit) (va_cwS 2 hts (gi_S mM_J5_108 mT_J7_copyOf_9075b mI_Arrays mC_J7_copyOf_9075b) rfl rfl rfl (by decide +kernel) ⟨Nat.le_of_ble_eq_true rfl, Nat.le_of_ble_eq_true rfl⟩) ⟨fun a1 U g mk q9 => ⟨q9.1, q9.2.1, ⟨q9.2.2.1.1, va_K.moved (u := U) (U := U.calling g mk a1) (Vm.Alike.refl U.vm) q9.2.2.1.2⟩, q9.2.2.2.1, trivial⟩, fun U hU hW => ⟨rfl, by rw [hU], ⟨by rw [hU]; exact hP, va_K.moved hW.alike hK⟩, hD.weaken (fun _ _ _ _ => trivial), trivial⟩⟩ rfl rfl hl.1 rfl (lv_room (Nat.le_of_ble_eq_true rfl)) dJ5_ensureCapacityInternal_d00df_32 ⟨(by show _ ≤ 1; omega), (by show _ ≤ 34; omega)⟩) hS (fun q _ h => hF q h) hF (fun u9 ra9 t H locs ht hvm hw hB hz1 hk1 hS => ?_)
    obtain ⟨hP, hD⟩ := hB
    rw [ht] at hP
    have hD := hD.weaken (fun _ q9 _ h => hF q9.1 h)
    have hP : va_P D vwCl ([(ra9, .inl (cB, 34, .inl (va_cpy g9 (fun _ => 0) 0 0 16))), (b9, .inr (3, [.ref v9, .int 0, .int 0, .int (nI c9)])), (v9, .inl (cB, 16, .inl g9))]) H := hP
    have hD : va_D A ([(ra9, .inl (cB, 34, .inl (va_cpy g9 (fun _ => 0) 0 0 16))), (b9, .inr (3, [.ref v9, .int 0, .int 0, .int (nI c9)])), (v9, .inl (cB, 16, .inl g9))]) := hD
    refine va_put (D := D) (ci := 3) (v := .ref ra9) (ty := .array .byte) (C := RJ4) (T := TJ4) (N := 4) hx hb hts lays_J4 tyJ4 tyJ4_ok nmJ4 hown hK hP hD hS 1 rfl rfl 0 (by decide) (hts _ mF_J5_15) (fun _ h9 => h9) rfl (by decide +kernel) rfl rfl (Nat.le_of_ble_eq_true rfl) dJ5_ensureCapacityInternal_d00df_35 (fun H locs hP hD hS => ?_)
    have hP : va_P D vwCl ([(ra9, .inl (cB, 34, .inl (va_cpy g9 (fun _ => 0) 0 0 16))), (b9, .inr (3, [.ref ra9, .int 0, .int 0, .int (nI c9)])), (v9, .inl (cB, 16, .inl g9))]) H := hP
    have hD : va_D A ([(ra9, .inl (cB, 34, .inl (va_cpy g9 (fun _ => 0) 0 0 16))), (b9, .inr (3, [.ref ra9, .int 0, .int 0, .int (nI c9)])), (v9, .inl (cB, 16, .inl g9))]) := hD
    have hP := hP.sub (ws' := [(b9, .inr (3, [.ref ra9, .int 0, .int 0, .int (nI c9)])), (ra9, .inl (cB, 34, .inl (va_cpy g9 (fun _ => 0) 0 0 16)))]) [1, 0] rfl
    have hD := hD.sub (ws' := [(b9, .inr (3, [.ref ra9, .int 0, .int 0, .int (nI c9)])), (ra9, .inl (cB, 34, .inl (va_cpy g9 (fun _ => 0) 0 0 16)))]) [1, 0] (by decide) rfl
    have hP : va_P D vwCl ([(b9, .inr (3, [.ref ((ra9, 34, va_cpy g9 (fun _ => 0) 0 0 16) : Nat × Nat × (Nat → Int32)).1, .int 0, .int 0, .int (nI (c9))])), (((ra9, 34, va_cpy g9 (fun _ => 0) 0 0 16) : Nat × Nat × (Nat → Int32)).1, .inl (cB, ((ra9, 34, va_cpy g9 (fun _ => 0) 0 0 16) : Nat × Nat × (Nat → Int32)).2.1, .inl ((ra9, 34, va_cpy g9 (fun _ => 0) 0 0 16) : Nat × Nat × (Nat → Int32)).2.2))]) H := hP
    have hD : va_D A ([(b9, .inr (3, [.ref ((ra9, 34, va_cpy g9 (fun _ => 0) 0 0 16) : Nat × Nat × (Nat → Int32)).1, .int 0, .int 0, .int (nI (c9))])), (((ra9, 34, va_cpy g9 (fun _ => 0) 0 0 16) : Nat × Nat × (Nat → Int32)).1, .inl (cB, ((ra9, 34, va_cpy g9 (fun _ => 0) 0 0 16) : Nat × Nat × (Nat → Int32)).2.1, .inl ((ra9, 34, va_cpy g9 (fun _ => 0) 0 0 16) : Nat × Nat × (Nat → Int32)).2.2))]) := hD
    refine W.widen (k := 1) (n := 34) (by omega) (by omega) ?_
    exact W.vret hx hb hr (fun t ht hW => ⟨⟨((ra9, 34, va_cpy g9 (fun _ => 0) 0 0 16) : Nat × Nat × (Nat → Int32)), rfl, ⟨Or.inr rfl, hq, sb_fitC hfit sb_fit0, fun j hj => (show va_cpy g9 (fun _ => 0) 0 0 16 j = g9 j from sb_cpy0 (by omega))⟩, by rw [ht]; exact hP, hD⟩, hS.F ht⟩) hS.2.2 dJ5_ensureCapacityInternal_d00df_38

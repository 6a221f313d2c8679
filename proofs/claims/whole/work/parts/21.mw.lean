def mq_fr (of : Nat → Int32) (q : Int32) (nv : Nat → Int32) : Nat → (Nat → Int32)
  | 0 => nv
  | j + 1 => if of j = 0 then upd (mq_fr of q nv j) j (imax 0 (mq_fr of q nv j j - q)) else mq_fr of q nv j
def mq_pn (of nv : Nat → Int32) (x : Int32) : Nat → (Nat → Int32)
  | 0 => nv
  | j + 1 => upd (mq_pn of nv x j) j (imin 9 (mq_pn of nv x j j + x * (if of j = 0 then 1 else 2)))
def mq_pl (gn lk : Nat → Int32) (x : Int32) : Nat → (Nat → Int32)
  | 0 => lk
  | j + 1 => if gn j = 0 then upd (mq_pl gn lk x j) j (imin 99 (mq_pl gn lk x j j + x)) else mq_pl gn lk x j
def mq_sum (gn lk : Nat → Int32) : Nat → Int32
  | 0 => 0
  | j + 1 => if gn j = 0 then mq_sum gn lk j + lk j else mq_sum gn lk j
def mq_mean (gn lk : Nat → Int32) (n : Nat) : UInt64 := if mq_liv gn n = 0 then FP.dconst0 else FP.ddiv (FP.i2d (mq_sum gn lk n)) (FP.i2d (mq_liv gn n))
abbrev hR (he : Nat → Int32) (n : Nat) : Prop := ∀ j : Nat, j < n → he j = -1 ∨ ∃ y : Nat, y < n ∧ he j = nI y
theorem last_ex {he : Nat → Int32} {n : Nat} (hn : n < 2 ^ 31) (hH : hR he n) (gn : Nat → Int32) (p : Nat) : ∀ (f g : Nat), g < n → mq_last he gn p f g = -1 ∨ ∃ y : Nat, y < n ∧ mq_last he gn p f g = nI y
  | 0, _, _ => Or.inl rfl
  | f + 1, g, hg => by
    unfold mq_last
    rcases hH g hg with h | ⟨y, hy, h⟩
    · exact Or.inl (if_pos h)
    · rw [h, nI_clamp (by omega), if_neg (ni_m1 (by omega))]
      split
      · exact Or.inl rfl
      · split
        · exact Or.inr ⟨y, hy, rfl⟩
        · exact last_ex hn hH gn p f y hy
theorem nle_ne {x : Int32} (h : ¬ x ≤ 0) : ¬ x = 0 := fun q => h (by rw [q]; exact Int32.le_refl 0)
theorem in_1 {x lo hi : Int32} (h1 : ¬ x < lo) (h2 : x ≤ hi) : ¬ sp_in x lo hi = 0 := by unfold sp_in; rw [if_neg h1, if_neg (le_nlt h2)]; decide
theorem nle_lt {x y : Int32} (h : ¬ x ≤ y) : y < x := by rw [Int32.lt_iff_toInt_lt]; rw [Int32.le_iff_toInt_le] at h; omega
theorem in_0 {x lo hi : Int32} (h : x < lo ∨ ¬ x ≤ hi) : sp_in x lo hi = 0 := by
  unfold sp_in
  by_cases h1 : x < lo
  · rw [if_pos h1]
  · rw [if_neg h1, if_pos (nle_lt (h.resolve_left h1))]

set_option maxHeartbeats 4000000 in
set_option maxRecDepth 100000 in
theorem c_X1_fail (l : Launch) (sz : Nat) {D : va_G} {z : ClassId × ClassId} {a : Nat → Nat} {th : Int32} {n w : Nat} {gn lk pu fa he nv of mp mi : Nat → Int32} {k : Nat} {nt fu re : Int32} (x : Int32) : Met l yX1_fail (ws_ yX1_fail cX1_fail 2 (some .int)) ({ frames := 0, cells := 0, slots := 0, locals := 0 } : Room) (va_Pc [.ref (a 0), .int x] (fun U => U.heap.size = sz ∧ mI D z a th n w gn lk pu fa he nv of mp mi k nt fu re U ∧ va_D (fun _ => True) (mW z a th n w gn lk pu fa he nv of mp mi k nt fu re))) (va_Qi (fun (r : Int32) (_ : Unit) => r = 0) (fun _ t9 => va_P D vwCl (mW z a x n w gn lk pu fa he nv of mp mi k nt fu re) t9.heap ∧ kK D z t9 ∧ va_D (va_A (mW z a th n w gn lk pu fa he nv of mp mi k nt fu re) sz) (mW z a x n w gn lk pu fa he nv of mp mi k nt fu re)) (va_A (mW z a th n w gn lk pu fa he nv of mp mi k nt fu re) sz)) 0 0 (va_A (mW z a th n w gn lk pu fa he nv of mp mi k nt fu re) sz) := by
  refine Met.ofW (cc := cX1_fail) (maxL := 2) (ret := (some .int)) (by decide) rfl ?_
  intro p e s m args below meth c s₁ B hml hv
  obtain ⟨rfl, hsz, ⟨hP, hK⟩, hD0⟩ := hv
  have hx := B.exec
  have hb := B.bytes
  have hr := B.returns
  have hts := atoms_spec (ws := ws_ yX1_fail cX1_fail 2 (some .int)) B.pre
  have hts : ∀ w ∈ lw_all, w.before _ s = true := fun w h => hts w (List.mem_cons_of_mem _ h)
  have hown : s.vm.findClass RX1 = some m.cls := findClass_of_methodNamed B.named
  have hlocks := B.notSynchronized
  have hC : CallFix p m c cX1_fail 2 s _ lw_all RX1 := ⟨hx, hb, hml, hown, hts⟩
  subst hsz
  have hD := hD0.self (sz := s.heap.size)
  generalize hAe : va_A (mW z a th n w gn lk pu fa he nv of mp mi k nt fu re) s.heap.size = A at hD ⊢
  have hA : ∀ q : Nat, s.heap.size ≤ q → A q := fun q h => by rw [← hAe]; exact Or.inr h
  have hS : va_S A s.heap s.heap [] := va_S.rf
  have hl := lv_entry ([.ref (a 0), .int x]) (n := 2) (Nat.le_of_ble_eq_true rfl)
  rw [lg_entry_eq]
  generalize (lg_sl ([.ref (a 0), .int x]) ++ List.replicate (2 - (lg_sl ([.ref (a 0), .int x])).length) Slot.unset).toArray = ls at hl ⊢
  have hl : lv_has ls 2 [(0, .ref (a 0)), (1, .int x)] := hl
  refine lv_aload_n hx hb dX1_fail_0 rfl (lv_at hl 0 rfl) ?_
  refine lv_iload_n hx hb dX1_fail_1 rfl (lv_at hl 1 rfl) ?_
  refine mp_th hC hK hP hD hS dX1_fail_2 (fun H locs hP hD hS => ?_)
  refine lv_iconst (v := 0) hx hb dX1_fail_5 (by decide) ?_
  exact W.iret (v := 0) hx hb hr (fun t ht hW => ⟨⟨0, (), rfl, rfl, by rw [ht]; exact hP, va_K.moved hW.alike hK, hD⟩, hS.F ht⟩) hS.2.2 dX1_fail_6
set_option maxRecDepth 100000 in
theorem k_X1_fail {p : Program} {l : Launch} {e : Env} {R : Room} {s : State} {m : MethodId} {args : Array Value} {below : List Frame} {meth : Method} {c : Code} {H : Heap} {locs : List Loc} {cells slots : Nat} {Q : State → Prop} {D : va_G} {z : ClassId × ClassId} {a : Nat → Nat} {th : Int32} {n w : Nat} {gn lk pu fa he nv of mp mi : Nat → Int32} {k : Nat} {nt fu re : Int32} {cc : ByteArray} {nL pc : Nat} {ls : Array Slot} {rest : List Value} {A : Nat → Prop} {H0 : Heap} (hC : CallFix p m c cc nL s args lw_all RX1) (hK : kK D z s) (hP : va_P D vwCl (mW z a th n w gn lk pu fa he nv of mp mi k nt fu re) H) (hD : va_D A (mW z a th n w gn lk pu fa he nv of mp mi k nt fu re)) (hS : va_S A H0 H locs) (hA : ∀ q : Nat, H0.size ≤ q → A q) (hl : ls.size = nL) (hR : 1 ≤ R.frames ∧ 21 ≤ R.locals) (hz : cells ≤ R.cells ∧ slots ≤ R.slots) (hr : (rest.map fun v => v.category).sum ≤ 8) {x : Int32}   (hdg : decode cc pc = .ok (.invokevirtual 97, 3)) (kk : ∀ (H1 : Heap) (locs1 : List Loc), va_P D vwCl (mW z a x n w gn lk pu fa he nv of mp mi k nt fu re) H1 → va_D A (mW z a x n w gn lk pu fa he nv of mp mi k nt fu re) → va_S A H0 H1 locs1 → W p l e R s m args below meth c H1 locs1 cells slots Q (F0 m (pc + 3) ls (.int 0 :: rest))) : W p l e R s m args below meth c H locs cells slots Q (F0 m pc ls (.int x :: .ref (a 0) :: rest)) := by
  have hF := va_free (wc := mW z a th n w gn lk pu fa he nv of mp mi k nt fu re) hD hS hA [0, 1, 2, 3, 4, 5, 6, 7, 8, 9] rfl
  refine va_calli (va_runV (As := [.int x]) (rest := rest) hC (c_X1_fail l H.size x) (cwV 1 hC.2.2.2.2 (gi_V mM_X1_97 mV_X1_fail mS_X1_fail mI_MissRegistryModel mC_X1_fail) rfl rfl rfl (by decide +kernel) hR) ⟨fun a1 U g mk q => ⟨q.1, q.2.1, ⟨q.2.2.1.1, va_K.moved (u := U) (U := U.calling g mk a1) (Vm.Alike.refl U.vm) q.2.2.1.2⟩, q.2.2.2⟩, va_recv hK hP (ci := 1) (q0 := 0) rfl rfl, fun U hU hW => ⟨rfl, by rw [hU], ⟨by rw [hU]; exact hP, va_K.moved hW.alike hK⟩, hD.weaken (fun _ _ _ _ => trivial)⟩⟩ rfl rfl hl rfl (lv_room hr) hdg hz) hS (fun q _ h => hF q h) hF (fun r u t H1 locs1 ht hvm hw hB hz1 hk1 hS1 => ?_)
  obtain ⟨hP1, hK1, hD1⟩ := hB
  rw [ht] at hP1
  have hw : r = 0 := hw
  rw [hw]
  exact kk H1 locs1 hP1 (hD1.weaken (fun _ q9 _ h => hF q9.1 h)) hS1
set_option maxHeartbeats 4000000 in
set_option maxRecDepth 100000 in
theorem c_X1_told (l : Launch) (sz : Nat) {D : va_G} {z : ClassId × ClassId} {a : Nat → Nat} {th : Int32} {n w : Nat} {gn lk pu fa he nv of mp mi : Nat → Int32} {k : Nat} {nt fu re : Int32} (x : Int32) : Met l yX1_told (ws_ yX1_told cX1_told 2 (some .int)) ({ frames := 0, cells := 0, slots := 0, locals := 0 } : Room) (va_Pc [.ref (a 0), .int x] (fun U => U.heap.size = sz ∧ mI D z a th n w gn lk pu fa he nv of mp mi k nt fu re U ∧ va_D (fun _ => True) (mW z a th n w gn lk pu fa he nv of mp mi k nt fu re))) (va_Qi (fun (r : Int32) (_ : Unit) => r = x) (fun _ t9 => va_P D vwCl (mW z a 0 n w gn lk pu fa he nv of mp mi k nt fu re) t9.heap ∧ kK D z t9 ∧ va_D (va_A (mW z a th n w gn lk pu fa he nv of mp mi k nt fu re) sz) (mW z a 0 n w gn lk pu fa he nv of mp mi k nt fu re)) (va_A (mW z a th n w gn lk pu fa he nv of mp mi k nt fu re) sz)) 0 0 (va_A (mW z a th n w gn lk pu fa he nv of mp mi k nt fu re) sz) := by
  refine Met.ofW (cc := cX1_told) (maxL := 2) (ret := (some .int)) (by decide) rfl ?_
  intro p e s m args below meth c s₁ B hml hv
  obtain ⟨rfl, hsz, ⟨hP, hK⟩, hD0⟩ := hv
  have hx := B.exec
  have hb := B.bytes
  have hr := B.returns
  have hts := atoms_spec (ws := ws_ yX1_told cX1_told 2 (some .int)) B.pre
  have hts : ∀ w ∈ lw_all, w.before _ s = true := fun w h => hts w (List.mem_cons_of_mem _ h)
  have hown : s.vm.findClass RX1 = some m.cls := findClass_of_methodNamed B.named
  have hlocks := B.notSynchronized
  have hC : CallFix p m c cX1_told 2 s _ lw_all RX1 := ⟨hx, hb, hml, hown, hts⟩
  subst hsz
  have hD := hD0.self (sz := s.heap.size)
  generalize hAe : va_A (mW z a th n w gn lk pu fa he nv of mp mi k nt fu re) s.heap.size = A at hD ⊢
  have hA : ∀ q : Nat, s.heap.size ≤ q → A q := fun q h => by rw [← hAe]; exact Or.inr h
  have hS : va_S A s.heap s.heap [] := va_S.rf
  have hl := lv_entry ([.ref (a 0), .int x]) (n := 2) (Nat.le_of_ble_eq_true rfl)
  rw [lg_entry_eq]
  generalize (lg_sl ([.ref (a 0), .int x]) ++ List.replicate (2 - (lg_sl ([.ref (a 0), .int x])).length) Slot.unset).toArray = ls at hl ⊢
  have hl : lv_has ls 2 [(0, .ref (a 0)), (1, .int x)] := hl
  refine lv_aload_n hx hb dX1_told_0 rfl (lv_at hl 0 rfl) ?_
  refine lv_iconst (v := 0) hx hb dX1_told_1 (by decide) ?_
  refine mp_th hC hK hP hD hS dX1_told_2 (fun H locs hP hD hS => ?_)
  refine lv_iload_n hx hb dX1_told_5 rfl (lv_at hl 1 rfl) ?_
  exact W.iret (v := x) hx hb hr (fun t ht hW => ⟨⟨x, (), rfl, rfl, by rw [ht]; exact hP, va_K.moved hW.alike hK, hD⟩, hS.F ht⟩) hS.2.2 dX1_told_6
set_option maxRecDepth 100000 in
theorem k_X1_told {p : Program} {l : Launch} {e : Env} {R : Room} {s : State} {m : MethodId} {args : Array Value} {below : List Frame} {meth : Method} {c : Code} {H : Heap} {locs : List Loc} {cells slots : Nat} {Q : State → Prop} {D : va_G} {z : ClassId × ClassId} {a : Nat → Nat} {th : Int32} {n w : Nat} {gn lk pu fa he nv of mp mi : Nat → Int32} {k : Nat} {nt fu re : Int32} {cc : ByteArray} {nL pc : Nat} {ls : Array Slot} {rest : List Value} {A : Nat → Prop} {H0 : Heap} (hC : CallFix p m c cc nL s args lw_all RX1) (hK : kK D z s) (hP : va_P D vwCl (mW z a th n w gn lk pu fa he nv of mp mi k nt fu re) H) (hD : va_D A (mW z a th n w gn lk pu fa he nv of mp mi k nt fu re)) (hS : va_S A H0 H locs) (hA : ∀ q : Nat, H0.size ≤ q → A q) (hl : ls.size = nL) (hR : 1 ≤ R.frames ∧ 21 ≤ R.locals) (hz : cells ≤ R.cells ∧ slots ≤ R.slots) (hr : (rest.map fun v => v.category).sum ≤ 8) {x : Int32}   (hdg : decode cc pc = .ok (.invokevirtual 128, 3)) (kk : ∀ (H1 : Heap) (locs1 : List Loc), va_P D vwCl (mW z a 0 n w gn lk pu fa he nv of mp mi k nt fu re) H1 → va_D A (mW z a 0 n w gn lk pu fa he nv of mp mi k nt fu re) → va_S A H0 H1 locs1 → W p l e R s m args below meth c H1 locs1 cells slots Q (F0 m (pc + 3) ls (.int x :: rest))) : W p l e R s m args below meth c H locs cells slots Q (F0 m pc ls (.int x :: .ref (a 0) :: rest)) := by
  have hF := va_free (wc := mW z a th n w gn lk pu fa he nv of mp mi k nt fu re) hD hS hA [0, 1, 2, 3, 4, 5, 6, 7, 8, 9] rfl
  refine va_calli (va_runV (As := [.int x]) (rest := rest) hC (c_X1_told l H.size x) (cwV 1 hC.2.2.2.2 (gi_V mM_X1_128 mV_X1_told mS_X1_told mI_MissRegistryModel mC_X1_told) rfl rfl rfl (by decide +kernel) hR) ⟨fun a1 U g mk q => ⟨q.1, q.2.1, ⟨q.2.2.1.1, va_K.moved (u := U) (U := U.calling g mk a1) (Vm.Alike.refl U.vm) q.2.2.1.2⟩, q.2.2.2⟩, va_recv hK hP (ci := 1) (q0 := 0) rfl rfl, fun U hU hW => ⟨rfl, by rw [hU], ⟨by rw [hU]; exact hP, va_K.moved hW.alike hK⟩, hD.weaken (fun _ _ _ _ => trivial)⟩⟩ rfl rfl hl rfl (lv_room hr) hdg hz) hS (fun q _ h => hF q h) hF (fun r u t H1 locs1 ht hvm hw hB hz1 hk1 hS1 => ?_)
  obtain ⟨hP1, hK1, hD1⟩ := hB
  rw [ht] at hP1
  have hw : r = x := hw
  rw [hw]
  exact kk H1 locs1 hP1 (hD1.weaken (fun _ q9 _ h => hF q9.1 h)) hS1
set_option maxHeartbeats 4000000 in
set_option maxRecDepth 100000 in
theorem c_X1_addPerson (l : Launch) (sz : Nat) {D : va_G} {z : ClassId × ClassId} {a : Nat → Nat} {th : Int32} {n w : Nat} {gn lk pu fa he nv of mp mi : Nat → Int32} {k : Nat} {nt fu re : Int32} (x : Int32) (h1 : ¬ x < 0) (h2 : x ≤ 99) (hn : n < 10) : Met l yX1_addPerson (ws_ yX1_addPerson cX1_addPerson 2 (some .int)) ({ frames := 1, cells := 0, slots := 0, locals := 22 } : Room) (va_Pc [.ref (a 0), .int x] (fun U => U.heap.size = sz ∧ mI D z a th n w gn lk pu fa he nv of mp mi k nt fu re U ∧ va_D (fun _ => True) (mW z a th n w gn lk pu fa he nv of mp mi k nt fu re))) (va_Qi (fun (r : Int32) (_ : Unit) => r = nI n) (fun _ t9 => va_P D vwCl (mW z a 0 (n + 1) w gn (upd lk n x) (upd pu n 100) fa (upd he n (-1)) nv of mp mi k nt fu re) t9.heap ∧ kK D z t9 ∧ va_D (va_A (mW z a th n w gn lk pu fa he nv of mp mi k nt fu re) sz) (mW z a 0 (n + 1) w gn (upd lk n x) (upd pu n 100) fa (upd he n (-1)) nv of mp mi k nt fu re)) (va_A (mW z a th n w gn lk pu fa he nv of mp mi k nt fu re) sz)) 0 0 (va_A (mW z a th n w gn lk pu fa he nv of mp mi k nt fu re) sz) := by
  refine Met.ofW (cc := cX1_addPerson) (maxL := 2) (ret := (some .int)) (by decide) rfl ?_
  intro p e s m args below meth c s₁ B hml hv
  obtain ⟨rfl, hsz, ⟨hP, hK⟩, hD0⟩ := hv
  have hx := B.exec
  have hb := B.bytes
  have hr := B.returns
  have hts := atoms_spec (ws := ws_ yX1_addPerson cX1_addPerson 2 (some .int)) B.pre
  have hts : ∀ w ∈ lw_all, w.before _ s = true := fun w h => hts w (List.mem_cons_of_mem _ h)
  have hown : s.vm.findClass RX1 = some m.cls := findClass_of_methodNamed B.named
  have hlocks := B.notSynchronized
  have hC : CallFix p m c cX1_addPerson 2 s _ lw_all RX1 := ⟨hx, hb, hml, hown, hts⟩
  subst hsz
  have hD := hD0.self (sz := s.heap.size)
  generalize hAe : va_A (mW z a th n w gn lk pu fa he nv of mp mi k nt fu re) s.heap.size = A at hD ⊢
  have hA : ∀ q : Nat, s.heap.size ≤ q → A q := fun q h => by rw [← hAe]; exact Or.inr h
  have hS : va_S A s.heap s.heap [] := va_S.rf
  have hl := lv_entry ([.ref (a 0), .int x]) (n := 2) (Nat.le_of_ble_eq_true rfl)
  rw [lg_entry_eq]
  generalize (lg_sl ([.ref (a 0), .int x]) ++ List.replicate (2 - (lg_sl ([.ref (a 0), .int x])).length) Slot.unset).toArray = ls at hl ⊢
  have hl : lv_has ls 2 [(0, .ref (a 0)), (1, .int x)] := hl
  refine lv_aload_n hx hb dX1_addPerson_0 rfl (lv_at hl 0 rfl) ?_
  refine lv_iconst (v := 0) hx hb dX1_addPerson_1 (by decide) ?_
  refine mp_th hC hK hP hD hS dX1_addPerson_2 (fun H locs hP hD hS => ?_)
  refine lv_iload_n hx hb dX1_addPerson_5 rfl (lv_at hl 1 rfl) ?_
  refine lv_iconst (v := 0) hx hb dX1_addPerson_6 (by decide) ?_
  refine lv_bipush (v := 99) hx hb dX1_addPerson_7 (by decide) ?_
  refine k_X1_isIn hC hl.1 ⟨Nat.le_of_ble_eq_true rfl, Nat.le_of_ble_eq_true rfl⟩ ⟨Nat.zero_le _, Nat.zero_le _⟩ (Nat.le_of_ble_eq_true rfl)   dX1_addPerson_9 ?_
  refine lv_if_ne (tgt := 21) hx hb dX1_addPerson_12 (by decide) (fun c_12 => ?_) (fun c_12 => ?_)
  · refine lv_aload_n hx hb dX1_addPerson_21 rfl (lv_at hl 0 rfl) ?_
    refine mg_n hC hK hP dX1_addPerson_22 ?_
    refine lv_bipush (v := 10) hx hb dX1_addPerson_25 (by decide) ?_
    refine lv_icmp_ne (tgt := 36) hx hb dX1_addPerson_27 (by decide) (fun c_27 => ?_) (fun c_27 => ?_)
    · refine lv_aload_n hx hb dX1_addPerson_36 rfl (lv_at hl 0 rfl) ?_
      refine mg_lk hC hK hP dX1_addPerson_37 ?_
      refine lv_aload_n hx hb dX1_addPerson_40 rfl (lv_at hl 0 rfl) ?_
      refine mg_n hC hK hP dX1_addPerson_41 ?_
      refine lv_iload_n hx hb dX1_addPerson_44 rfl (lv_at hl 1 rfl) ?_
      refine ms_lk hC hK hP hD hS n rfl (by omega) dX1_addPerson_45 (fun H locs hP hD hS => ?_)
      refine lv_aload_n hx hb dX1_addPerson_46 rfl (lv_at hl 0 rfl) ?_
      refine mg_pu hC hK hP dX1_addPerson_47 ?_
      refine lv_aload_n hx hb dX1_addPerson_50 rfl (lv_at hl 0 rfl) ?_
      refine mg_n hC hK hP dX1_addPerson_51 ?_
      refine lv_bipush (v := 100) hx hb dX1_addPerson_54 (by decide) ?_
      refine ms_pu hC hK hP hD hS n rfl (by omega) dX1_addPerson_56 (fun H locs hP hD hS => ?_)
      refine lv_aload_n hx hb dX1_addPerson_57 rfl (lv_at hl 0 rfl) ?_
      refine mg_he hC hK hP dX1_addPerson_58 ?_
      refine lv_aload_n hx hb dX1_addPerson_61 rfl (lv_at hl 0 rfl) ?_
      refine mg_n hC hK hP dX1_addPerson_62 ?_
      refine lv_iconst (v := (-1)) hx hb dX1_addPerson_65 (by decide) ?_
      refine ms_he hC hK hP hD hS n rfl (by omega) dX1_addPerson_66 (fun H locs hP hD hS => ?_)
      refine lv_aload_n hx hb dX1_addPerson_67 rfl (lv_at hl 0 rfl) ?_
      refine lv_dup hx hb dX1_addPerson_68 rfl ?_
      refine mg_n hC hK hP dX1_addPerson_69 ?_
      refine lv_iconst (v := 1) hx hb dX1_addPerson_72 (by decide) ?_
      refine lv_iadd hx hb dX1_addPerson_73 ?_
      refine mp_n (n' := n + 1) hC hK hP hD hS (nI_1 _) dX1_addPerson_74 (fun H locs hP hD hS => ?_)
      refine lv_aload_n hx hb dX1_addPerson_77 rfl (lv_at hl 0 rfl) ?_
      refine mg_n hC hK hP dX1_addPerson_78 ?_
      refine lv_iconst (v := 1) hx hb dX1_addPerson_81 (by decide) ?_
      refine lv_isub hx hb dX1_addPerson_82 ?_
      exact W.iret (v := (nI (n + 1)) - 1) hx hb hr (fun t ht hW => ⟨⟨(nI (n + 1)) - 1, (), rfl, (nI_pred n), by rw [ht]; exact hP, va_K.moved hW.alike hK, hD⟩, hS.F ht⟩) hS.2.2 dX1_addPerson_83
    · exact absurd (show n = 10 from nn_eq (b := 10) (by omega) c_27) (by omega)
  · exact absurd c_12 (in_1 h1 h2)
set_option maxHeartbeats 4000000 in
set_option maxRecDepth 100000 in
theorem c_X1_addPerson_a (l : Launch) (sz : Nat) {D : va_G} {z : ClassId × ClassId} {a : Nat → Nat} {th : Int32} {n w : Nat} {gn lk pu fa he nv of mp mi : Nat → Int32} {k : Nat} {nt fu re : Int32} (x : Int32) (hbad : x < 0 ∨ ¬ x ≤ 99) : Met l yX1_addPerson (ws_ yX1_addPerson cX1_addPerson 2 (some .int)) ({ frames := 1, cells := 0, slots := 0, locals := 22 } : Room) (va_Pc [.ref (a 0), .int x] (fun U => U.heap.size = sz ∧ mI D z a th n w gn lk pu fa he nv of mp mi k nt fu re U ∧ va_D (fun _ => True) (mW z a th n w gn lk pu fa he nv of mp mi k nt fu re))) (va_Qi (fun (r : Int32) (_ : Unit) => r = 0) (fun _ t9 => va_P D vwCl (mW z a 1 n w gn lk pu fa he nv of mp mi k nt fu re) t9.heap ∧ kK D z t9 ∧ va_D (va_A (mW z a th n w gn lk pu fa he nv of mp mi k nt fu re) sz) (mW z a 1 n w gn lk pu fa he nv of mp mi k nt fu re)) (va_A (mW z a th n w gn lk pu fa he nv of mp mi k nt fu re) sz)) 0 0 (va_A (mW z a th n w gn lk pu fa he nv of mp mi k nt fu re) sz) := by
  refine Met.ofW (cc := cX1_addPerson) (maxL := 2) (ret := (some .int)) (by decide) rfl ?_
  intro p e s m args below meth c s₁ B hml hv
  obtain ⟨rfl, hsz, ⟨hP, hK⟩, hD0⟩ := hv
  have hx := B.exec
  have hb := B.bytes
  have hr := B.returns
  have hts := atoms_spec (ws := ws_ yX1_addPerson cX1_addPerson 2 (some .int)) B.pre
  have hts : ∀ w ∈ lw_all, w.before _ s = true := fun w h => hts w (List.mem_cons_of_mem _ h)
  have hown : s.vm.findClass RX1 = some m.cls := findClass_of_methodNamed B.named
  have hlocks := B.notSynchronized
  have hC : CallFix p m c cX1_addPerson 2 s _ lw_all RX1 := ⟨hx, hb, hml, hown, hts⟩
  subst hsz
  have hD := hD0.self (sz := s.heap.size)
  generalize hAe : va_A (mW z a th n w gn lk pu fa he nv of mp mi k nt fu re) s.heap.size = A at hD ⊢
  have hA : ∀ q : Nat, s.heap.size ≤ q → A q := fun q h => by rw [← hAe]; exact Or.inr h
  have hS : va_S A s.heap s.heap [] := va_S.rf
  have hl := lv_entry ([.ref (a 0), .int x]) (n := 2) (Nat.le_of_ble_eq_true rfl)
  rw [lg_entry_eq]
  generalize (lg_sl ([.ref (a 0), .int x]) ++ List.replicate (2 - (lg_sl ([.ref (a 0), .int x])).length) Slot.unset).toArray = ls at hl ⊢
  have hl : lv_has ls 2 [(0, .ref (a 0)), (1, .int x)] := hl
  refine lv_aload_n hx hb dX1_addPerson_0 rfl (lv_at hl 0 rfl) ?_
  refine lv_iconst (v := 0) hx hb dX1_addPerson_1 (by decide) ?_
  refine mp_th hC hK hP hD hS dX1_addPerson_2 (fun H locs hP hD hS => ?_)
  refine lv_iload_n hx hb dX1_addPerson_5 rfl (lv_at hl 1 rfl) ?_
  refine lv_iconst (v := 0) hx hb dX1_addPerson_6 (by decide) ?_
  refine lv_bipush (v := 99) hx hb dX1_addPerson_7 (by decide) ?_
  refine k_X1_isIn hC hl.1 ⟨Nat.le_of_ble_eq_true rfl, Nat.le_of_ble_eq_true rfl⟩ ⟨Nat.zero_le _, Nat.zero_le _⟩ (Nat.le_of_ble_eq_true rfl)   dX1_addPerson_9 ?_
  refine lv_if_ne (tgt := 21) hx hb dX1_addPerson_12 (by decide) (fun c_12 => ?_) (fun c_12 => ?_)
  · exact absurd (in_0 hbad) c_12
  · refine lv_aload_n hx hb dX1_addPerson_15 rfl (lv_at hl 0 rfl) ?_
    refine lv_iconst (v := 1) hx hb dX1_addPerson_16 (by decide) ?_
    refine k_X1_fail hC hK hP hD hS hA hl.1 ⟨Nat.le_of_ble_eq_true rfl, Nat.le_of_ble_eq_true rfl⟩ ⟨Nat.zero_le _, Nat.zero_le _⟩ (Nat.le_of_ble_eq_true rfl)   dX1_addPerson_17 (fun H locs hP hD hS => ?_)
    exact W.iret (v := 0) hx hb hr (fun t ht hW => ⟨⟨0, (), rfl, rfl, by rw [ht]; exact hP, va_K.moved hW.alike hK, hD⟩, hS.F ht⟩) hS.2.2 dX1_addPerson_20
set_option maxHeartbeats 4000000 in
set_option maxRecDepth 100000 in
theorem c_X1_addPerson_b (l : Launch) (sz : Nat) {D : va_G} {z : ClassId × ClassId} {a : Nat → Nat} {th : Int32} {n w : Nat} {gn lk pu fa he nv of mp mi : Nat → Int32} {k : Nat} {nt fu re : Int32} (x : Int32) (h1 : ¬ x < 0) (h2 : x ≤ 99) (hn : n = 10) : Met l yX1_addPerson (ws_ yX1_addPerson cX1_addPerson 2 (some .int)) ({ frames := 1, cells := 0, slots := 0, locals := 22 } : Room) (va_Pc [.ref (a 0), .int x] (fun U => U.heap.size = sz ∧ mI D z a th n w gn lk pu fa he nv of mp mi k nt fu re U ∧ va_D (fun _ => True) (mW z a th n w gn lk pu fa he nv of mp mi k nt fu re))) (va_Qi (fun (r : Int32) (_ : Unit) => r = 0) (fun _ t9 => va_P D vwCl (mW z a 2 n w gn lk pu fa he nv of mp mi k nt fu re) t9.heap ∧ kK D z t9 ∧ va_D (va_A (mW z a th n w gn lk pu fa he nv of mp mi k nt fu re) sz) (mW z a 2 n w gn lk pu fa he nv of mp mi k nt fu re)) (va_A (mW z a th n w gn lk pu fa he nv of mp mi k nt fu re) sz)) 0 0 (va_A (mW z a th n w gn lk pu fa he nv of mp mi k nt fu re) sz) := by
  refine Met.ofW (cc := cX1_addPerson) (maxL := 2) (ret := (some .int)) (by decide) rfl ?_
  intro p e s m args below meth c s₁ B hml hv
  obtain ⟨rfl, hsz, ⟨hP, hK⟩, hD0⟩ := hv
  have hx := B.exec
  have hb := B.bytes
  have hr := B.returns
  have hts := atoms_spec (ws := ws_ yX1_addPerson cX1_addPerson 2 (some .int)) B.pre
  have hts : ∀ w ∈ lw_all, w.before _ s = true := fun w h => hts w (List.mem_cons_of_mem _ h)
  have hown : s.vm.findClass RX1 = some m.cls := findClass_of_methodNamed B.named
  have hlocks := B.notSynchronized
  have hC : CallFix p m c cX1_addPerson 2 s _ lw_all RX1 := ⟨hx, hb, hml, hown, hts⟩
  subst hsz
  have hD := hD0.self (sz := s.heap.size)
  generalize hAe : va_A (mW z a th n w gn lk pu fa he nv of mp mi k nt fu re) s.heap.size = A at hD ⊢
  have hA : ∀ q : Nat, s.heap.size ≤ q → A q := fun q h => by rw [← hAe]; exact Or.inr h
  have hS : va_S A s.heap s.heap [] := va_S.rf
  have hl := lv_entry ([.ref (a 0), .int x]) (n := 2) (Nat.le_of_ble_eq_true rfl)
  rw [lg_entry_eq]
  generalize (lg_sl ([.ref (a 0), .int x]) ++ List.replicate (2 - (lg_sl ([.ref (a 0), .int x])).length) Slot.unset).toArray = ls at hl ⊢
  have hl : lv_has ls 2 [(0, .ref (a 0)), (1, .int x)] := hl
  refine lv_aload_n hx hb dX1_addPerson_0 rfl (lv_at hl 0 rfl) ?_
  refine lv_iconst (v := 0) hx hb dX1_addPerson_1 (by decide) ?_
  refine mp_th hC hK hP hD hS dX1_addPerson_2 (fun H locs hP hD hS => ?_)
  refine lv_iload_n hx hb dX1_addPerson_5 rfl (lv_at hl 1 rfl) ?_
  refine lv_iconst (v := 0) hx hb dX1_addPerson_6 (by decide) ?_
  refine lv_bipush (v := 99) hx hb dX1_addPerson_7 (by decide) ?_
  refine k_X1_isIn hC hl.1 ⟨Nat.le_of_ble_eq_true rfl, Nat.le_of_ble_eq_true rfl⟩ ⟨Nat.zero_le _, Nat.zero_le _⟩ (Nat.le_of_ble_eq_true rfl)   dX1_addPerson_9 ?_
  refine lv_if_ne (tgt := 21) hx hb dX1_addPerson_12 (by decide) (fun c_12 => ?_) (fun c_12 => ?_)
  · refine lv_aload_n hx hb dX1_addPerson_21 rfl (lv_at hl 0 rfl) ?_
    refine mg_n hC hK hP dX1_addPerson_22 ?_
    refine lv_bipush (v := 10) hx hb dX1_addPerson_25 (by decide) ?_
    refine lv_icmp_ne (tgt := 36) hx hb dX1_addPerson_27 (by decide) (fun c_27 => ?_) (fun c_27 => ?_)
    · exact absurd (show nI n = 10 by rw [hn]; rfl) c_27
    · refine lv_aload_n hx hb dX1_addPerson_30 rfl (lv_at hl 0 rfl) ?_
      refine lv_iconst (v := 2) hx hb dX1_addPerson_31 (by decide) ?_
      refine k_X1_fail hC hK hP hD hS hA hl.1 ⟨Nat.le_of_ble_eq_true rfl, Nat.le_of_ble_eq_true rfl⟩ ⟨Nat.zero_le _, Nat.zero_le _⟩ (Nat.le_of_ble_eq_true rfl)   dX1_addPerson_32 (fun H locs hP hD hS => ?_)
      exact W.iret (v := 0) hx hb hr (fun t ht hW => ⟨⟨0, (), rfl, rfl, by rw [ht]; exact hP, va_K.moved hW.alike hK, hD⟩, hS.F ht⟩) hS.2.2 dX1_addPerson_35
  · exact absurd c_12 (in_1 h1 h2)
set_option maxHeartbeats 4000000 in
set_option maxRecDepth 100000 in
theorem c_X1_addWitness (l : Launch) (sz : Nat) {D : va_G} {z : ClassId × ClassId} {a : Nat → Nat} {th : Int32} {n w : Nat} {gn lk pu fa he nv of mp mi : Nat → Int32} {k : Nat} {nt fu re : Int32} (x : Int32) (h1 : ¬ x < 0) (h2 : x ≤ 9) (hw : w < 6) : Met l yX1_addWitness (ws_ yX1_addWitness cX1_addWitness 2 (some .int)) ({ frames := 1, cells := 0, slots := 0, locals := 22 } : Room) (va_Pc [.ref (a 0), .int x] (fun U => U.heap.size = sz ∧ mI D z a th n w gn lk pu fa he nv of mp mi k nt fu re U ∧ va_D (fun _ => True) (mW z a th n w gn lk pu fa he nv of mp mi k nt fu re))) (va_Qi (fun (r : Int32) (_ : Unit) => r = nI w) (fun _ t9 => va_P D vwCl (mW z a 0 n (w + 1) gn lk pu fa he (upd nv w x) of mp mi k nt fu re) t9.heap ∧ kK D z t9 ∧ va_D (va_A (mW z a th n w gn lk pu fa he nv of mp mi k nt fu re) sz) (mW z a 0 n (w + 1) gn lk pu fa he (upd nv w x) of mp mi k nt fu re)) (va_A (mW z a th n w gn lk pu fa he nv of mp mi k nt fu re) sz)) 0 0 (va_A (mW z a th n w gn lk pu fa he nv of mp mi k nt fu re) sz) := by
  refine Met.ofW (cc := cX1_addWitness) (maxL := 2) (ret := (some .int)) (by decide) rfl ?_
  intro p e s m args below meth c s₁ B hml hv
  obtain ⟨rfl, hsz, ⟨hP, hK⟩, hD0⟩ := hv
  have hx := B.exec
  have hb := B.bytes
  have hr := B.returns
  have hts := atoms_spec (ws := ws_ yX1_addWitness cX1_addWitness 2 (some .int)) B.pre
  have hts : ∀ w ∈ lw_all, w.before _ s = true := fun w h => hts w (List.mem_cons_of_mem _ h)
  have hown : s.vm.findClass RX1 = some m.cls := findClass_of_methodNamed B.named
  have hlocks := B.notSynchronized
  have hC : CallFix p m c cX1_addWitness 2 s _ lw_all RX1 := ⟨hx, hb, hml, hown, hts⟩
  subst hsz
  have hD := hD0.self (sz := s.heap.size)
  generalize hAe : va_A (mW z a th n w gn lk pu fa he nv of mp mi k nt fu re) s.heap.size = A at hD ⊢
  have hA : ∀ q : Nat, s.heap.size ≤ q → A q := fun q h => by rw [← hAe]; exact Or.inr h
  have hS : va_S A s.heap s.heap [] := va_S.rf
  have hl := lv_entry ([.ref (a 0), .int x]) (n := 2) (Nat.le_of_ble_eq_true rfl)
  rw [lg_entry_eq]
  generalize (lg_sl ([.ref (a 0), .int x]) ++ List.replicate (2 - (lg_sl ([.ref (a 0), .int x])).length) Slot.unset).toArray = ls at hl ⊢
  have hl : lv_has ls 2 [(0, .ref (a 0)), (1, .int x)] := hl
  refine lv_aload_n hx hb dX1_addWitness_0 rfl (lv_at hl 0 rfl) ?_
  refine lv_iconst (v := 0) hx hb dX1_addWitness_1 (by decide) ?_
  refine mp_th hC hK hP hD hS dX1_addWitness_2 (fun H locs hP hD hS => ?_)
  refine lv_iload_n hx hb dX1_addWitness_5 rfl (lv_at hl 1 rfl) ?_
  refine lv_iconst (v := 0) hx hb dX1_addWitness_6 (by decide) ?_
  refine lv_bipush (v := 9) hx hb dX1_addWitness_7 (by decide) ?_
  refine k_X1_isIn hC hl.1 ⟨Nat.le_of_ble_eq_true rfl, Nat.le_of_ble_eq_true rfl⟩ ⟨Nat.zero_le _, Nat.zero_le _⟩ (Nat.le_of_ble_eq_true rfl)   dX1_addWitness_9 ?_
  refine lv_if_ne (tgt := 21) hx hb dX1_addWitness_12 (by decide) (fun c_12 => ?_) (fun c_12 => ?_)
  · refine lv_aload_n hx hb dX1_addWitness_21 rfl (lv_at hl 0 rfl) ?_
    refine mg_w hC hK hP dX1_addWitness_22 ?_
    refine lv_bipush (v := 6) hx hb dX1_addWitness_25 (by decide) ?_
    refine lv_icmp_ne (tgt := 36) hx hb dX1_addWitness_27 (by decide) (fun c_27 => ?_) (fun c_27 => ?_)
    · refine lv_aload_n hx hb dX1_addWitness_36 rfl (lv_at hl 0 rfl) ?_
      refine mg_nv hC hK hP dX1_addWitness_37 ?_
      refine lv_aload_n hx hb dX1_addWitness_40 rfl (lv_at hl 0 rfl) ?_
      refine mg_w hC hK hP dX1_addWitness_41 ?_
      refine lv_iload_n hx hb dX1_addWitness_44 rfl (lv_at hl 1 rfl) ?_
      refine ms_nv hC hK hP hD hS w rfl (by omega) dX1_addWitness_45 (fun H locs hP hD hS => ?_)
      refine lv_aload_n hx hb dX1_addWitness_46 rfl (lv_at hl 0 rfl) ?_
      refine lv_dup hx hb dX1_addWitness_47 rfl ?_
      refine mg_w hC hK hP dX1_addWitness_48 ?_
      refine lv_iconst (v := 1) hx hb dX1_addWitness_51 (by decide) ?_
      refine lv_iadd hx hb dX1_addWitness_52 ?_
      refine mp_w (w' := w + 1) hC hK hP hD hS (nI_1 _) dX1_addWitness_53 (fun H locs hP hD hS => ?_)
      refine lv_aload_n hx hb dX1_addWitness_56 rfl (lv_at hl 0 rfl) ?_
      refine mg_w hC hK hP dX1_addWitness_57 ?_
      refine lv_iconst (v := 1) hx hb dX1_addWitness_60 (by decide) ?_
      refine lv_isub hx hb dX1_addWitness_61 ?_
      exact W.iret (v := (nI (w + 1)) - 1) hx hb hr (fun t ht hW => ⟨⟨(nI (w + 1)) - 1, (), rfl, (nI_pred w), by rw [ht]; exact hP, va_K.moved hW.alike hK, hD⟩, hS.F ht⟩) hS.2.2 dX1_addWitness_62
    · exact absurd (show w = 6 from nn_eq (b := 6) (by omega) c_27) (by omega)
  · exact absurd c_12 (in_1 h1 h2)
set_option maxHeartbeats 4000000 in
set_option maxRecDepth 100000 in
theorem c_X1_addWitness_a (l : Launch) (sz : Nat) {D : va_G} {z : ClassId × ClassId} {a : Nat → Nat} {th : Int32} {n w : Nat} {gn lk pu fa he nv of mp mi : Nat → Int32} {k : Nat} {nt fu re : Int32} (x : Int32) (hbad : x < 0 ∨ ¬ x ≤ 9) : Met l yX1_addWitness (ws_ yX1_addWitness cX1_addWitness 2 (some .int)) ({ frames := 1, cells := 0, slots := 0, locals := 22 } : Room) (va_Pc [.ref (a 0), .int x] (fun U => U.heap.size = sz ∧ mI D z a th n w gn lk pu fa he nv of mp mi k nt fu re U ∧ va_D (fun _ => True) (mW z a th n w gn lk pu fa he nv of mp mi k nt fu re))) (va_Qi (fun (r : Int32) (_ : Unit) => r = 0) (fun _ t9 => va_P D vwCl (mW z a 1 n w gn lk pu fa he nv of mp mi k nt fu re) t9.heap ∧ kK D z t9 ∧ va_D (va_A (mW z a th n w gn lk pu fa he nv of mp mi k nt fu re) sz) (mW z a 1 n w gn lk pu fa he nv of mp mi k nt fu re)) (va_A (mW z a th n w gn lk pu fa he nv of mp mi k nt fu re) sz)) 0 0 (va_A (mW z a th n w gn lk pu fa he nv of mp mi k nt fu re) sz) := by
  refine Met.ofW (cc := cX1_addWitness) (maxL := 2) (ret := (some .int)) (by decide) rfl ?_
  intro p e s m args below meth c s₁ B hml hv
  obtain ⟨rfl, hsz, ⟨hP, hK⟩, hD0⟩ := hv
  have hx := B.exec
  have hb := B.bytes
  have hr := B.returns
  have hts := atoms_spec (ws := ws_ yX1_addWitness cX1_addWitness 2 (some .int)) B.pre
  have hts : ∀ w ∈ lw_all, w.before _ s = true := fun w h => hts w (List.mem_cons_of_mem _ h)
  have hown : s.vm.findClass RX1 = some m.cls := findClass_of_methodNamed B.named
  have hlocks := B.notSynchronized
  have hC : CallFix p m c cX1_addWitness 2 s _ lw_all RX1 := ⟨hx, hb, hml, hown, hts⟩
  subst hsz
  have hD := hD0.self (sz := s.heap.size)
  generalize hAe : va_A (mW z a th n w gn lk pu fa he nv of mp mi k nt fu re) s.heap.size = A at hD ⊢
  have hA : ∀ q : Nat, s.heap.size ≤ q → A q := fun q h => by rw [← hAe]; exact Or.inr h
  have hS : va_S A s.heap s.heap [] := va_S.rf
  have hl := lv_entry ([.ref (a 0), .int x]) (n := 2) (Nat.le_of_ble_eq_true rfl)
  rw [lg_entry_eq]
  generalize (lg_sl ([.ref (a 0), .int x]) ++ List.replicate (2 - (lg_sl ([.ref (a 0), .int x])).length) Slot.unset).toArray = ls at hl ⊢
  have hl : lv_has ls 2 [(0, .ref (a 0)), (1, .int x)] := hl
  refine lv_aload_n hx hb dX1_addWitness_0 rfl (lv_at hl 0 rfl) ?_
  refine lv_iconst (v := 0) hx hb dX1_addWitness_1 (by decide) ?_
  refine mp_th hC hK hP hD hS dX1_addWitness_2 (fun H locs hP hD hS => ?_)
  refine lv_iload_n hx hb dX1_addWitness_5 rfl (lv_at hl 1 rfl) ?_
  refine lv_iconst (v := 0) hx hb dX1_addWitness_6 (by decide) ?_
  refine lv_bipush (v := 9) hx hb dX1_addWitness_7 (by decide) ?_
  refine k_X1_isIn hC hl.1 ⟨Nat.le_of_ble_eq_true rfl, Nat.le_of_ble_eq_true rfl⟩ ⟨Nat.zero_le _, Nat.zero_le _⟩ (Nat.le_of_ble_eq_true rfl)   dX1_addWitness_9 ?_
  refine lv_if_ne (tgt := 21) hx hb dX1_addWitness_12 (by decide) (fun c_12 => ?_) (fun c_12 => ?_)
  · exact absurd (in_0 hbad) c_12
  · refine lv_aload_n hx hb dX1_addWitness_15 rfl (lv_at hl 0 rfl) ?_
    refine lv_iconst (v := 1) hx hb dX1_addWitness_16 (by decide) ?_
    refine k_X1_fail hC hK hP hD hS hA hl.1 ⟨Nat.le_of_ble_eq_true rfl, Nat.le_of_ble_eq_true rfl⟩ ⟨Nat.zero_le _, Nat.zero_le _⟩ (Nat.le_of_ble_eq_true rfl)   dX1_addWitness_17 (fun H locs hP hD hS => ?_)
    exact W.iret (v := 0) hx hb hr (fun t ht hW => ⟨⟨0, (), rfl, rfl, by rw [ht]; exact hP, va_K.moved hW.alike hK, hD⟩, hS.F ht⟩) hS.2.2 dX1_addWitness_20
set_option maxHeartbeats 4000000 in
set_option maxRecDepth 100000 in
theorem c_X1_addWitness_b (l : Launch) (sz : Nat) {D : va_G} {z : ClassId × ClassId} {a : Nat → Nat} {th : Int32} {n w : Nat} {gn lk pu fa he nv of mp mi : Nat → Int32} {k : Nat} {nt fu re : Int32} (x : Int32) (h1 : ¬ x < 0) (h2 : x ≤ 9) (hw : w = 6) : Met l yX1_addWitness (ws_ yX1_addWitness cX1_addWitness 2 (some .int)) ({ frames := 1, cells := 0, slots := 0, locals := 22 } : Room) (va_Pc [.ref (a 0), .int x] (fun U => U.heap.size = sz ∧ mI D z a th n w gn lk pu fa he nv of mp mi k nt fu re U ∧ va_D (fun _ => True) (mW z a th n w gn lk pu fa he nv of mp mi k nt fu re))) (va_Qi (fun (r : Int32) (_ : Unit) => r = 0) (fun _ t9 => va_P D vwCl (mW z a 2 n w gn lk pu fa he nv of mp mi k nt fu re) t9.heap ∧ kK D z t9 ∧ va_D (va_A (mW z a th n w gn lk pu fa he nv of mp mi k nt fu re) sz) (mW z a 2 n w gn lk pu fa he nv of mp mi k nt fu re)) (va_A (mW z a th n w gn lk pu fa he nv of mp mi k nt fu re) sz)) 0 0 (va_A (mW z a th n w gn lk pu fa he nv of mp mi k nt fu re) sz) := by
  refine Met.ofW (cc := cX1_addWitness) (maxL := 2) (ret := (some .int)) (by decide) rfl ?_
  intro p e s m args below meth c s₁ B hml hv
  obtain ⟨rfl, hsz, ⟨hP, hK⟩, hD0⟩ := hv
  have hx := B.exec
  have hb := B.bytes
  have hr := B.returns
  have hts := atoms_spec (ws := ws_ yX1_addWitness cX1_addWitness 2 (some .int)) B.pre
  have hts : ∀ w ∈ lw_all, w.before _ s = true := fun w h => hts w (List.mem_cons_of_mem _ h)
  have hown : s.vm.findClass RX1 = some m.cls := findClass_of_methodNamed B.named
  have hlocks := B.notSynchronized
  have hC : CallFix p m c cX1_addWitness 2 s _ lw_all RX1 := ⟨hx, hb, hml, hown, hts⟩
  subst hsz
  have hD := hD0.self (sz := s.heap.size)
  generalize hAe : va_A (mW z a th n w gn lk pu fa he nv of mp mi k nt fu re) s.heap.size = A at hD ⊢
  have hA : ∀ q : Nat, s.heap.size ≤ q → A q := fun q h => by rw [← hAe]; exact Or.inr h
  have hS : va_S A s.heap s.heap [] := va_S.rf
  have hl := lv_entry ([.ref (a 0), .int x]) (n := 2) (Nat.le_of_ble_eq_true rfl)
  rw [lg_entry_eq]
  generalize (lg_sl ([.ref (a 0), .int x]) ++ List.replicate (2 - (lg_sl ([.ref (a 0), .int x])).length) Slot.unset).toArray = ls at hl ⊢
  have hl : lv_has ls 2 [(0, .ref (a 0)), (1, .int x)] := hl
  refine lv_aload_n hx hb dX1_addWitness_0 rfl (lv_at hl 0 rfl) ?_
  refine lv_iconst (v := 0) hx hb dX1_addWitness_1 (by decide) ?_
  refine mp_th hC hK hP hD hS dX1_addWitness_2 (fun H locs hP hD hS => ?_)
  refine lv_iload_n hx hb dX1_addWitness_5 rfl (lv_at hl 1 rfl) ?_
  refine lv_iconst (v := 0) hx hb dX1_addWitness_6 (by decide) ?_
  refine lv_bipush (v := 9) hx hb dX1_addWitness_7 (by decide) ?_
  refine k_X1_isIn hC hl.1 ⟨Nat.le_of_ble_eq_true rfl, Nat.le_of_ble_eq_true rfl⟩ ⟨Nat.zero_le _, Nat.zero_le _⟩ (Nat.le_of_ble_eq_true rfl)   dX1_addWitness_9 ?_
  refine lv_if_ne (tgt := 21) hx hb dX1_addWitness_12 (by decide) (fun c_12 => ?_) (fun c_12 => ?_)
  · refine lv_aload_n hx hb dX1_addWitness_21 rfl (lv_at hl 0 rfl) ?_
    refine mg_w hC hK hP dX1_addWitness_22 ?_
    refine lv_bipush (v := 6) hx hb dX1_addWitness_25 (by decide) ?_
    refine lv_icmp_ne (tgt := 36) hx hb dX1_addWitness_27 (by decide) (fun c_27 => ?_) (fun c_27 => ?_)
    · exact absurd (show nI w = 6 by rw [hw]; rfl) c_27
    · refine lv_aload_n hx hb dX1_addWitness_30 rfl (lv_at hl 0 rfl) ?_
      refine lv_iconst (v := 2) hx hb dX1_addWitness_31 (by decide) ?_
      refine k_X1_fail hC hK hP hD hS hA hl.1 ⟨Nat.le_of_ble_eq_true rfl, Nat.le_of_ble_eq_true rfl⟩ ⟨Nat.zero_le _, Nat.zero_le _⟩ (Nat.le_of_ble_eq_true rfl)   dX1_addWitness_32 (fun H locs hP hD hS => ?_)
      exact W.iret (v := 0) hx hb hr (fun t ht hW => ⟨⟨0, (), rfl, rfl, by rw [ht]; exact hP, va_K.moved hW.alike hK, hD⟩, hS.F ht⟩) hS.2.2 dX1_addWitness_35
  · exact absurd c_12 (in_1 h1 h2)
set_option maxHeartbeats 4000000 in
set_option maxRecDepth 100000 in
theorem c_X1_setHeir_0 (l : Launch) (sz : Nat) {D : va_G} {z : ClassId × ClassId} {a : Nat → Nat} {th : Int32} {n w : Nat} {gn lk pu fa he nv of mp mi : Nat → Int32} {k : Nat} {nt fu re : Int32} (i : Nat) (hi : i < n) (hn : n ≤ 10) (ha : gn i = 0) : Met l yX1_setHeir (ws_ yX1_setHeir cX1_setHeir 4 (some .int)) ({ frames := 2, cells := 0, slots := 0, locals := 43 } : Room) (va_Pc [.ref (a 0), .int (nI i), .int (-1)] (fun U => U.heap.size = sz ∧ mI D z a th n w gn lk pu fa he nv of mp mi k nt fu re U ∧ va_D (fun _ => True) (mW z a th n w gn lk pu fa he nv of mp mi k nt fu re))) (va_Qi (fun (r : Int32) (_ : Unit) => r = he i) (fun _ t9 => va_P D vwCl (mW z a 0 n w gn lk pu fa (upd he i (-1)) nv of mp mi k nt fu re) t9.heap ∧ kK D z t9 ∧ va_D (va_A (mW z a th n w gn lk pu fa he nv of mp mi k nt fu re) sz) (mW z a 0 n w gn lk pu fa (upd he i (-1)) nv of mp mi k nt fu re)) (va_A (mW z a th n w gn lk pu fa he nv of mp mi k nt fu re) sz)) 0 0 (va_A (mW z a th n w gn lk pu fa he nv of mp mi k nt fu re) sz) := by
  refine Met.ofW (cc := cX1_setHeir) (maxL := 4) (ret := (some .int)) (by decide) rfl ?_
  intro p e s m args below meth c s₁ B hml hv
  obtain ⟨rfl, hsz, ⟨hP, hK⟩, hD0⟩ := hv
  have hx := B.exec
  have hb := B.bytes
  have hr := B.returns
  have hts := atoms_spec (ws := ws_ yX1_setHeir cX1_setHeir 4 (some .int)) B.pre
  have hts : ∀ w ∈ lw_all, w.before _ s = true := fun w h => hts w (List.mem_cons_of_mem _ h)
  have hown : s.vm.findClass RX1 = some m.cls := findClass_of_methodNamed B.named
  have hlocks := B.notSynchronized
  have hC : CallFix p m c cX1_setHeir 4 s _ lw_all RX1 := ⟨hx, hb, hml, hown, hts⟩
  subst hsz
  have hD := hD0.self (sz := s.heap.size)
  generalize hAe : va_A (mW z a th n w gn lk pu fa he nv of mp mi k nt fu re) s.heap.size = A at hD ⊢
  have hA : ∀ q : Nat, s.heap.size ≤ q → A q := fun q h => by rw [← hAe]; exact Or.inr h
  have hS : va_S A s.heap s.heap [] := va_S.rf
  have hl := lv_entry ([.ref (a 0), .int (nI i), .int (-1)]) (n := 4) (Nat.le_of_ble_eq_true rfl)
  rw [lg_entry_eq]
  generalize (lg_sl ([.ref (a 0), .int (nI i), .int (-1)]) ++ List.replicate (4 - (lg_sl ([.ref (a 0), .int (nI i), .int (-1)])).length) Slot.unset).toArray = ls at hl ⊢
  have hl : lv_has ls 4 [(0, .ref (a 0)), (1, .int (nI i)), (2, .int (-1))] := hl
  refine lv_aload_n hx hb dX1_setHeir_0 rfl (lv_at hl 0 rfl) ?_
  refine lv_iconst (v := 0) hx hb dX1_setHeir_1 (by decide) ?_
  refine mp_th hC hK hP hD hS dX1_setHeir_2 (fun H locs hP hD hS => ?_)
  refine lv_aload_n hx hb dX1_setHeir_5 rfl (lv_at hl 0 rfl) ?_
  refine lv_iload_n hx hb dX1_setHeir_6 rfl (lv_at hl 1 rfl) ?_
  refine k_X1_isPerson hC hK hP hl.1 ⟨Nat.le_of_ble_eq_true rfl, Nat.le_of_ble_eq_true rfl⟩ ⟨Nat.zero_le _, Nat.zero_le _⟩ (Nat.le_of_ble_eq_true rfl)  (by first | assumption | omega) dX1_setHeir_7 ?_
  refine lv_if_eq (tgt := 26) hx hb dX1_setHeir_10 (by decide) (fun c_10 => ?_) (fun c_10 => ?_)
  · exact absurd c_10 (by rw [isP_in (by omega) hi]; decide)
  · refine lv_iload_n hx hb dX1_setHeir_13 rfl (lv_at hl 2 rfl) ?_
    refine lv_iconst (v := (-1)) hx hb dX1_setHeir_14 (by decide) ?_
    refine lv_icmp_eq (tgt := 32) hx hb dX1_setHeir_15 (by decide) (fun c_15 => ?_) (fun c_15 => ?_)
    · refine lv_iload_n hx hb dX1_setHeir_32 rfl (lv_at hl 1 rfl) ?_
      refine lv_iload_n hx hb dX1_setHeir_33 rfl (lv_at hl 2 rfl) ?_
      refine lv_icmp_ne (tgt := 43) hx hb dX1_setHeir_34 (by decide) (fun c_34 => ?_) (fun c_34 => ?_)
      · refine lv_aload_n hx hb dX1_setHeir_43 rfl (lv_at hl 0 rfl) ?_
        refine mg_gn hC hK hP dX1_setHeir_44 ?_
        refine lv_iload_n hx hb dX1_setHeir_47 rfl (lv_at hl 1 rfl) ?_
        refine ml_gn hC hK hP i rfl (by omega) dX1_setHeir_48 ?_
        refine lv_if_eq (tgt := 58) hx hb dX1_setHeir_49 (by decide) (fun c_49 => ?_) (fun c_49 => ?_)
        · refine lv_aload_n hx hb dX1_setHeir_58 rfl (lv_at hl 0 rfl) ?_
          refine mg_he hC hK hP dX1_setHeir_59 ?_
          refine lv_iload_n hx hb dX1_setHeir_62 rfl (lv_at hl 1 rfl) ?_
          refine ml_he hC hK hP i rfl (by omega) dX1_setHeir_63 ?_
          refine lv_istore_n (lv' := [(3, .int (he i)), (0, .ref (a 0)), (1, .int (nI i)), (2, .int (-1))]) hx hb dX1_setHeir_64 rfl hl (by decide) rfl (fun ls hl => ?_)
          refine lv_aload_n hx hb dX1_setHeir_65 rfl (lv_at hl 1 rfl) ?_
          refine mg_he hC hK hP dX1_setHeir_66 ?_
          refine lv_iload_n hx hb dX1_setHeir_69 rfl (lv_at hl 2 rfl) ?_
          refine lv_iload_n hx hb dX1_setHeir_70 rfl (lv_at hl 3 rfl) ?_
          refine ms_he hC hK hP hD hS i rfl (by omega) dX1_setHeir_71 (fun H locs hP hD hS => ?_)
          refine lv_iload_n hx hb dX1_setHeir_72 rfl (lv_at hl 0 rfl) ?_
          exact W.iret (v := he i) hx hb hr (fun t ht hW => ⟨⟨he i, (), rfl, rfl, by rw [ht]; exact hP, va_K.moved hW.alike hK, hD⟩, hS.F ht⟩) hS.2.2 dX1_setHeir_73
        · exact absurd ha c_49
      · exact absurd c_34 (ni_m1 (by omega))
    · exact absurd rfl c_15
set_option maxHeartbeats 4000000 in
set_option maxRecDepth 100000 in
theorem c_X1_setHeir_1 (l : Launch) (sz : Nat) {D : va_G} {z : ClassId × ClassId} {a : Nat → Nat} {th : Int32} {n w : Nat} {gn lk pu fa he nv of mp mi : Nat → Int32} {k : Nat} {nt fu re : Int32} (i : Nat) (j : Nat) (hi : i < n) (hj : j < n) (hn : n ≤ 10) (hij : ¬ i = j) (ha : gn i = 0) : Met l yX1_setHeir (ws_ yX1_setHeir cX1_setHeir 4 (some .int)) ({ frames := 2, cells := 0, slots := 0, locals := 43 } : Room) (va_Pc [.ref (a 0), .int (nI i), .int (nI j)] (fun U => U.heap.size = sz ∧ mI D z a th n w gn lk pu fa he nv of mp mi k nt fu re U ∧ va_D (fun _ => True) (mW z a th n w gn lk pu fa he nv of mp mi k nt fu re))) (va_Qi (fun (r : Int32) (_ : Unit) => r = he i) (fun _ t9 => va_P D vwCl (mW z a 0 n w gn lk pu fa (upd he i (nI j)) nv of mp mi k nt fu re) t9.heap ∧ kK D z t9 ∧ va_D (va_A (mW z a th n w gn lk pu fa he nv of mp mi k nt fu re) sz) (mW z a 0 n w gn lk pu fa (upd he i (nI j)) nv of mp mi k nt fu re)) (va_A (mW z a th n w gn lk pu fa he nv of mp mi k nt fu re) sz)) 0 0 (va_A (mW z a th n w gn lk pu fa he nv of mp mi k nt fu re) sz) := by
  refine Met.ofW (cc := cX1_setHeir) (maxL := 4) (ret := (some .int)) (by decide) rfl ?_
  intro p e s m args below meth c s₁ B hml hv
  obtain ⟨rfl, hsz, ⟨hP, hK⟩, hD0⟩ := hv
  have hx := B.exec
  have hb := B.bytes
  have hr := B.returns
  have hts := atoms_spec (ws := ws_ yX1_setHeir cX1_setHeir 4 (some .int)) B.pre
  have hts : ∀ w ∈ lw_all, w.before _ s = true := fun w h => hts w (List.mem_cons_of_mem _ h)
  have hown : s.vm.findClass RX1 = some m.cls := findClass_of_methodNamed B.named
  have hlocks := B.notSynchronized
  have hC : CallFix p m c cX1_setHeir 4 s _ lw_all RX1 := ⟨hx, hb, hml, hown, hts⟩
  subst hsz
  have hD := hD0.self (sz := s.heap.size)
  generalize hAe : va_A (mW z a th n w gn lk pu fa he nv of mp mi k nt fu re) s.heap.size = A at hD ⊢
  have hA : ∀ q : Nat, s.heap.size ≤ q → A q := fun q h => by rw [← hAe]; exact Or.inr h
  have hS : va_S A s.heap s.heap [] := va_S.rf
  have hl := lv_entry ([.ref (a 0), .int (nI i), .int (nI j)]) (n := 4) (Nat.le_of_ble_eq_true rfl)
  rw [lg_entry_eq]
  generalize (lg_sl ([.ref (a 0), .int (nI i), .int (nI j)]) ++ List.replicate (4 - (lg_sl ([.ref (a 0), .int (nI i), .int (nI j)])).length) Slot.unset).toArray = ls at hl ⊢
  have hl : lv_has ls 4 [(0, .ref (a 0)), (1, .int (nI i)), (2, .int (nI j))] := hl
  refine lv_aload_n hx hb dX1_setHeir_0 rfl (lv_at hl 0 rfl) ?_
  refine lv_iconst (v := 0) hx hb dX1_setHeir_1 (by decide) ?_
  refine mp_th hC hK hP hD hS dX1_setHeir_2 (fun H locs hP hD hS => ?_)
  refine lv_aload_n hx hb dX1_setHeir_5 rfl (lv_at hl 0 rfl) ?_
  refine lv_iload_n hx hb dX1_setHeir_6 rfl (lv_at hl 1 rfl) ?_
  refine k_X1_isPerson hC hK hP hl.1 ⟨Nat.le_of_ble_eq_true rfl, Nat.le_of_ble_eq_true rfl⟩ ⟨Nat.zero_le _, Nat.zero_le _⟩ (Nat.le_of_ble_eq_true rfl)  (by first | assumption | omega) dX1_setHeir_7 ?_
  refine lv_if_eq (tgt := 26) hx hb dX1_setHeir_10 (by decide) (fun c_10 => ?_) (fun c_10 => ?_)
  · exact absurd c_10 (by rw [isP_in (by omega) hi]; decide)
  · refine lv_iload_n hx hb dX1_setHeir_13 rfl (lv_at hl 2 rfl) ?_
    refine lv_iconst (v := (-1)) hx hb dX1_setHeir_14 (by decide) ?_
    refine lv_icmp_eq (tgt := 32) hx hb dX1_setHeir_15 (by decide) (fun c_15 => ?_) (fun c_15 => ?_)
    · exact absurd c_15 (ni_m1 (by omega))
    · refine lv_aload_n hx hb dX1_setHeir_18 rfl (lv_at hl 0 rfl) ?_
      refine lv_iload_n hx hb dX1_setHeir_19 rfl (lv_at hl 2 rfl) ?_
      refine k_X1_isPerson hC hK hP hl.1 ⟨Nat.le_of_ble_eq_true rfl, Nat.le_of_ble_eq_true rfl⟩ ⟨Nat.zero_le _, Nat.zero_le _⟩ (Nat.le_of_ble_eq_true rfl)  (by first | assumption | omega) dX1_setHeir_20 ?_
      refine lv_if_ne (tgt := 32) hx hb dX1_setHeir_23 (by decide) (fun c_23 => ?_) (fun c_23 => ?_)
      · refine lv_iload_n hx hb dX1_setHeir_32 rfl (lv_at hl 1 rfl) ?_
        refine lv_iload_n hx hb dX1_setHeir_33 rfl (lv_at hl 2 rfl) ?_
        refine lv_icmp_ne (tgt := 43) hx hb dX1_setHeir_34 (by decide) (fun c_34 => ?_) (fun c_34 => ?_)
        · refine lv_aload_n hx hb dX1_setHeir_43 rfl (lv_at hl 0 rfl) ?_
          refine mg_gn hC hK hP dX1_setHeir_44 ?_
          refine lv_iload_n hx hb dX1_setHeir_47 rfl (lv_at hl 1 rfl) ?_
          refine ml_gn hC hK hP i rfl (by omega) dX1_setHeir_48 ?_
          refine lv_if_eq (tgt := 58) hx hb dX1_setHeir_49 (by decide) (fun c_49 => ?_) (fun c_49 => ?_)
          · refine lv_aload_n hx hb dX1_setHeir_58 rfl (lv_at hl 0 rfl) ?_
            refine mg_he hC hK hP dX1_setHeir_59 ?_
            refine lv_iload_n hx hb dX1_setHeir_62 rfl (lv_at hl 1 rfl) ?_
            refine ml_he hC hK hP i rfl (by omega) dX1_setHeir_63 ?_
            refine lv_istore_n (lv' := [(3, .int (he i)), (0, .ref (a 0)), (1, .int (nI i)), (2, .int (nI j))]) hx hb dX1_setHeir_64 rfl hl (by decide) rfl (fun ls hl => ?_)
            refine lv_aload_n hx hb dX1_setHeir_65 rfl (lv_at hl 1 rfl) ?_
            refine mg_he hC hK hP dX1_setHeir_66 ?_
            refine lv_iload_n hx hb dX1_setHeir_69 rfl (lv_at hl 2 rfl) ?_
            refine lv_iload_n hx hb dX1_setHeir_70 rfl (lv_at hl 3 rfl) ?_
            refine ms_he hC hK hP hD hS i rfl (by omega) dX1_setHeir_71 (fun H locs hP hD hS => ?_)
            refine lv_iload_n hx hb dX1_setHeir_72 rfl (lv_at hl 0 rfl) ?_
            exact W.iret (v := he i) hx hb hr (fun t ht hW => ⟨⟨he i, (), rfl, rfl, by rw [ht]; exact hP, va_K.moved hW.alike hK, hD⟩, hS.F ht⟩) hS.2.2 dX1_setHeir_73
          · exact absurd ha c_49
        · exact absurd c_34 (fun q => hij (nn_eq (by omega) q))
      · exact absurd c_23 (by rw [isP_in (by omega) hj]; decide)
set_option maxHeartbeats 4000000 in
set_option maxRecDepth 100000 in
theorem c_X1_setHeir_a (l : Launch) (sz : Nat) {D : va_G} {z : ClassId × ClassId} {a : Nat → Nat} {th : Int32} {n w : Nat} {gn lk pu fa he nv of mp mi : Nat → Int32} {k : Nat} {nt fu re : Int32} (x y : Int32) (hn : n ≤ 10) (hbad : sp_isP n x = 0) : Met l yX1_setHeir (ws_ yX1_setHeir cX1_setHeir 4 (some .int)) ({ frames := 2, cells := 0, slots := 0, locals := 43 } : Room) (va_Pc [.ref (a 0), .int x, .int y] (fun U => U.heap.size = sz ∧ mI D z a th n w gn lk pu fa he nv of mp mi k nt fu re U ∧ va_D (fun _ => True) (mW z a th n w gn lk pu fa he nv of mp mi k nt fu re))) (va_Qi (fun (r : Int32) (_ : Unit) => r = 0) (fun _ t9 => va_P D vwCl (mW z a 1 n w gn lk pu fa he nv of mp mi k nt fu re) t9.heap ∧ kK D z t9 ∧ va_D (va_A (mW z a th n w gn lk pu fa he nv of mp mi k nt fu re) sz) (mW z a 1 n w gn lk pu fa he nv of mp mi k nt fu re)) (va_A (mW z a th n w gn lk pu fa he nv of mp mi k nt fu re) sz)) 0 0 (va_A (mW z a th n w gn lk pu fa he nv of mp mi k nt fu re) sz) := by
  refine Met.ofW (cc := cX1_setHeir) (maxL := 4) (ret := (some .int)) (by decide) rfl ?_
  intro p e s m args below meth c s₁ B hml hv
  obtain ⟨rfl, hsz, ⟨hP, hK⟩, hD0⟩ := hv
  have hx := B.exec
  have hb := B.bytes
  have hr := B.returns
  have hts := atoms_spec (ws := ws_ yX1_setHeir cX1_setHeir 4 (some .int)) B.pre
  have hts : ∀ w ∈ lw_all, w.before _ s = true := fun w h => hts w (List.mem_cons_of_mem _ h)
  have hown : s.vm.findClass RX1 = some m.cls := findClass_of_methodNamed B.named
  have hlocks := B.notSynchronized
  have hC : CallFix p m c cX1_setHeir 4 s _ lw_all RX1 := ⟨hx, hb, hml, hown, hts⟩
  subst hsz
  have hD := hD0.self (sz := s.heap.size)
  generalize hAe : va_A (mW z a th n w gn lk pu fa he nv of mp mi k nt fu re) s.heap.size = A at hD ⊢
  have hA : ∀ q : Nat, s.heap.size ≤ q → A q := fun q h => by rw [← hAe]; exact Or.inr h
  have hS : va_S A s.heap s.heap [] := va_S.rf
  have hl := lv_entry ([.ref (a 0), .int x, .int y]) (n := 4) (Nat.le_of_ble_eq_true rfl)
  rw [lg_entry_eq]
  generalize (lg_sl ([.ref (a 0), .int x, .int y]) ++ List.replicate (4 - (lg_sl ([.ref (a 0), .int x, .int y])).length) Slot.unset).toArray = ls at hl ⊢
  have hl : lv_has ls 4 [(0, .ref (a 0)), (1, .int x), (2, .int y)] := hl
  refine lv_aload_n hx hb dX1_setHeir_0 rfl (lv_at hl 0 rfl) ?_
  refine lv_iconst (v := 0) hx hb dX1_setHeir_1 (by decide) ?_
  refine mp_th hC hK hP hD hS dX1_setHeir_2 (fun H locs hP hD hS => ?_)
  refine lv_aload_n hx hb dX1_setHeir_5 rfl (lv_at hl 0 rfl) ?_
  refine lv_iload_n hx hb dX1_setHeir_6 rfl (lv_at hl 1 rfl) ?_
  refine k_X1_isPerson hC hK hP hl.1 ⟨Nat.le_of_ble_eq_true rfl, Nat.le_of_ble_eq_true rfl⟩ ⟨Nat.zero_le _, Nat.zero_le _⟩ (Nat.le_of_ble_eq_true rfl)  (by first | assumption | omega) dX1_setHeir_7 ?_
  refine lv_if_eq (tgt := 26) hx hb dX1_setHeir_10 (by decide) (fun c_10 => ?_) (fun c_10 => ?_)
  · refine lv_aload_n hx hb dX1_setHeir_26 rfl (lv_at hl 0 rfl) ?_
    refine lv_iconst (v := 1) hx hb dX1_setHeir_27 (by decide) ?_
    refine k_X1_fail hC hK hP hD hS hA hl.1 ⟨Nat.le_of_ble_eq_true rfl, Nat.le_of_ble_eq_true rfl⟩ ⟨Nat.zero_le _, Nat.zero_le _⟩ (Nat.le_of_ble_eq_true rfl)   dX1_setHeir_28 (fun H locs hP hD hS => ?_)
    exact W.iret (v := 0) hx hb hr (fun t ht hW => ⟨⟨0, (), rfl, rfl, by rw [ht]; exact hP, va_K.moved hW.alike hK, hD⟩, hS.F ht⟩) hS.2.2 dX1_setHeir_31
  · exact absurd hbad c_10
set_option maxHeartbeats 4000000 in
set_option maxRecDepth 100000 in
theorem c_X1_setHeir_b (l : Launch) (sz : Nat) {D : va_G} {z : ClassId × ClassId} {a : Nat → Nat} {th : Int32} {n w : Nat} {gn lk pu fa he nv of mp mi : Nat → Int32} {k : Nat} {nt fu re : Int32} (i : Nat) (hi : i < n) (hn : n ≤ 10) (y : Int32) (hy : ¬ y = -1) (hbad : sp_isP n y = 0) : Met l yX1_setHeir (ws_ yX1_setHeir cX1_setHeir 4 (some .int)) ({ frames := 2, cells := 0, slots := 0, locals := 43 } : Room) (va_Pc [.ref (a 0), .int (nI i), .int y] (fun U => U.heap.size = sz ∧ mI D z a th n w gn lk pu fa he nv of mp mi k nt fu re U ∧ va_D (fun _ => True) (mW z a th n w gn lk pu fa he nv of mp mi k nt fu re))) (va_Qi (fun (r : Int32) (_ : Unit) => r = 0) (fun _ t9 => va_P D vwCl (mW z a 1 n w gn lk pu fa he nv of mp mi k nt fu re) t9.heap ∧ kK D z t9 ∧ va_D (va_A (mW z a th n w gn lk pu fa he nv of mp mi k nt fu re) sz) (mW z a 1 n w gn lk pu fa he nv of mp mi k nt fu re)) (va_A (mW z a th n w gn lk pu fa he nv of mp mi k nt fu re) sz)) 0 0 (va_A (mW z a th n w gn lk pu fa he nv of mp mi k nt fu re) sz) := by
  refine Met.ofW (cc := cX1_setHeir) (maxL := 4) (ret := (some .int)) (by decide) rfl ?_
  intro p e s m args below meth c s₁ B hml hv
  obtain ⟨rfl, hsz, ⟨hP, hK⟩, hD0⟩ := hv
  have hx := B.exec
  have hb := B.bytes
  have hr := B.returns
  have hts := atoms_spec (ws := ws_ yX1_setHeir cX1_setHeir 4 (some .int)) B.pre
  have hts : ∀ w ∈ lw_all, w.before _ s = true := fun w h => hts w (List.mem_cons_of_mem _ h)
  have hown : s.vm.findClass RX1 = some m.cls := findClass_of_methodNamed B.named
  have hlocks := B.notSynchronized
  have hC : CallFix p m c cX1_setHeir 4 s _ lw_all RX1 := ⟨hx, hb, hml, hown, hts⟩
  subst hsz
  have hD := hD0.self (sz := s.heap.size)
  generalize hAe : va_A (mW z a th n w gn lk pu fa he nv of mp mi k nt fu re) s.heap.size = A at hD ⊢
  have hA : ∀ q : Nat, s.heap.size ≤ q → A q := fun q h => by rw [← hAe]; exact Or.inr h
  have hS : va_S A s.heap s.heap [] := va_S.rf
  have hl := lv_entry ([.ref (a 0), .int (nI i), .int y]) (n := 4) (Nat.le_of_ble_eq_true rfl)
  rw [lg_entry_eq]
  generalize (lg_sl ([.ref (a 0), .int (nI i), .int y]) ++ List.replicate (4 - (lg_sl ([.ref (a 0), .int (nI i), .int y])).length) Slot.unset).toArray = ls at hl ⊢
  have hl : lv_has ls 4 [(0, .ref (a 0)), (1, .int (nI i)), (2, .int y)] := hl
  refine lv_aload_n hx hb dX1_setHeir_0 rfl (lv_at hl 0 rfl) ?_
  refine lv_iconst (v := 0) hx hb dX1_setHeir_1 (by decide) ?_
  refine mp_th hC hK hP hD hS dX1_setHeir_2 (fun H locs hP hD hS => ?_)
  refine lv_aload_n hx hb dX1_setHeir_5 rfl (lv_at hl 0 rfl) ?_
  refine lv_iload_n hx hb dX1_setHeir_6 rfl (lv_at hl 1 rfl) ?_
  refine k_X1_isPerson hC hK hP hl.1 ⟨Nat.le_of_ble_eq_true rfl, Nat.le_of_ble_eq_true rfl⟩ ⟨Nat.zero_le _, Nat.zero_le _⟩ (Nat.le_of_ble_eq_true rfl)  (by first | assumption | omega) dX1_setHeir_7 ?_
  refine lv_if_eq (tgt := 26) hx hb dX1_setHeir_10 (by decide) (fun c_10 => ?_) (fun c_10 => ?_)
  · exact absurd c_10 (by rw [isP_in (by omega) hi]; decide)
  · refine lv_iload_n hx hb dX1_setHeir_13 rfl (lv_at hl 2 rfl) ?_
    refine lv_iconst (v := (-1)) hx hb dX1_setHeir_14 (by decide) ?_
    refine lv_icmp_eq (tgt := 32) hx hb dX1_setHeir_15 (by decide) (fun c_15 => ?_) (fun c_15 => ?_)
    · exact absurd c_15 hy
    · refine lv_aload_n hx hb dX1_setHeir_18 rfl (lv_at hl 0 rfl) ?_
      refine lv_iload_n hx hb dX1_setHeir_19 rfl (lv_at hl 2 rfl) ?_
      refine k_X1_isPerson hC hK hP hl.1 ⟨Nat.le_of_ble_eq_true rfl, Nat.le_of_ble_eq_true rfl⟩ ⟨Nat.zero_le _, Nat.zero_le _⟩ (Nat.le_of_ble_eq_true rfl)  (by first | assumption | omega) dX1_setHeir_20 ?_
      refine lv_if_ne (tgt := 32) hx hb dX1_setHeir_23 (by decide) (fun c_23 => ?_) (fun c_23 => ?_)
      · exact absurd hbad c_23
      · refine lv_aload_n hx hb dX1_setHeir_26 rfl (lv_at hl 0 rfl) ?_
        refine lv_iconst (v := 1) hx hb dX1_setHeir_27 (by decide) ?_
        refine k_X1_fail hC hK hP hD hS hA hl.1 ⟨Nat.le_of_ble_eq_true rfl, Nat.le_of_ble_eq_true rfl⟩ ⟨Nat.zero_le _, Nat.zero_le _⟩ (Nat.le_of_ble_eq_true rfl)   dX1_setHeir_28 (fun H locs hP hD hS => ?_)
        exact W.iret (v := 0) hx hb hr (fun t ht hW => ⟨⟨0, (), rfl, rfl, by rw [ht]; exact hP, va_K.moved hW.alike hK, hD⟩, hS.F ht⟩) hS.2.2 dX1_setHeir_31
set_option maxHeartbeats 4000000 in
set_option maxRecDepth 100000 in
theorem c_X1_setHeir_c (l : Launch) (sz : Nat) {D : va_G} {z : ClassId × ClassId} {a : Nat → Nat} {th : Int32} {n w : Nat} {gn lk pu fa he nv of mp mi : Nat → Int32} {k : Nat} {nt fu re : Int32} (i : Nat) (hi : i < n) (hn : n ≤ 10) : Met l yX1_setHeir (ws_ yX1_setHeir cX1_setHeir 4 (some .int)) ({ frames := 2, cells := 0, slots := 0, locals := 43 } : Room) (va_Pc [.ref (a 0), .int (nI i), .int (nI i)] (fun U => U.heap.size = sz ∧ mI D z a th n w gn lk pu fa he nv of mp mi k nt fu re U ∧ va_D (fun _ => True) (mW z a th n w gn lk pu fa he nv of mp mi k nt fu re))) (va_Qi (fun (r : Int32) (_ : Unit) => r = 0) (fun _ t9 => va_P D vwCl (mW z a 2 n w gn lk pu fa he nv of mp mi k nt fu re) t9.heap ∧ kK D z t9 ∧ va_D (va_A (mW z a th n w gn lk pu fa he nv of mp mi k nt fu re) sz) (mW z a 2 n w gn lk pu fa he nv of mp mi k nt fu re)) (va_A (mW z a th n w gn lk pu fa he nv of mp mi k nt fu re) sz)) 0 0 (va_A (mW z a th n w gn lk pu fa he nv of mp mi k nt fu re) sz) := by
  refine Met.ofW (cc := cX1_setHeir) (maxL := 4) (ret := (some .int)) (by decide) rfl ?_
  intro p e s m args below meth c s₁ B hml hv
  obtain ⟨rfl, hsz, ⟨hP, hK⟩, hD0⟩ := hv
  have hx := B.exec
  have hb := B.bytes
  have hr := B.returns
  have hts := atoms_spec (ws := ws_ yX1_setHeir cX1_setHeir 4 (some .int)) B.pre
  have hts : ∀ w ∈ lw_all, w.before _ s = true := fun w h => hts w (List.mem_cons_of_mem _ h)
  have hown : s.vm.findClass RX1 = some m.cls := findClass_of_methodNamed B.named
  have hlocks := B.notSynchronized
  have hC : CallFix p m c cX1_setHeir 4 s _ lw_all RX1 := ⟨hx, hb, hml, hown, hts⟩
  subst hsz
  have hD := hD0.self (sz := s.heap.size)
  generalize hAe : va_A (mW z a th n w gn lk pu fa he nv of mp mi k nt fu re) s.heap.size = A at hD ⊢
  have hA : ∀ q : Nat, s.heap.size ≤ q → A q := fun q h => by rw [← hAe]; exact Or.inr h
  have hS : va_S A s.heap s.heap [] := va_S.rf
  have hl := lv_entry ([.ref (a 0), .int (nI i), .int (nI i)]) (n := 4) (Nat.le_of_ble_eq_true rfl)
  rw [lg_entry_eq]
  generalize (lg_sl ([.ref (a 0), .int (nI i), .int (nI i)]) ++ List.replicate (4 - (lg_sl ([.ref (a 0), .int (nI i), .int (nI i)])).length) Slot.unset).toArray = ls at hl ⊢
  have hl : lv_has ls 4 [(0, .ref (a 0)), (1, .int (nI i)), (2, .int (nI i))] := hl
  refine lv_aload_n hx hb dX1_setHeir_0 rfl (lv_at hl 0 rfl) ?_
  refine lv_iconst (v := 0) hx hb dX1_setHeir_1 (by decide) ?_
  refine mp_th hC hK hP hD hS dX1_setHeir_2 (fun H locs hP hD hS => ?_)
  refine lv_aload_n hx hb dX1_setHeir_5 rfl (lv_at hl 0 rfl) ?_
  refine lv_iload_n hx hb dX1_setHeir_6 rfl (lv_at hl 1 rfl) ?_
  refine k_X1_isPerson hC hK hP hl.1 ⟨Nat.le_of_ble_eq_true rfl, Nat.le_of_ble_eq_true rfl⟩ ⟨Nat.zero_le _, Nat.zero_le _⟩ (Nat.le_of_ble_eq_true rfl)  (by first | assumption | omega) dX1_setHeir_7 ?_
  refine lv_if_eq (tgt := 26) hx hb dX1_setHeir_10 (by decide) (fun c_10 => ?_) (fun c_10 => ?_)
  · exact absurd c_10 (by rw [isP_in (by omega) hi]; decide)
  · refine lv_iload_n hx hb dX1_setHeir_13 rfl (lv_at hl 2 rfl) ?_
    refine lv_iconst (v := (-1)) hx hb dX1_setHeir_14 (by decide) ?_
    refine lv_icmp_eq (tgt := 32) hx hb dX1_setHeir_15 (by decide) (fun c_15 => ?_) (fun c_15 => ?_)
    · exact absurd c_15 (ni_m1 (by omega))
    · refine lv_aload_n hx hb dX1_setHeir_18 rfl (lv_at hl 0 rfl) ?_
      refine lv_iload_n hx hb dX1_setHeir_19 rfl (lv_at hl 2 rfl) ?_
      refine k_X1_isPerson hC hK hP hl.1 ⟨Nat.le_of_ble_eq_true rfl, Nat.le_of_ble_eq_true rfl⟩ ⟨Nat.zero_le _, Nat.zero_le _⟩ (Nat.le_of_ble_eq_true rfl)  (by first | assumption | omega) dX1_setHeir_20 ?_
      refine lv_if_ne (tgt := 32) hx hb dX1_setHeir_23 (by decide) (fun c_23 => ?_) (fun c_23 => ?_)
      · refine lv_iload_n hx hb dX1_setHeir_32 rfl (lv_at hl 1 rfl) ?_
        refine lv_iload_n hx hb dX1_setHeir_33 rfl (lv_at hl 2 rfl) ?_
        refine lv_icmp_ne (tgt := 43) hx hb dX1_setHeir_34 (by decide) (fun c_34 => ?_) (fun c_34 => ?_)
        · exact absurd rfl c_34
        · refine lv_aload_n hx hb dX1_setHeir_37 rfl (lv_at hl 0 rfl) ?_
          refine lv_iconst (v := 2) hx hb dX1_setHeir_38 (by decide) ?_
          refine k_X1_fail hC hK hP hD hS hA hl.1 ⟨Nat.le_of_ble_eq_true rfl, Nat.le_of_ble_eq_true rfl⟩ ⟨Nat.zero_le _, Nat.zero_le _⟩ (Nat.le_of_ble_eq_true rfl)   dX1_setHeir_39 (fun H locs hP hD hS => ?_)
          exact W.iret (v := 0) hx hb hr (fun t ht hW => ⟨⟨0, (), rfl, rfl, by rw [ht]; exact hP, va_K.moved hW.alike hK, hD⟩, hS.F ht⟩) hS.2.2 dX1_setHeir_42
      · exact absurd c_23 (by rw [isP_in (by omega) hi]; decide)
set_option maxHeartbeats 4000000 in
set_option maxRecDepth 100000 in
theorem c_X1_setHeir_d (l : Launch) (sz : Nat) {D : va_G} {z : ClassId × ClassId} {a : Nat → Nat} {th : Int32} {n w : Nat} {gn lk pu fa he nv of mp mi : Nat → Int32} {k : Nat} {nt fu re : Int32} (i : Nat) (hi : i < n) (hn : n ≤ 10) (ha : ¬ gn i = 0) : Met l yX1_setHeir (ws_ yX1_setHeir cX1_setHeir 4 (some .int)) ({ frames := 2, cells := 0, slots := 0, locals := 43 } : Room) (va_Pc [.ref (a 0), .int (nI i), .int (-1)] (fun U => U.heap.size = sz ∧ mI D z a th n w gn lk pu fa he nv of mp mi k nt fu re U ∧ va_D (fun _ => True) (mW z a th n w gn lk pu fa he nv of mp mi k nt fu re))) (va_Qi (fun (r : Int32) (_ : Unit) => r = 0) (fun _ t9 => va_P D vwCl (mW z a 3 n w gn lk pu fa he nv of mp mi k nt fu re) t9.heap ∧ kK D z t9 ∧ va_D (va_A (mW z a th n w gn lk pu fa he nv of mp mi k nt fu re) sz) (mW z a 3 n w gn lk pu fa he nv of mp mi k nt fu re)) (va_A (mW z a th n w gn lk pu fa he nv of mp mi k nt fu re) sz)) 0 0 (va_A (mW z a th n w gn lk pu fa he nv of mp mi k nt fu re) sz) := by
  refine Met.ofW (cc := cX1_setHeir) (maxL := 4) (ret := (some .int)) (by decide) rfl ?_
  intro p e s m args below meth c s₁ B hml hv
  obtain ⟨rfl, hsz, ⟨hP, hK⟩, hD0⟩ := hv
  have hx := B.exec
  have hb := B.bytes
  have hr := B.returns
  have hts := atoms_spec (ws := ws_ yX1_setHeir cX1_setHeir 4 (some .int)) B.pre
  have hts : ∀ w ∈ lw_all, w.before _ s = true := fun w h => hts w (List.mem_cons_of_mem _ h)
  have hown : s.vm.findClass RX1 = some m.cls := findClass_of_methodNamed B.named
  have hlocks := B.notSynchronized
  have hC : CallFix p m c cX1_setHeir 4 s _ lw_all RX1 := ⟨hx, hb, hml, hown, hts⟩
  subst hsz
  have hD := hD0.self (sz := s.heap.size)
  generalize hAe : va_A (mW z a th n w gn lk pu fa he nv of mp mi k nt fu re) s.heap.size = A at hD ⊢
  have hA : ∀ q : Nat, s.heap.size ≤ q → A q := fun q h => by rw [← hAe]; exact Or.inr h
  have hS : va_S A s.heap s.heap [] := va_S.rf
  have hl := lv_entry ([.ref (a 0), .int (nI i), .int (-1)]) (n := 4) (Nat.le_of_ble_eq_true rfl)
  rw [lg_entry_eq]
  generalize (lg_sl ([.ref (a 0), .int (nI i), .int (-1)]) ++ List.replicate (4 - (lg_sl ([.ref (a 0), .int (nI i), .int (-1)])).length) Slot.unset).toArray = ls at hl ⊢
  have hl : lv_has ls 4 [(0, .ref (a 0)), (1, .int (nI i)), (2, .int (-1))] := hl
  refine lv_aload_n hx hb dX1_setHeir_0 rfl (lv_at hl 0 rfl) ?_
  refine lv_iconst (v := 0) hx hb dX1_setHeir_1 (by decide) ?_
  refine mp_th hC hK hP hD hS dX1_setHeir_2 (fun H locs hP hD hS => ?_)
  refine lv_aload_n hx hb dX1_setHeir_5 rfl (lv_at hl 0 rfl) ?_
  refine lv_iload_n hx hb dX1_setHeir_6 rfl (lv_at hl 1 rfl) ?_
  refine k_X1_isPerson hC hK hP hl.1 ⟨Nat.le_of_ble_eq_true rfl, Nat.le_of_ble_eq_true rfl⟩ ⟨Nat.zero_le _, Nat.zero_le _⟩ (Nat.le_of_ble_eq_true rfl)  (by first | assumption | omega) dX1_setHeir_7 ?_
  refine lv_if_eq (tgt := 26) hx hb dX1_setHeir_10 (by decide) (fun c_10 => ?_) (fun c_10 => ?_)
  · exact absurd c_10 (by rw [isP_in (by omega) hi]; decide)
  · refine lv_iload_n hx hb dX1_setHeir_13 rfl (lv_at hl 2 rfl) ?_
    refine lv_iconst (v := (-1)) hx hb dX1_setHeir_14 (by decide) ?_
    refine lv_icmp_eq (tgt := 32) hx hb dX1_setHeir_15 (by decide) (fun c_15 => ?_) (fun c_15 => ?_)
    · refine lv_iload_n hx hb dX1_setHeir_32 rfl (lv_at hl 1 rfl) ?_
      refine lv_iload_n hx hb dX1_setHeir_33 rfl (lv_at hl 2 rfl) ?_
      refine lv_icmp_ne (tgt := 43) hx hb dX1_setHeir_34 (by decide) (fun c_34 => ?_) (fun c_34 => ?_)
      · refine lv_aload_n hx hb dX1_setHeir_43 rfl (lv_at hl 0 rfl) ?_
        refine mg_gn hC hK hP dX1_setHeir_44 ?_
        refine lv_iload_n hx hb dX1_setHeir_47 rfl (lv_at hl 1 rfl) ?_
        refine ml_gn hC hK hP i rfl (by omega) dX1_setHeir_48 ?_
        refine lv_if_eq (tgt := 58) hx hb dX1_setHeir_49 (by decide) (fun c_49 => ?_) (fun c_49 => ?_)
        · exact absurd c_49 ha
        · refine lv_aload_n hx hb dX1_setHeir_52 rfl (lv_at hl 0 rfl) ?_
          refine lv_iconst (v := 3) hx hb dX1_setHeir_53 (by decide) ?_
          refine k_X1_fail hC hK hP hD hS hA hl.1 ⟨Nat.le_of_ble_eq_true rfl, Nat.le_of_ble_eq_true rfl⟩ ⟨Nat.zero_le _, Nat.zero_le _⟩ (Nat.le_of_ble_eq_true rfl)   dX1_setHeir_54 (fun H locs hP hD hS => ?_)
          exact W.iret (v := 0) hx hb hr (fun t ht hW => ⟨⟨0, (), rfl, rfl, by rw [ht]; exact hP, va_K.moved hW.alike hK, hD⟩, hS.F ht⟩) hS.2.2 dX1_setHeir_57
      · exact absurd c_34 (ni_m1 (by omega))
    · exact absurd rfl c_15
set_option maxHeartbeats 4000000 in
set_option maxRecDepth 100000 in
theorem c_X1_setHeir_e (l : Launch) (sz : Nat) {D : va_G} {z : ClassId × ClassId} {a : Nat → Nat} {th : Int32} {n w : Nat} {gn lk pu fa he nv of mp mi : Nat → Int32} {k : Nat} {nt fu re : Int32} (i : Nat) (j : Nat) (hi : i < n) (hj : j < n) (hn : n ≤ 10) (hij : ¬ i = j) (ha : ¬ gn i = 0) : Met l yX1_setHeir (ws_ yX1_setHeir cX1_setHeir 4 (some .int)) ({ frames := 2, cells := 0, slots := 0, locals := 43 } : Room) (va_Pc [.ref (a 0), .int (nI i), .int (nI j)] (fun U => U.heap.size = sz ∧ mI D z a th n w gn lk pu fa he nv of mp mi k nt fu re U ∧ va_D (fun _ => True) (mW z a th n w gn lk pu fa he nv of mp mi k nt fu re))) (va_Qi (fun (r : Int32) (_ : Unit) => r = 0) (fun _ t9 => va_P D vwCl (mW z a 3 n w gn lk pu fa he nv of mp mi k nt fu re) t9.heap ∧ kK D z t9 ∧ va_D (va_A (mW z a th n w gn lk pu fa he nv of mp mi k nt fu re) sz) (mW z a 3 n w gn lk pu fa he nv of mp mi k nt fu re)) (va_A (mW z a th n w gn lk pu fa he nv of mp mi k nt fu re) sz)) 0 0 (va_A (mW z a th n w gn lk pu fa he nv of mp mi k nt fu re) sz) := by
  refine Met.ofW (cc := cX1_setHeir) (maxL := 4) (ret := (some .int)) (by decide) rfl ?_
  intro p e s m args below meth c s₁ B hml hv
  obtain ⟨rfl, hsz, ⟨hP, hK⟩, hD0⟩ := hv
  have hx := B.exec
  have hb := B.bytes
  have hr := B.returns
  have hts := atoms_spec (ws := ws_ yX1_setHeir cX1_setHeir 4 (some .int)) B.pre
  have hts : ∀ w ∈ lw_all, w.before _ s = true := fun w h => hts w (List.mem_cons_of_mem _ h)
  have hown : s.vm.findClass RX1 = some m.cls := findClass_of_methodNamed B.named
  have hlocks := B.notSynchronized
  have hC : CallFix p m c cX1_setHeir 4 s _ lw_all RX1 := ⟨hx, hb, hml, hown, hts⟩
  subst hsz
  have hD := hD0.self (sz := s.heap.size)
  generalize hAe : va_A (mW z a th n w gn lk pu fa he nv of mp mi k nt fu re) s.heap.size = A at hD ⊢
  have hA : ∀ q : Nat, s.heap.size ≤ q → A q := fun q h => by rw [← hAe]; exact Or.inr h
  have hS : va_S A s.heap s.heap [] := va_S.rf
  have hl := lv_entry ([.ref (a 0), .int (nI i), .int (nI j)]) (n := 4) (Nat.le_of_ble_eq_true rfl)
  rw [lg_entry_eq]
  generalize (lg_sl ([.ref (a 0), .int (nI i), .int (nI j)]) ++ List.replicate (4 - (lg_sl ([.ref (a 0), .int (nI i), .int (nI j)])).length) Slot.unset).toArray = ls at hl ⊢
  have hl : lv_has ls 4 [(0, .ref (a 0)), (1, .int (nI i)), (2, .int (nI j))] := hl
  refine lv_aload_n hx hb dX1_setHeir_0 rfl (lv_at hl 0 rfl) ?_
  refine lv_iconst (v := 0) hx hb dX1_setHeir_1 (by decide) ?_
  refine mp_th hC hK hP hD hS dX1_setHeir_2 (fun H locs hP hD hS => ?_)
  refine lv_aload_n hx hb dX1_setHeir_5 rfl (lv_at hl 0 rfl) ?_
  refine lv_iload_n hx hb dX1_setHeir_6 rfl (lv_at hl 1 rfl) ?_
  refine k_X1_isPerson hC hK hP hl.1 ⟨Nat.le_of_ble_eq_true rfl, Nat.le_of_ble_eq_true rfl⟩ ⟨Nat.zero_le _, Nat.zero_le _⟩ (Nat.le_of_ble_eq_true rfl)  (by first | assumption | omega) dX1_setHeir_7 ?_
  refine lv_if_eq (tgt := 26) hx hb dX1_setHeir_10 (by decide) (fun c_10 => ?_) (fun c_10 => ?_)
  · exact absurd c_10 (by rw [isP_in (by omega) hi]; decide)
  · refine lv_iload_n hx hb dX1_setHeir_13 rfl (lv_at hl 2 rfl) ?_
    refine lv_iconst (v := (-1)) hx hb dX1_setHeir_14 (by decide) ?_
    refine lv_icmp_eq (tgt := 32) hx hb dX1_setHeir_15 (by decide) (fun c_15 => ?_) (fun c_15 => ?_)
    · exact absurd c_15 (ni_m1 (by omega))
    · refine lv_aload_n hx hb dX1_setHeir_18 rfl (lv_at hl 0 rfl) ?_
      refine lv_iload_n hx hb dX1_setHeir_19 rfl (lv_at hl 2 rfl) ?_
      refine k_X1_isPerson hC hK hP hl.1 ⟨Nat.le_of_ble_eq_true rfl, Nat.le_of_ble_eq_true rfl⟩ ⟨Nat.zero_le _, Nat.zero_le _⟩ (Nat.le_of_ble_eq_true rfl)  (by first | assumption | omega) dX1_setHeir_20 ?_
      refine lv_if_ne (tgt := 32) hx hb dX1_setHeir_23 (by decide) (fun c_23 => ?_) (fun c_23 => ?_)
      · refine lv_iload_n hx hb dX1_setHeir_32 rfl (lv_at hl 1 rfl) ?_
        refine lv_iload_n hx hb dX1_setHeir_33 rfl (lv_at hl 2 rfl) ?_
        refine lv_icmp_ne (tgt := 43) hx hb dX1_setHeir_34 (by decide) (fun c_34 => ?_) (fun c_34 => ?_)
        · refine lv_aload_n hx hb dX1_setHeir_43 rfl (lv_at hl 0 rfl) ?_
          refine mg_gn hC hK hP dX1_setHeir_44 ?_
          refine lv_iload_n hx hb dX1_setHeir_47 rfl (lv_at hl 1 rfl) ?_
          refine ml_gn hC hK hP i rfl (by omega) dX1_setHeir_48 ?_
          refine lv_if_eq (tgt := 58) hx hb dX1_setHeir_49 (by decide) (fun c_49 => ?_) (fun c_49 => ?_)
          · exact absurd c_49 ha
          · refine lv_aload_n hx hb dX1_setHeir_52 rfl (lv_at hl 0 rfl) ?_
            refine lv_iconst (v := 3) hx hb dX1_setHeir_53 (by decide) ?_
            refine k_X1_fail hC hK hP hD hS hA hl.1 ⟨Nat.le_of_ble_eq_true rfl, Nat.le_of_ble_eq_true rfl⟩ ⟨Nat.zero_le _, Nat.zero_le _⟩ (Nat.le_of_ble_eq_true rfl)   dX1_setHeir_54 (fun H locs hP hD hS => ?_)
            exact W.iret (v := 0) hx hb hr (fun t ht hW => ⟨⟨0, (), rfl, rfl, by rw [ht]; exact hP, va_K.moved hW.alike hK, hD⟩, hS.F ht⟩) hS.2.2 dX1_setHeir_57
        · exact absurd c_34 (fun q => hij (nn_eq (by omega) q))
      · exact absurd c_23 (by rw [isP_in (by omega) hj]; decide)
set_option maxHeartbeats 4000000 in
set_option maxRecDepth 100000 in
theorem c_X1_buyFate (l : Launch) (sz : Nat) {D : va_G} {z : ClassId × ClassId} {a : Nat → Nat} {th : Int32} {n w : Nat} {gn lk pu fa he nv of mp mi : Nat → Int32} {k : Nat} {nt fu re : Int32} (i : Nat) (hi : i < n) (hn : n ≤ 10) (ha : gn i = 0) (hf : ¬ fa i = 9) (hp : sp_price (lk i) ≤ pu i) : Met l yX1_buyFate (ws_ yX1_buyFate cX1_buyFate 2 (some .int)) ({ frames := 2, cells := 0, slots := 0, locals := 43 } : Room) (va_Pc [.ref (a 0), .int (nI i)] (fun U => U.heap.size = sz ∧ mI D z a th n w gn lk pu fa he nv of mp mi k nt fu re U ∧ va_D (fun _ => True) (mW z a th n w gn lk pu fa he nv of mp mi k nt fu re))) (va_Qi (fun (r : Int32) (_ : Unit) => r = sp_price (lk i)) (fun _ t9 => va_P D vwCl (mW z a 0 n w gn lk (upd pu i (pu i - sp_price (lk i))) (upd fa i (fa i + 1)) he nv of mp mi k nt (fu + sp_price (lk i)) re) t9.heap ∧ kK D z t9 ∧ va_D (va_A (mW z a th n w gn lk pu fa he nv of mp mi k nt fu re) sz) (mW z a 0 n w gn lk (upd pu i (pu i - sp_price (lk i))) (upd fa i (fa i + 1)) he nv of mp mi k nt (fu + sp_price (lk i)) re)) (va_A (mW z a th n w gn lk pu fa he nv of mp mi k nt fu re) sz)) 0 0 (va_A (mW z a th n w gn lk pu fa he nv of mp mi k nt fu re) sz) := by
  refine Met.ofW (cc := cX1_buyFate) (maxL := 2) (ret := (some .int)) (by decide) rfl ?_
  intro p e s m args below meth c s₁ B hml hv
  obtain ⟨rfl, hsz, ⟨hP, hK⟩, hD0⟩ := hv
  have hx := B.exec
  have hb := B.bytes
  have hr := B.returns
  have hts := atoms_spec (ws := ws_ yX1_buyFate cX1_buyFate 2 (some .int)) B.pre
  have hts : ∀ w ∈ lw_all, w.before _ s = true := fun w h => hts w (List.mem_cons_of_mem _ h)
  have hown : s.vm.findClass RX1 = some m.cls := findClass_of_methodNamed B.named
  have hlocks := B.notSynchronized
  have hC : CallFix p m c cX1_buyFate 2 s _ lw_all RX1 := ⟨hx, hb, hml, hown, hts⟩
  subst hsz
  have hD := hD0.self (sz := s.heap.size)
  generalize hAe : va_A (mW z a th n w gn lk pu fa he nv of mp mi k nt fu re) s.heap.size = A at hD ⊢
  have hA : ∀ q : Nat, s.heap.size ≤ q → A q := fun q h => by rw [← hAe]; exact Or.inr h
  have hS : va_S A s.heap s.heap [] := va_S.rf
  have hl := lv_entry ([.ref (a 0), .int (nI i)]) (n := 2) (Nat.le_of_ble_eq_true rfl)
  rw [lg_entry_eq]
  generalize (lg_sl ([.ref (a 0), .int (nI i)]) ++ List.replicate (2 - (lg_sl ([.ref (a 0), .int (nI i)])).length) Slot.unset).toArray = ls at hl ⊢
  have hl : lv_has ls 2 [(0, .ref (a 0)), (1, .int (nI i))] := hl
  refine lv_aload_n hx hb dX1_buyFate_0 rfl (lv_at hl 0 rfl) ?_
  refine lv_iconst (v := 0) hx hb dX1_buyFate_1 (by decide) ?_
  refine mp_th hC hK hP hD hS dX1_buyFate_2 (fun H locs hP hD hS => ?_)
  refine lv_aload_n hx hb dX1_buyFate_5 rfl (lv_at hl 0 rfl) ?_
  refine lv_iload_n hx hb dX1_buyFate_6 rfl (lv_at hl 1 rfl) ?_
  refine k_X1_isPerson hC hK hP hl.1 ⟨Nat.le_of_ble_eq_true rfl, Nat.le_of_ble_eq_true rfl⟩ ⟨Nat.zero_le _, Nat.zero_le _⟩ (Nat.le_of_ble_eq_true rfl)  (by first | assumption | omega) dX1_buyFate_7 ?_
  refine lv_if_ne (tgt := 19) hx hb dX1_buyFate_10 (by decide) (fun c_10 => ?_) (fun c_10 => ?_)
  · refine lv_aload_n hx hb dX1_buyFate_19 rfl (lv_at hl 0 rfl) ?_
    refine mg_gn hC hK hP dX1_buyFate_20 ?_
    refine lv_iload_n hx hb dX1_buyFate_23 rfl (lv_at hl 1 rfl) ?_
    refine ml_gn hC hK hP i rfl (by omega) dX1_buyFate_24 ?_
    refine lv_if_ne (tgt := 53) hx hb dX1_buyFate_25 (by decide) (fun c_25 => ?_) (fun c_25 => ?_)
    · exact absurd ha c_25
    · refine lv_aload_n hx hb dX1_buyFate_28 rfl (lv_at hl 0 rfl) ?_
      refine mg_fa hC hK hP dX1_buyFate_29 ?_
      refine lv_iload_n hx hb dX1_buyFate_32 rfl (lv_at hl 1 rfl) ?_
      refine ml_fa hC hK hP i rfl (by omega) dX1_buyFate_33 ?_
      refine lv_bipush (v := 9) hx hb dX1_buyFate_34 (by decide) ?_
      refine lv_icmp_eq (tgt := 53) hx hb dX1_buyFate_36 (by decide) (fun c_36 => ?_) (fun c_36 => ?_)
      · exact absurd c_36 hf
      · refine lv_aload_n hx hb dX1_buyFate_39 rfl (lv_at hl 0 rfl) ?_
        refine mg_pu hC hK hP dX1_buyFate_40 ?_
        refine lv_iload_n hx hb dX1_buyFate_43 rfl (lv_at hl 1 rfl) ?_
        refine ml_pu hC hK hP i rfl (by omega) dX1_buyFate_44 ?_
        refine lv_aload_n hx hb dX1_buyFate_45 rfl (lv_at hl 0 rfl) ?_
        refine lv_iload_n hx hb dX1_buyFate_46 rfl (lv_at hl 1 rfl) ?_
        refine k_X1_price hC hK hP hl.1 ⟨Nat.le_of_ble_eq_true rfl, Nat.le_of_ble_eq_true rfl⟩ ⟨Nat.zero_le _, Nat.zero_le _⟩ (Nat.le_of_ble_eq_true rfl) rfl (by first | assumption | omega) dX1_buyFate_47 ?_
        refine lv_icmp_ge (tgt := 59) hx hb dX1_buyFate_50 (by decide) (fun c_50 => ?_) (fun c_50 => ?_)
        · refine lv_aload_n hx hb dX1_buyFate_59 rfl (lv_at hl 0 rfl) ?_
          refine mg_pu hC hK hP dX1_buyFate_60 ?_
          refine lv_iload_n hx hb dX1_buyFate_63 rfl (lv_at hl 1 rfl) ?_
          refine lv_dup2_11 hx hb dX1_buyFate_64 rfl rfl ?_
          refine ml_pu hC hK hP i rfl (by omega) dX1_buyFate_65 ?_
          refine lv_aload_n hx hb dX1_buyFate_66 rfl (lv_at hl 0 rfl) ?_
          refine lv_iload_n hx hb dX1_buyFate_67 rfl (lv_at hl 1 rfl) ?_
          refine k_X1_price hC hK hP hl.1 ⟨Nat.le_of_ble_eq_true rfl, Nat.le_of_ble_eq_true rfl⟩ ⟨Nat.zero_le _, Nat.zero_le _⟩ (Nat.le_of_ble_eq_true rfl) rfl (by first | assumption | omega) dX1_buyFate_68 ?_
          refine lv_isub hx hb dX1_buyFate_71 ?_
          refine ms_pu hC hK hP hD hS i rfl (by omega) dX1_buyFate_72 (fun H locs hP hD hS => ?_)
          refine lv_aload_n hx hb dX1_buyFate_73 rfl (lv_at hl 0 rfl) ?_
          refine lv_dup hx hb dX1_buyFate_74 rfl ?_
          refine mg_fu hC hK hP dX1_buyFate_75 ?_
          refine lv_aload_n hx hb dX1_buyFate_78 rfl (lv_at hl 0 rfl) ?_
          refine lv_iload_n hx hb dX1_buyFate_79 rfl (lv_at hl 1 rfl) ?_
          refine k_X1_price hC hK hP hl.1 ⟨Nat.le_of_ble_eq_true rfl, Nat.le_of_ble_eq_true rfl⟩ ⟨Nat.zero_le _, Nat.zero_le _⟩ (Nat.le_of_ble_eq_true rfl) rfl (by first | assumption | omega) dX1_buyFate_80 ?_
          refine lv_iadd hx hb dX1_buyFate_83 ?_
          refine mp_fu hC hK hP hD hS dX1_buyFate_84 (fun H locs hP hD hS => ?_)
          refine lv_aload_n hx hb dX1_buyFate_87 rfl (lv_at hl 0 rfl) ?_
          refine mg_fa hC hK hP dX1_buyFate_88 ?_
          refine lv_iload_n hx hb dX1_buyFate_91 rfl (lv_at hl 1 rfl) ?_
          refine lv_dup2_11 hx hb dX1_buyFate_92 rfl rfl ?_
          refine ml_fa hC hK hP i rfl (by omega) dX1_buyFate_93 ?_
          refine lv_iconst (v := 1) hx hb dX1_buyFate_94 (by decide) ?_
          refine lv_iadd hx hb dX1_buyFate_95 ?_
          refine ms_fa hC hK hP hD hS i rfl (by omega) dX1_buyFate_96 (fun H locs hP hD hS => ?_)
          refine lv_aload_n hx hb dX1_buyFate_97 rfl (lv_at hl 0 rfl) ?_
          refine lv_iload_n hx hb dX1_buyFate_98 rfl (lv_at hl 1 rfl) ?_
          refine k_X1_price hC hK hP hl.1 ⟨Nat.le_of_ble_eq_true rfl, Nat.le_of_ble_eq_true rfl⟩ ⟨Nat.zero_le _, Nat.zero_le _⟩ (Nat.le_of_ble_eq_true rfl) rfl (by first | assumption | omega) dX1_buyFate_99 ?_
          have hW9 : (mW z a 0 n w gn lk (upd pu i ((pu i) - (sp_price (lk i)))) (upd fa i ((fa i) + 1)) he nv of mp mi k nt (fu + (sp_price (lk i))) re : va_W) = mW z a 0 n w gn lk (upd pu i (pu i - sp_price (lk i))) (upd fa i (fa i + 1)) he nv of mp mi k nt (fu + sp_price (lk i)) re := rfl
          rw [hW9] at hP hD
          exact W.iret (v := sp_price (lk i)) hx hb hr (fun t ht hW => ⟨⟨sp_price (lk i), (), rfl, rfl, by rw [ht]; exact hP, va_K.moved hW.alike hK, hD⟩, hS.F ht⟩) hS.2.2 dX1_buyFate_102
        · exact absurd hp c_50
  · exact absurd c_10 (by rw [isP_in (by omega) hi]; decide)
set_option maxHeartbeats 4000000 in
set_option maxRecDepth 100000 in
theorem c_X1_buyFate_a (l : Launch) (sz : Nat) {D : va_G} {z : ClassId × ClassId} {a : Nat → Nat} {th : Int32} {n w : Nat} {gn lk pu fa he nv of mp mi : Nat → Int32} {k : Nat} {nt fu re : Int32} (x : Int32) (hn : n ≤ 10) (hbad : sp_isP n x = 0) : Met l yX1_buyFate (ws_ yX1_buyFate cX1_buyFate 2 (some .int)) ({ frames := 2, cells := 0, slots := 0, locals := 43 } : Room) (va_Pc [.ref (a 0), .int x] (fun U => U.heap.size = sz ∧ mI D z a th n w gn lk pu fa he nv of mp mi k nt fu re U ∧ va_D (fun _ => True) (mW z a th n w gn lk pu fa he nv of mp mi k nt fu re))) (va_Qi (fun (r : Int32) (_ : Unit) => r = 0) (fun _ t9 => va_P D vwCl (mW z a 1 n w gn lk pu fa he nv of mp mi k nt fu re) t9.heap ∧ kK D z t9 ∧ va_D (va_A (mW z a th n w gn lk pu fa he nv of mp mi k nt fu re) sz) (mW z a 1 n w gn lk pu fa he nv of mp mi k nt fu re)) (va_A (mW z a th n w gn lk pu fa he nv of mp mi k nt fu re) sz)) 0 0 (va_A (mW z a th n w gn lk pu fa he nv of mp mi k nt fu re) sz) := by
  refine Met.ofW (cc := cX1_buyFate) (maxL := 2) (ret := (some .int)) (by decide) rfl ?_
  intro p e s m args below meth c s₁ B hml hv
  obtain ⟨rfl, hsz, ⟨hP, hK⟩, hD0⟩ := hv
  have hx := B.exec
  have hb := B.bytes
  have hr := B.returns
  have hts := atoms_spec (ws := ws_ yX1_buyFate cX1_buyFate 2 (some .int)) B.pre
  have hts : ∀ w ∈ lw_all, w.before _ s = true := fun w h => hts w (List.mem_cons_of_mem _ h)
  have hown : s.vm.findClass RX1 = some m.cls := findClass_of_methodNamed B.named
  have hlocks := B.notSynchronized
  have hC : CallFix p m c cX1_buyFate 2 s _ lw_all RX1 := ⟨hx, hb, hml, hown, hts⟩
  subst hsz
  have hD := hD0.self (sz := s.heap.size)
  generalize hAe : va_A (mW z a th n w gn lk pu fa he nv of mp mi k nt fu re) s.heap.size = A at hD ⊢
  have hA : ∀ q : Nat, s.heap.size ≤ q → A q := fun q h => by rw [← hAe]; exact Or.inr h
  have hS : va_S A s.heap s.heap [] := va_S.rf
  have hl := lv_entry ([.ref (a 0), .int x]) (n := 2) (Nat.le_of_ble_eq_true rfl)
  rw [lg_entry_eq]
  generalize (lg_sl ([.ref (a 0), .int x]) ++ List.replicate (2 - (lg_sl ([.ref (a 0), .int x])).length) Slot.unset).toArray = ls at hl ⊢
  have hl : lv_has ls 2 [(0, .ref (a 0)), (1, .int x)] := hl
  refine lv_aload_n hx hb dX1_buyFate_0 rfl (lv_at hl 0 rfl) ?_
  refine lv_iconst (v := 0) hx hb dX1_buyFate_1 (by decide) ?_
  refine mp_th hC hK hP hD hS dX1_buyFate_2 (fun H locs hP hD hS => ?_)
  refine lv_aload_n hx hb dX1_buyFate_5 rfl (lv_at hl 0 rfl) ?_
  refine lv_iload_n hx hb dX1_buyFate_6 rfl (lv_at hl 1 rfl) ?_
  refine k_X1_isPerson hC hK hP hl.1 ⟨Nat.le_of_ble_eq_true rfl, Nat.le_of_ble_eq_true rfl⟩ ⟨Nat.zero_le _, Nat.zero_le _⟩ (Nat.le_of_ble_eq_true rfl)  (by first | assumption | omega) dX1_buyFate_7 ?_
  refine lv_if_ne (tgt := 19) hx hb dX1_buyFate_10 (by decide) (fun c_10 => ?_) (fun c_10 => ?_)
  · exact absurd hbad c_10
  · refine lv_aload_n hx hb dX1_buyFate_13 rfl (lv_at hl 0 rfl) ?_
    refine lv_iconst (v := 1) hx hb dX1_buyFate_14 (by decide) ?_
    refine k_X1_fail hC hK hP hD hS hA hl.1 ⟨Nat.le_of_ble_eq_true rfl, Nat.le_of_ble_eq_true rfl⟩ ⟨Nat.zero_le _, Nat.zero_le _⟩ (Nat.le_of_ble_eq_true rfl)   dX1_buyFate_15 (fun H locs hP hD hS => ?_)
    exact W.iret (v := 0) hx hb hr (fun t ht hW => ⟨⟨0, (), rfl, rfl, by rw [ht]; exact hP, va_K.moved hW.alike hK, hD⟩, hS.F ht⟩) hS.2.2 dX1_buyFate_18
set_option maxHeartbeats 4000000 in
set_option maxRecDepth 100000 in
theorem c_X1_buyFate_b (l : Launch) (sz : Nat) {D : va_G} {z : ClassId × ClassId} {a : Nat → Nat} {th : Int32} {n w : Nat} {gn lk pu fa he nv of mp mi : Nat → Int32} {k : Nat} {nt fu re : Int32} (i : Nat) (hi : i < n) (hn : n ≤ 10) (ha : ¬ gn i = 0) : Met l yX1_buyFate (ws_ yX1_buyFate cX1_buyFate 2 (some .int)) ({ frames := 2, cells := 0, slots := 0, locals := 43 } : Room) (va_Pc [.ref (a 0), .int (nI i)] (fun U => U.heap.size = sz ∧ mI D z a th n w gn lk pu fa he nv of mp mi k nt fu re U ∧ va_D (fun _ => True) (mW z a th n w gn lk pu fa he nv of mp mi k nt fu re))) (va_Qi (fun (r : Int32) (_ : Unit) => r = 0) (fun _ t9 => va_P D vwCl (mW z a 2 n w gn lk pu fa he nv of mp mi k nt fu re) t9.heap ∧ kK D z t9 ∧ va_D (va_A (mW z a th n w gn lk pu fa he nv of mp mi k nt fu re) sz) (mW z a 2 n w gn lk pu fa he nv of mp mi k nt fu re)) (va_A (mW z a th n w gn lk pu fa he nv of mp mi k nt fu re) sz)) 0 0 (va_A (mW z a th n w gn lk pu fa he nv of mp mi k nt fu re) sz) := by
  refine Met.ofW (cc := cX1_buyFate) (maxL := 2) (ret := (some .int)) (by decide) rfl ?_
  intro p e s m args below meth c s₁ B hml hv
  obtain ⟨rfl, hsz, ⟨hP, hK⟩, hD0⟩ := hv
  have hx := B.exec
  have hb := B.bytes
  have hr := B.returns
  have hts := atoms_spec (ws := ws_ yX1_buyFate cX1_buyFate 2 (some .int)) B.pre
  have hts : ∀ w ∈ lw_all, w.before _ s = true := fun w h => hts w (List.mem_cons_of_mem _ h)
  have hown : s.vm.findClass RX1 = some m.cls := findClass_of_methodNamed B.named
  have hlocks := B.notSynchronized
  have hC : CallFix p m c cX1_buyFate 2 s _ lw_all RX1 := ⟨hx, hb, hml, hown, hts⟩
  subst hsz
  have hD := hD0.self (sz := s.heap.size)
  generalize hAe : va_A (mW z a th n w gn lk pu fa he nv of mp mi k nt fu re) s.heap.size = A at hD ⊢
  have hA : ∀ q : Nat, s.heap.size ≤ q → A q := fun q h => by rw [← hAe]; exact Or.inr h
  have hS : va_S A s.heap s.heap [] := va_S.rf
  have hl := lv_entry ([.ref (a 0), .int (nI i)]) (n := 2) (Nat.le_of_ble_eq_true rfl)
  rw [lg_entry_eq]
  generalize (lg_sl ([.ref (a 0), .int (nI i)]) ++ List.replicate (2 - (lg_sl ([.ref (a 0), .int (nI i)])).length) Slot.unset).toArray = ls at hl ⊢
  have hl : lv_has ls 2 [(0, .ref (a 0)), (1, .int (nI i))] := hl
  refine lv_aload_n hx hb dX1_buyFate_0 rfl (lv_at hl 0 rfl) ?_
  refine lv_iconst (v := 0) hx hb dX1_buyFate_1 (by decide) ?_
  refine mp_th hC hK hP hD hS dX1_buyFate_2 (fun H locs hP hD hS => ?_)
  refine lv_aload_n hx hb dX1_buyFate_5 rfl (lv_at hl 0 rfl) ?_
  refine lv_iload_n hx hb dX1_buyFate_6 rfl (lv_at hl 1 rfl) ?_
  refine k_X1_isPerson hC hK hP hl.1 ⟨Nat.le_of_ble_eq_true rfl, Nat.le_of_ble_eq_true rfl⟩ ⟨Nat.zero_le _, Nat.zero_le _⟩ (Nat.le_of_ble_eq_true rfl)  (by first | assumption | omega) dX1_buyFate_7 ?_
  refine lv_if_ne (tgt := 19) hx hb dX1_buyFate_10 (by decide) (fun c_10 => ?_) (fun c_10 => ?_)
  · refine lv_aload_n hx hb dX1_buyFate_19 rfl (lv_at hl 0 rfl) ?_
    refine mg_gn hC hK hP dX1_buyFate_20 ?_
    refine lv_iload_n hx hb dX1_buyFate_23 rfl (lv_at hl 1 rfl) ?_
    refine ml_gn hC hK hP i rfl (by omega) dX1_buyFate_24 ?_
    refine lv_if_ne (tgt := 53) hx hb dX1_buyFate_25 (by decide) (fun c_25 => ?_) (fun c_25 => ?_)
    · refine lv_aload_n hx hb dX1_buyFate_53 rfl (lv_at hl 0 rfl) ?_
      refine lv_iconst (v := 2) hx hb dX1_buyFate_54 (by decide) ?_
      refine k_X1_fail hC hK hP hD hS hA hl.1 ⟨Nat.le_of_ble_eq_true rfl, Nat.le_of_ble_eq_true rfl⟩ ⟨Nat.zero_le _, Nat.zero_le _⟩ (Nat.le_of_ble_eq_true rfl)   dX1_buyFate_55 (fun H locs hP hD hS => ?_)
      exact W.iret (v := 0) hx hb hr (fun t ht hW => ⟨⟨0, (), rfl, rfl, by rw [ht]; exact hP, va_K.moved hW.alike hK, hD⟩, hS.F ht⟩) hS.2.2 dX1_buyFate_58
    · exact absurd c_25 ha
  · exact absurd c_10 (by rw [isP_in (by omega) hi]; decide)
set_option maxHeartbeats 4000000 in
set_option maxRecDepth 100000 in
theorem c_X1_buyFate_c (l : Launch) (sz : Nat) {D : va_G} {z : ClassId × ClassId} {a : Nat → Nat} {th : Int32} {n w : Nat} {gn lk pu fa he nv of mp mi : Nat → Int32} {k : Nat} {nt fu re : Int32} (i : Nat) (hi : i < n) (hn : n ≤ 10) (ha : gn i = 0) (hf : fa i = 9) : Met l yX1_buyFate (ws_ yX1_buyFate cX1_buyFate 2 (some .int)) ({ frames := 2, cells := 0, slots := 0, locals := 43 } : Room) (va_Pc [.ref (a 0), .int (nI i)] (fun U => U.heap.size = sz ∧ mI D z a th n w gn lk pu fa he nv of mp mi k nt fu re U ∧ va_D (fun _ => True) (mW z a th n w gn lk pu fa he nv of mp mi k nt fu re))) (va_Qi (fun (r : Int32) (_ : Unit) => r = 0) (fun _ t9 => va_P D vwCl (mW z a 2 n w gn lk pu fa he nv of mp mi k nt fu re) t9.heap ∧ kK D z t9 ∧ va_D (va_A (mW z a th n w gn lk pu fa he nv of mp mi k nt fu re) sz) (mW z a 2 n w gn lk pu fa he nv of mp mi k nt fu re)) (va_A (mW z a th n w gn lk pu fa he nv of mp mi k nt fu re) sz)) 0 0 (va_A (mW z a th n w gn lk pu fa he nv of mp mi k nt fu re) sz) := by
  refine Met.ofW (cc := cX1_buyFate) (maxL := 2) (ret := (some .int)) (by decide) rfl ?_
  intro p e s m args below meth c s₁ B hml hv
  obtain ⟨rfl, hsz, ⟨hP, hK⟩, hD0⟩ := hv
  have hx := B.exec
  have hb := B.bytes
  have hr := B.returns
  have hts := atoms_spec (ws := ws_ yX1_buyFate cX1_buyFate 2 (some .int)) B.pre
  have hts : ∀ w ∈ lw_all, w.before _ s = true := fun w h => hts w (List.mem_cons_of_mem _ h)
  have hown : s.vm.findClass RX1 = some m.cls := findClass_of_methodNamed B.named
  have hlocks := B.notSynchronized
  have hC : CallFix p m c cX1_buyFate 2 s _ lw_all RX1 := ⟨hx, hb, hml, hown, hts⟩
  subst hsz
  have hD := hD0.self (sz := s.heap.size)
  generalize hAe : va_A (mW z a th n w gn lk pu fa he nv of mp mi k nt fu re) s.heap.size = A at hD ⊢
  have hA : ∀ q : Nat, s.heap.size ≤ q → A q := fun q h => by rw [← hAe]; exact Or.inr h
  have hS : va_S A s.heap s.heap [] := va_S.rf
  have hl := lv_entry ([.ref (a 0), .int (nI i)]) (n := 2) (Nat.le_of_ble_eq_true rfl)
  rw [lg_entry_eq]
  generalize (lg_sl ([.ref (a 0), .int (nI i)]) ++ List.replicate (2 - (lg_sl ([.ref (a 0), .int (nI i)])).length) Slot.unset).toArray = ls at hl ⊢
  have hl : lv_has ls 2 [(0, .ref (a 0)), (1, .int (nI i))] := hl
  refine lv_aload_n hx hb dX1_buyFate_0 rfl (lv_at hl 0 rfl) ?_
  refine lv_iconst (v := 0) hx hb dX1_buyFate_1 (by decide) ?_
  refine mp_th hC hK hP hD hS dX1_buyFate_2 (fun H locs hP hD hS => ?_)
  refine lv_aload_n hx hb dX1_buyFate_5 rfl (lv_at hl 0 rfl) ?_
  refine lv_iload_n hx hb dX1_buyFate_6 rfl (lv_at hl 1 rfl) ?_
  refine k_X1_isPerson hC hK hP hl.1 ⟨Nat.le_of_ble_eq_true rfl, Nat.le_of_ble_eq_true rfl⟩ ⟨Nat.zero_le _, Nat.zero_le _⟩ (Nat.le_of_ble_eq_true rfl)  (by first | assumption | omega) dX1_buyFate_7 ?_
  refine lv_if_ne (tgt := 19) hx hb dX1_buyFate_10 (by decide) (fun c_10 => ?_) (fun c_10 => ?_)
  · refine lv_aload_n hx hb dX1_buyFate_19 rfl (lv_at hl 0 rfl) ?_
    refine mg_gn hC hK hP dX1_buyFate_20 ?_
    refine lv_iload_n hx hb dX1_buyFate_23 rfl (lv_at hl 1 rfl) ?_
    refine ml_gn hC hK hP i rfl (by omega) dX1_buyFate_24 ?_
    refine lv_if_ne (tgt := 53) hx hb dX1_buyFate_25 (by decide) (fun c_25 => ?_) (fun c_25 => ?_)
    · exact absurd ha c_25
    · refine lv_aload_n hx hb dX1_buyFate_28 rfl (lv_at hl 0 rfl) ?_
      refine mg_fa hC hK hP dX1_buyFate_29 ?_
      refine lv_iload_n hx hb dX1_buyFate_32 rfl (lv_at hl 1 rfl) ?_
      refine ml_fa hC hK hP i rfl (by omega) dX1_buyFate_33 ?_
      refine lv_bipush (v := 9) hx hb dX1_buyFate_34 (by decide) ?_
      refine lv_icmp_eq (tgt := 53) hx hb dX1_buyFate_36 (by decide) (fun c_36 => ?_) (fun c_36 => ?_)
      · refine lv_aload_n hx hb dX1_buyFate_53 rfl (lv_at hl 0 rfl) ?_
        refine lv_iconst (v := 2) hx hb dX1_buyFate_54 (by decide) ?_
        refine k_X1_fail hC hK hP hD hS hA hl.1 ⟨Nat.le_of_ble_eq_true rfl, Nat.le_of_ble_eq_true rfl⟩ ⟨Nat.zero_le _, Nat.zero_le _⟩ (Nat.le_of_ble_eq_true rfl)   dX1_buyFate_55 (fun H locs hP hD hS => ?_)
        exact W.iret (v := 0) hx hb hr (fun t ht hW => ⟨⟨0, (), rfl, rfl, by rw [ht]; exact hP, va_K.moved hW.alike hK, hD⟩, hS.F ht⟩) hS.2.2 dX1_buyFate_58
      · exact absurd hf c_36
  · exact absurd c_10 (by rw [isP_in (by omega) hi]; decide)
set_option maxHeartbeats 4000000 in
set_option maxRecDepth 100000 in
theorem c_X1_buyFate_d (l : Launch) (sz : Nat) {D : va_G} {z : ClassId × ClassId} {a : Nat → Nat} {th : Int32} {n w : Nat} {gn lk pu fa he nv of mp mi : Nat → Int32} {k : Nat} {nt fu re : Int32} (i : Nat) (hi : i < n) (hn : n ≤ 10) (ha : gn i = 0) (hf : ¬ fa i = 9) (hp : ¬ sp_price (lk i) ≤ pu i) : Met l yX1_buyFate (ws_ yX1_buyFate cX1_buyFate 2 (some .int)) ({ frames := 2, cells := 0, slots := 0, locals := 43 } : Room) (va_Pc [.ref (a 0), .int (nI i)] (fun U => U.heap.size = sz ∧ mI D z a th n w gn lk pu fa he nv of mp mi k nt fu re U ∧ va_D (fun _ => True) (mW z a th n w gn lk pu fa he nv of mp mi k nt fu re))) (va_Qi (fun (r : Int32) (_ : Unit) => r = 0) (fun _ t9 => va_P D vwCl (mW z a 2 n w gn lk pu fa he nv of mp mi k nt fu re) t9.heap ∧ kK D z t9 ∧ va_D (va_A (mW z a th n w gn lk pu fa he nv of mp mi k nt fu re) sz) (mW z a 2 n w gn lk pu fa he nv of mp mi k nt fu re)) (va_A (mW z a th n w gn lk pu fa he nv of mp mi k nt fu re) sz)) 0 0 (va_A (mW z a th n w gn lk pu fa he nv of mp mi k nt fu re) sz) := by
  refine Met.ofW (cc := cX1_buyFate) (maxL := 2) (ret := (some .int)) (by decide) rfl ?_
  intro p e s m args below meth c s₁ B hml hv
  obtain ⟨rfl, hsz, ⟨hP, hK⟩, hD0⟩ := hv
  have hx := B.exec
  have hb := B.bytes
  have hr := B.returns
  have hts := atoms_spec (ws := ws_ yX1_buyFate cX1_buyFate 2 (some .int)) B.pre
  have hts : ∀ w ∈ lw_all, w.before _ s = true := fun w h => hts w (List.mem_cons_of_mem _ h)
  have hown : s.vm.findClass RX1 = some m.cls := findClass_of_methodNamed B.named
  have hlocks := B.notSynchronized
  have hC : CallFix p m c cX1_buyFate 2 s _ lw_all RX1 := ⟨hx, hb, hml, hown, hts⟩
  subst hsz
  have hD := hD0.self (sz := s.heap.size)
  generalize hAe : va_A (mW z a th n w gn lk pu fa he nv of mp mi k nt fu re) s.heap.size = A at hD ⊢
  have hA : ∀ q : Nat, s.heap.size ≤ q → A q := fun q h => by rw [← hAe]; exact Or.inr h
  have hS : va_S A s.heap s.heap [] := va_S.rf
  have hl := lv_entry ([.ref (a 0), .int (nI i)]) (n := 2) (Nat.le_of_ble_eq_true rfl)
  rw [lg_entry_eq]
  generalize (lg_sl ([.ref (a 0), .int (nI i)]) ++ List.replicate (2 - (lg_sl ([.ref (a 0), .int (nI i)])).length) Slot.unset).toArray = ls at hl ⊢
  have hl : lv_has ls 2 [(0, .ref (a 0)), (1, .int (nI i))] := hl
  refine lv_aload_n hx hb dX1_buyFate_0 rfl (lv_at hl 0 rfl) ?_
  refine lv_iconst (v := 0) hx hb dX1_buyFate_1 (by decide) ?_
  refine mp_th hC hK hP hD hS dX1_buyFate_2 (fun H locs hP hD hS => ?_)
  refine lv_aload_n hx hb dX1_buyFate_5 rfl (lv_at hl 0 rfl) ?_
  refine lv_iload_n hx hb dX1_buyFate_6 rfl (lv_at hl 1 rfl) ?_
  refine k_X1_isPerson hC hK hP hl.1 ⟨Nat.le_of_ble_eq_true rfl, Nat.le_of_ble_eq_true rfl⟩ ⟨Nat.zero_le _, Nat.zero_le _⟩ (Nat.le_of_ble_eq_true rfl)  (by first | assumption | omega) dX1_buyFate_7 ?_
  refine lv_if_ne (tgt := 19) hx hb dX1_buyFate_10 (by decide) (fun c_10 => ?_) (fun c_10 => ?_)
  · refine lv_aload_n hx hb dX1_buyFate_19 rfl (lv_at hl 0 rfl) ?_
    refine mg_gn hC hK hP dX1_buyFate_20 ?_
    refine lv_iload_n hx hb dX1_buyFate_23 rfl (lv_at hl 1 rfl) ?_
    refine ml_gn hC hK hP i rfl (by omega) dX1_buyFate_24 ?_
    refine lv_if_ne (tgt := 53) hx hb dX1_buyFate_25 (by decide) (fun c_25 => ?_) (fun c_25 => ?_)
    · exact absurd ha c_25
    · refine lv_aload_n hx hb dX1_buyFate_28 rfl (lv_at hl 0 rfl) ?_
      refine mg_fa hC hK hP dX1_buyFate_29 ?_
      refine lv_iload_n hx hb dX1_buyFate_32 rfl (lv_at hl 1 rfl) ?_
      refine ml_fa hC hK hP i rfl (by omega) dX1_buyFate_33 ?_
      refine lv_bipush (v := 9) hx hb dX1_buyFate_34 (by decide) ?_
      refine lv_icmp_eq (tgt := 53) hx hb dX1_buyFate_36 (by decide) (fun c_36 => ?_) (fun c_36 => ?_)
      · exact absurd c_36 hf
      · refine lv_aload_n hx hb dX1_buyFate_39 rfl (lv_at hl 0 rfl) ?_
        refine mg_pu hC hK hP dX1_buyFate_40 ?_
        refine lv_iload_n hx hb dX1_buyFate_43 rfl (lv_at hl 1 rfl) ?_
        refine ml_pu hC hK hP i rfl (by omega) dX1_buyFate_44 ?_
        refine lv_aload_n hx hb dX1_buyFate_45 rfl (lv_at hl 0 rfl) ?_
        refine lv_iload_n hx hb dX1_buyFate_46 rfl (lv_at hl 1 rfl) ?_
        refine k_X1_price hC hK hP hl.1 ⟨Nat.le_of_ble_eq_true rfl, Nat.le_of_ble_eq_true rfl⟩ ⟨Nat.zero_le _, Nat.zero_le _⟩ (Nat.le_of_ble_eq_true rfl) rfl (by first | assumption | omega) dX1_buyFate_47 ?_
        refine lv_icmp_ge (tgt := 59) hx hb dX1_buyFate_50 (by decide) (fun c_50 => ?_) (fun c_50 => ?_)
        · exact absurd c_50 hp
        · refine lv_aload_n hx hb dX1_buyFate_53 rfl (lv_at hl 0 rfl) ?_
          refine lv_iconst (v := 2) hx hb dX1_buyFate_54 (by decide) ?_
          refine k_X1_fail hC hK hP hD hS hA hl.1 ⟨Nat.le_of_ble_eq_true rfl, Nat.le_of_ble_eq_true rfl⟩ ⟨Nat.zero_le _, Nat.zero_le _⟩ (Nat.le_of_ble_eq_true rfl)   dX1_buyFate_55 (fun H locs hP hD hS => ?_)
          exact W.iret (v := 0) hx hb hr (fun t ht hW => ⟨⟨0, (), rfl, rfl, by rw [ht]; exact hP, va_K.moved hW.alike hK, hD⟩, hS.F ht⟩) hS.2.2 dX1_buyFate_58
  · exact absurd c_10 (by rw [isP_in (by omega) hi]; decide)
set_option maxHeartbeats 4000000 in
set_option maxRecDepth 100000 in
theorem c_X1_turnDuty (l : Launch) (sz : Nat) {D : va_G} {z : ClassId × ClassId} {a : Nat → Nat} {th : Int32} {n w : Nat} {gn lk pu fa he nv of mp mi : Nat → Int32} {k : Nat} {nt fu re : Int32} (i : Nat) (hi : i < w) (hw : w ≤ 6) (h01 : of i = 0 ∨ of i = 1) : Met l yX1_turnDuty (ws_ yX1_turnDuty cX1_turnDuty 2 (some .boolean)) ({ frames := 2, cells := 0, slots := 0, locals := 43 } : Room) (va_Pc [.ref (a 0), .int (nI i)] (fun U => U.heap.size = sz ∧ mI D z a th n w gn lk pu fa he nv of mp mi k nt fu re U ∧ va_D (fun _ => True) (mW z a th n w gn lk pu fa he nv of mp mi k nt fu re))) (va_Qi (fun (r : Int32) (_ : Unit) => r = of i) (fun _ t9 => va_P D vwCl (mW z a 0 n w gn lk pu fa he nv (upd of i (sp_not (of i))) mp mi k nt fu re) t9.heap ∧ kK D z t9 ∧ va_D (va_A (mW z a th n w gn lk pu fa he nv of mp mi k nt fu re) sz) (mW z a 0 n w gn lk pu fa he nv (upd of i (sp_not (of i))) mp mi k nt fu re)) (va_A (mW z a th n w gn lk pu fa he nv of mp mi k nt fu re) sz)) 0 0 (va_A (mW z a th n w gn lk pu fa he nv of mp mi k nt fu re) sz) := by
  refine Met.ofW (cc := cX1_turnDuty) (maxL := 2) (ret := (some .boolean)) (by decide) rfl ?_
  intro p e s m args below meth c s₁ B hml hv
  obtain ⟨rfl, hsz, ⟨hP, hK⟩, hD0⟩ := hv
  have hx := B.exec
  have hb := B.bytes
  have hr := B.returns
  have hts := atoms_spec (ws := ws_ yX1_turnDuty cX1_turnDuty 2 (some .boolean)) B.pre
  have hts : ∀ w ∈ lw_all, w.before _ s = true := fun w h => hts w (List.mem_cons_of_mem _ h)
  have hown : s.vm.findClass RX1 = some m.cls := findClass_of_methodNamed B.named
  have hlocks := B.notSynchronized
  have hC : CallFix p m c cX1_turnDuty 2 s _ lw_all RX1 := ⟨hx, hb, hml, hown, hts⟩
  subst hsz
  have hD := hD0.self (sz := s.heap.size)
  generalize hAe : va_A (mW z a th n w gn lk pu fa he nv of mp mi k nt fu re) s.heap.size = A at hD ⊢
  have hA : ∀ q : Nat, s.heap.size ≤ q → A q := fun q h => by rw [← hAe]; exact Or.inr h
  have hS : va_S A s.heap s.heap [] := va_S.rf
  have hl := lv_entry ([.ref (a 0), .int (nI i)]) (n := 2) (Nat.le_of_ble_eq_true rfl)
  rw [lg_entry_eq]
  generalize (lg_sl ([.ref (a 0), .int (nI i)]) ++ List.replicate (2 - (lg_sl ([.ref (a 0), .int (nI i)])).length) Slot.unset).toArray = ls at hl ⊢
  have hl : lv_has ls 2 [(0, .ref (a 0)), (1, .int (nI i))] := hl
  refine lv_aload_n hx hb dX1_turnDuty_0 rfl (lv_at hl 0 rfl) ?_
  refine lv_aload_n hx hb dX1_turnDuty_1 rfl (lv_at hl 0 rfl) ?_
  refine lv_iload_n hx hb dX1_turnDuty_2 rfl (lv_at hl 1 rfl) ?_
  refine k_X1_isWitness hC hK hP hl.1 ⟨Nat.le_of_ble_eq_true rfl, Nat.le_of_ble_eq_true rfl⟩ ⟨Nat.zero_le _, Nat.zero_le _⟩ (Nat.le_of_ble_eq_true rfl)  (by first | assumption | omega) dX1_turnDuty_3 ?_
  refine lv_if_eq (tgt := 13) hx hb dX1_turnDuty_6 (by decide) (fun c_6 => ?_) (fun c_6 => ?_)
  · exact absurd c_6 (by rw [isP_in (by omega) hi]; decide)
  · refine lv_iconst (v := 0) hx hb dX1_turnDuty_9 (by decide) ?_
    refine lv_goto (tgt := 14) hx hb dX1_turnDuty_10 (by decide) ?_
    refine mp_th hC hK hP hD hS dX1_turnDuty_14 (fun H locs hP hD hS => ?_)
    refine lv_aload_n hx hb dX1_turnDuty_17 rfl (lv_at hl 0 rfl) ?_
    refine mg_th hC hK hP dX1_turnDuty_18 ?_
    refine lv_if_le (tgt := 26) hx hb dX1_turnDuty_21 (by decide) (fun c_21 => ?_) (fun c_21 => ?_)
    · refine lv_aload_n hx hb dX1_turnDuty_26 rfl (lv_at hl 0 rfl) ?_
      refine mg_of hC hK hP dX1_turnDuty_27 ?_
      refine lv_iload_n hx hb dX1_turnDuty_30 rfl (lv_at hl 1 rfl) ?_
      refine lv_aload_n hx hb dX1_turnDuty_31 rfl (lv_at hl 0 rfl) ?_
      refine mg_of hC hK hP dX1_turnDuty_32 ?_
      refine lv_iload_n hx hb dX1_turnDuty_35 rfl (lv_at hl 1 rfl) ?_
      refine ml_of hC hK hP i rfl (by omega) dX1_turnDuty_36 ?_
      refine lv_if_ne (tgt := 44) hx hb dX1_turnDuty_37 (by decide) (fun c_37 => ?_) (fun c_37 => ?_)
      · refine lv_iconst (v := 0) hx hb dX1_turnDuty_44 (by decide) ?_
        refine ms_of hC hK hP hD hS i rfl (by omega) (by decide) dX1_turnDuty_45 (fun H locs hP hD hS => ?_)
        refine lv_aload_n hx hb dX1_turnDuty_46 rfl (lv_at hl 0 rfl) ?_
        refine mg_of hC hK hP dX1_turnDuty_47 ?_
        refine lv_iload_n hx hb dX1_turnDuty_50 rfl (lv_at hl 1 rfl) ?_
        refine ml_of hC hK hP i rfl (by omega) dX1_turnDuty_51 ?_
        refine lv_if_ne (tgt := 59) hx hb dX1_turnDuty_52 (by decide) (fun c_52 => ?_) (fun c_52 => ?_)
        · exact absurd (by simp [upd]) c_52
        · refine lv_iconst (v := 1) hx hb dX1_turnDuty_55 (by decide) ?_
          refine lv_goto (tgt := 60) hx hb dX1_turnDuty_56 (by decide) ?_
          have hW9 : (mW z a 0 n w gn lk pu fa he nv (upd of i 0) mp mi k nt fu re : va_W) = mW z a 0 n w gn lk pu fa he nv (upd of i (sp_not (of i))) mp mi k nt fu re := (by simp [sp_not, c_37])
          rw [hW9] at hP hD
          exact W.zret (v := 1) hx hb hr (by decide) (fun t ht hW => ⟨⟨1, (), rfl, (by first | exact c_37.symm | exact (h01.resolve_left c_37).symm), by rw [ht]; exact hP, va_K.moved hW.alike hK, hD⟩, hS.F ht⟩) hS.2.2 dX1_turnDuty_60
      · refine lv_iconst (v := 1) hx hb dX1_turnDuty_40 (by decide) ?_
        refine lv_goto (tgt := 45) hx hb dX1_turnDuty_41 (by decide) ?_
        refine ms_of hC hK hP hD hS i rfl (by omega) (by decide) dX1_turnDuty_45 (fun H locs hP hD hS => ?_)
        refine lv_aload_n hx hb dX1_turnDuty_46 rfl (lv_at hl 0 rfl) ?_
        refine mg_of hC hK hP dX1_turnDuty_47 ?_
        refine lv_iload_n hx hb dX1_turnDuty_50 rfl (lv_at hl 1 rfl) ?_
        refine ml_of hC hK hP i rfl (by omega) dX1_turnDuty_51 ?_
        refine lv_if_ne (tgt := 59) hx hb dX1_turnDuty_52 (by decide) (fun c_52 => ?_) (fun c_52 => ?_)
        · refine lv_iconst (v := 0) hx hb dX1_turnDuty_59 (by decide) ?_
          have hW9 : (mW z a 0 n w gn lk pu fa he nv (upd of i 1) mp mi k nt fu re : va_W) = mW z a 0 n w gn lk pu fa he nv (upd of i (sp_not (of i))) mp mi k nt fu re := (by simp [sp_not, c_37])
          rw [hW9] at hP hD
          exact W.zret (v := 0) hx hb hr (by decide) (fun t ht hW => ⟨⟨0, (), rfl, (by first | exact c_37.symm | exact (h01.resolve_left c_37).symm), by rw [ht]; exact hP, va_K.moved hW.alike hK, hD⟩, hS.F ht⟩) hS.2.2 dX1_turnDuty_60
        · exact absurd c_52 (by simp [upd])
    · exact absurd (by decide) c_21
set_option maxHeartbeats 4000000 in
set_option maxRecDepth 100000 in
theorem c_X1_turnDuty_a (l : Launch) (sz : Nat) {D : va_G} {z : ClassId × ClassId} {a : Nat → Nat} {th : Int32} {n w : Nat} {gn lk pu fa he nv of mp mi : Nat → Int32} {k : Nat} {nt fu re : Int32} (x : Int32) (hw : w ≤ 6) (hbad : sp_isP w x = 0) : Met l yX1_turnDuty (ws_ yX1_turnDuty cX1_turnDuty 2 (some .boolean)) ({ frames := 2, cells := 0, slots := 0, locals := 43 } : Room) (va_Pc [.ref (a 0), .int x] (fun U => U.heap.size = sz ∧ mI D z a th n w gn lk pu fa he nv of mp mi k nt fu re U ∧ va_D (fun _ => True) (mW z a th n w gn lk pu fa he nv of mp mi k nt fu re))) (va_Qi (fun (r : Int32) (_ : Unit) => r = 0) (fun _ t9 => va_P D vwCl (mW z a 1 n w gn lk pu fa he nv of mp mi k nt fu re) t9.heap ∧ kK D z t9 ∧ va_D (va_A (mW z a th n w gn lk pu fa he nv of mp mi k nt fu re) sz) (mW z a 1 n w gn lk pu fa he nv of mp mi k nt fu re)) (va_A (mW z a th n w gn lk pu fa he nv of mp mi k nt fu re) sz)) 0 0 (va_A (mW z a th n w gn lk pu fa he nv of mp mi k nt fu re) sz) := by
  refine Met.ofW (cc := cX1_turnDuty) (maxL := 2) (ret := (some .boolean)) (by decide) rfl ?_
  intro p e s m args below meth c s₁ B hml hv
  obtain ⟨rfl, hsz, ⟨hP, hK⟩, hD0⟩ := hv
  have hx := B.exec
  have hb := B.bytes
  have hr := B.returns
  have hts := atoms_spec (ws := ws_ yX1_turnDuty cX1_turnDuty 2 (some .boolean)) B.pre
  have hts : ∀ w ∈ lw_all, w.before _ s = true := fun w h => hts w (List.mem_cons_of_mem _ h)
  have hown : s.vm.findClass RX1 = some m.cls := findClass_of_methodNamed B.named
  have hlocks := B.notSynchronized
  have hC : CallFix p m c cX1_turnDuty 2 s _ lw_all RX1 := ⟨hx, hb, hml, hown, hts⟩
  subst hsz
  have hD := hD0.self (sz := s.heap.size)
  generalize hAe : va_A (mW z a th n w gn lk pu fa he nv of mp mi k nt fu re) s.heap.size = A at hD ⊢
  have hA : ∀ q : Nat, s.heap.size ≤ q → A q := fun q h => by rw [← hAe]; exact Or.inr h
  have hS : va_S A s.heap s.heap [] := va_S.rf
  have hl := lv_entry ([.ref (a 0), .int x]) (n := 2) (Nat.le_of_ble_eq_true rfl)
  rw [lg_entry_eq]
  generalize (lg_sl ([.ref (a 0), .int x]) ++ List.replicate (2 - (lg_sl ([.ref (a 0), .int x])).length) Slot.unset).toArray = ls at hl ⊢
  have hl : lv_has ls 2 [(0, .ref (a 0)), (1, .int x)] := hl
  refine lv_aload_n hx hb dX1_turnDuty_0 rfl (lv_at hl 0 rfl) ?_
  refine lv_aload_n hx hb dX1_turnDuty_1 rfl (lv_at hl 0 rfl) ?_
  refine lv_iload_n hx hb dX1_turnDuty_2 rfl (lv_at hl 1 rfl) ?_
  refine k_X1_isWitness hC hK hP hl.1 ⟨Nat.le_of_ble_eq_true rfl, Nat.le_of_ble_eq_true rfl⟩ ⟨Nat.zero_le _, Nat.zero_le _⟩ (Nat.le_of_ble_eq_true rfl)  (by first | assumption | omega) dX1_turnDuty_3 ?_
  refine lv_if_eq (tgt := 13) hx hb dX1_turnDuty_6 (by decide) (fun c_6 => ?_) (fun c_6 => ?_)
  · refine lv_iconst (v := 1) hx hb dX1_turnDuty_13 (by decide) ?_
    refine mp_th hC hK hP hD hS dX1_turnDuty_14 (fun H locs hP hD hS => ?_)
    refine lv_aload_n hx hb dX1_turnDuty_17 rfl (lv_at hl 0 rfl) ?_
    refine mg_th hC hK hP dX1_turnDuty_18 ?_
    refine lv_if_le (tgt := 26) hx hb dX1_turnDuty_21 (by decide) (fun c_21 => ?_) (fun c_21 => ?_)
    · exact absurd c_21 (by decide)
    · refine lv_iconst (v := 0) hx hb dX1_turnDuty_24 (by decide) ?_
      exact W.zret (v := 0) hx hb hr (by decide) (fun t ht hW => ⟨⟨0, (), rfl, rfl, by rw [ht]; exact hP, va_K.moved hW.alike hK, hD⟩, hS.F ht⟩) hS.2.2 dX1_turnDuty_25
  · exact absurd hbad c_6
set_option maxHeartbeats 4000000 in
set_option maxRecDepth 100000 in
theorem c_X1_miss (l : Launch) (sz : Nat) {D : va_G} {z : ClassId × ClassId} {a : Nat → Nat} {th : Int32} {n w : Nat} {gn lk pu fa he nv of mp mi : Nat → Int32} {k : Nat} {nt fu re : Int32} (i : Nat) (hi : i < n) (hn : n ≤ 10) (y : Int32) (hw : w ≤ 6) (hk : k < 60) (h1 : ¬ y < 1) (h2 : y ≤ 60) (ha : gn i = 0) : Met l yX1_miss (ws_ yX1_miss cX1_miss 5 (some .int)) ({ frames := 3, cells := 0, slots := 0, locals := 68 } : Room) (va_Pc [.ref (a 0), .int (nI i), .int y] (fun U => U.heap.size = sz ∧ mI D z a th n w gn lk pu fa he nv of mp mi k nt fu re U ∧ va_D (fun _ => True) (mW z a th n w gn lk pu fa he nv of mp mi k nt fu re))) (va_Qi (fun (r : Int32) (_ : Unit) => r = mq_mid of nv y w) (fun _ t9 => va_P D vwCl (mW z a 0 n w gn (upd lk i (imax 0 (lk i - (60 - y) / 10))) (if sp_uses 1 (fa i) (mq_mid of nv y w) = 0 then pu else upd pu i (pu i + sp_coins 1 (fa i) (lk i) fu (mq_mid of nv y w))) (if sp_uses 1 (fa i) (mq_mid of nv y w) = 0 then fa else upd fa i (fa i - 1)) he (mq_fr of (sp_loss y) nv w) of (upd mp k (nI i)) (upd mi k (mq_mid of nv y w)) (k + 1) nt (if sp_uses 1 (fa i) (mq_mid of nv y w) = 0 then fu else fu - sp_coins 1 (fa i) (lk i) fu (mq_mid of nv y w)) (if sp_uses 1 (fa i) (mq_mid of nv y w) = 0 then re else re + sp_coins 1 (fa i) (lk i) fu (mq_mid of nv y w))) t9.heap ∧ kK D z t9 ∧ va_D (va_A (mW z a th n w gn lk pu fa he nv of mp mi k nt fu re) sz) (mW z a 0 n w gn (upd lk i (imax 0 (lk i - (60 - y) / 10))) (if sp_uses 1 (fa i) (mq_mid of nv y w) = 0 then pu else upd pu i (pu i + sp_coins 1 (fa i) (lk i) fu (mq_mid of nv y w))) (if sp_uses 1 (fa i) (mq_mid of nv y w) = 0 then fa else upd fa i (fa i - 1)) he (mq_fr of (sp_loss y) nv w) of (upd mp k (nI i)) (upd mi k (mq_mid of nv y w)) (k + 1) nt (if sp_uses 1 (fa i) (mq_mid of nv y w) = 0 then fu else fu - sp_coins 1 (fa i) (lk i) fu (mq_mid of nv y w)) (if sp_uses 1 (fa i) (mq_mid of nv y w) = 0 then re else re + sp_coins 1 (fa i) (lk i) fu (mq_mid of nv y w)))) (va_A (mW z a th n w gn lk pu fa he nv of mp mi k nt fu re) sz)) 0 0 (va_A (mW z a th n w gn lk pu fa he nv of mp mi k nt fu re) sz) := by
  refine Met.ofW (cc := cX1_miss) (maxL := 5) (ret := (some .int)) (by decide) rfl ?_
  intro p e s m args below meth c s₁ B hml hv
  obtain ⟨rfl, hsz, ⟨hP, hK⟩, hD0⟩ := hv
  have hx := B.exec
  have hb := B.bytes
  have hr := B.returns
  have hts := atoms_spec (ws := ws_ yX1_miss cX1_miss 5 (some .int)) B.pre
  have hts : ∀ w ∈ lw_all, w.before _ s = true := fun w h => hts w (List.mem_cons_of_mem _ h)
  have hown : s.vm.findClass RX1 = some m.cls := findClass_of_methodNamed B.named
  have hlocks := B.notSynchronized
  have hC : CallFix p m c cX1_miss 5 s _ lw_all RX1 := ⟨hx, hb, hml, hown, hts⟩
  subst hsz
  have hD := hD0.self (sz := s.heap.size)
  generalize hAe : va_A (mW z a th n w gn lk pu fa he nv of mp mi k nt fu re) s.heap.size = A at hD ⊢
  have hA : ∀ q : Nat, s.heap.size ≤ q → A q := fun q h => by rw [← hAe]; exact Or.inr h
  have hS : va_S A s.heap s.heap [] := va_S.rf
  have hl := lv_entry ([.ref (a 0), .int (nI i), .int y]) (n := 5) (Nat.le_of_ble_eq_true rfl)
  rw [lg_entry_eq]
  generalize (lg_sl ([.ref (a 0), .int (nI i), .int y]) ++ List.replicate (5 - (lg_sl ([.ref (a 0), .int (nI i), .int y])).length) Slot.unset).toArray = ls at hl ⊢
  have hl : lv_has ls 5 [(0, .ref (a 0)), (1, .int (nI i)), (2, .int y)] := hl
  refine lv_aload_n hx hb dX1_miss_0 rfl (lv_at hl 0 rfl) ?_
  refine lv_iconst (v := 0) hx hb dX1_miss_1 (by decide) ?_
  refine mp_th hC hK hP hD hS dX1_miss_2 (fun H locs hP hD hS => ?_)
  refine lv_aload_n hx hb dX1_miss_5 rfl (lv_at hl 0 rfl) ?_
  refine lv_iload_n hx hb dX1_miss_6 rfl (lv_at hl 1 rfl) ?_
  refine k_X1_isPerson hC hK hP hl.1 ⟨Nat.le_of_ble_eq_true rfl, Nat.le_of_ble_eq_true rfl⟩ ⟨Nat.zero_le _, Nat.zero_le _⟩ (Nat.le_of_ble_eq_true rfl)  (by first | assumption | omega) dX1_miss_7 ?_
  refine lv_if_ne (tgt := 19) hx hb dX1_miss_10 (by decide) (fun c_10 => ?_) (fun c_10 => ?_)
  · refine lv_iload_n hx hb dX1_miss_19 rfl (lv_at hl 2 rfl) ?_
    refine lv_iconst (v := 1) hx hb dX1_miss_20 (by decide) ?_
    refine lv_bipush (v := 60) hx hb dX1_miss_21 (by decide) ?_
    refine k_X1_isIn hC hl.1 ⟨Nat.le_of_ble_eq_true rfl, Nat.le_of_ble_eq_true rfl⟩ ⟨Nat.zero_le _, Nat.zero_le _⟩ (Nat.le_of_ble_eq_true rfl)   dX1_miss_23 ?_
    refine lv_if_ne (tgt := 35) hx hb dX1_miss_26 (by decide) (fun c_26 => ?_) (fun c_26 => ?_)
    · refine lv_aload_n hx hb dX1_miss_35 rfl (lv_at hl 0 rfl) ?_
      refine mg_gn hC hK hP dX1_miss_36 ?_
      refine lv_iload_n hx hb dX1_miss_39 rfl (lv_at hl 1 rfl) ?_
      refine ml_gn hC hK hP i rfl (by omega) dX1_miss_40 ?_
      refine lv_if_ne (tgt := 53) hx hb dX1_miss_41 (by decide) (fun c_41 => ?_) (fun c_41 => ?_)
      · exact absurd ha c_41
      · refine lv_aload_n hx hb dX1_miss_44 rfl (lv_at hl 0 rfl) ?_
        refine mg_k hC hK hP dX1_miss_45 ?_
        refine lv_bipush (v := 60) hx hb dX1_miss_48 (by decide) ?_
        refine lv_icmp_ne (tgt := 59) hx hb dX1_miss_50 (by decide) (fun c_50 => ?_) (fun c_50 => ?_)
        · have nc_50 : ¬ k = 60 := nn_ne (by omega) c_50
          refine lv_aload_n hx hb dX1_miss_59 rfl (lv_at hl 0 rfl) ?_
          refine lv_iload_n hx hb dX1_miss_60 rfl (lv_at hl 2 rfl) ?_
          refine k_X1_middle hC hK hP hl.1 ⟨Nat.le_of_ble_eq_true rfl, Nat.le_of_ble_eq_true rfl⟩ ⟨Nat.zero_le _, Nat.zero_le _⟩ (Nat.le_of_ble_eq_true rfl)  (by first | assumption | omega) dX1_miss_61 ?_
          refine lv_istore_n (lv' := [(3, .int (mq_mid of nv y w)), (0, .ref (a 0)), (1, .int (nI i)), (2, .int y)]) hx hb dX1_miss_64 rfl hl (by decide) rfl (fun ls hl => ?_)
          refine lv_iload_n hx hb dX1_miss_65 rfl (lv_at hl 0 rfl) ?_
          refine lv_if_le (tgt := 135) hx hb dX1_miss_66 (by decide) (fun c_66 => ?_) (fun c_66 => ?_)
          · refine lv_aload_n hx hb dX1_miss_135 rfl (lv_at hl 1 rfl) ?_
            refine mg_lk hC hK hP dX1_miss_136 ?_
            refine lv_iload_n hx hb dX1_miss_139 rfl (lv_at hl 2 rfl) ?_
            refine lv_iconst (v := 0) hx hb dX1_miss_140 (by decide) ?_
            refine lv_aload_n hx hb dX1_miss_141 rfl (lv_at hl 1 rfl) ?_
            refine mg_lk hC hK hP dX1_miss_142 ?_
            refine lv_iload_n hx hb dX1_miss_145 rfl (lv_at hl 2 rfl) ?_
            refine ml_lk hC hK hP i rfl (by omega) dX1_miss_146 ?_
            refine lv_bipush (v := 60) hx hb dX1_miss_147 (by decide) ?_
            refine lv_iload_n hx hb dX1_miss_149 rfl (lv_at hl 3 rfl) ?_
            refine lv_isub hx hb dX1_miss_150 ?_
            refine lv_bipush (v := 10) hx hb dX1_miss_151 (by decide) ?_
            refine lv_idiv hx hb dX1_miss_153 (by decide) ?_
            refine lv_isub hx hb dX1_miss_154 ?_
            refine va_mmax hx hb (hml.trans hl.1.symm) hown (hts _ mM_X1_55) (hts _ mT_max) (hts _ mI_Math) (hts _ mC_max) (Nat.le_of_ble_eq_true rfl) (Nat.le_of_ble_eq_true rfl) (Nat.zero_le _) (Nat.zero_le _) dX1_miss_155 ?_
            refine ms_lk hC hK hP hD hS i rfl (by omega) dX1_miss_158 (fun H locs hP hD hS => ?_)
            refine lv_iconst (v := 0) hx hb dX1_miss_159 (by decide) ?_
            refine lv_istore (lv' := [(4, .int 0), (3, .int (mq_mid of nv y w)), (0, .ref (a 0)), (1, .int (nI i)), (2, .int y)]) hx hb dX1_miss_160 hl (by decide) rfl (fun ls hl => ?_)
            have loop_162 : ∀ (f : Nat) (j : Nat) (g : Nat → Int32), j ≤ w → w + 1 ≤ j + f → g = mq_fr of (sp_loss y) nv j → ∀ (H : Heap) (locs : List Loc), va_P D vwCl (mW z a 0 n w gn (upd lk i (imax 0 ((lk i) - ((60 - y) / 10)))) pu fa he g of mp mi k nt fu re) H → va_D A (mW z a 0 n w gn (upd lk i (imax 0 ((lk i) - ((60 - y) / 10)))) pu fa he g of mp mi k nt fu re) → va_S A s.heap H locs → ∀ ls : Array Slot, lv_has ls 5 [(0, .ref (a 0)), (1, .int (nI i)), (2, .int y), (3, .int (mq_mid of nv y w)), (4, .int (nI j))] → W p l e ({ frames := 3, cells := 0, slots := 0, locals := 68 } : Room) s m ([.ref (a 0), .int (nI i), .int y] : List Value).toArray below meth c H locs 0 0 (MQ below (va_Qi (fun (r : Int32) (_ : Unit) => r = mq_mid of nv y w) (fun _ t9 => va_P D vwCl (mW z a 0 n w gn (upd lk i (imax 0 (lk i - (60 - y) / 10))) (if sp_uses 1 (fa i) (mq_mid of nv y w) = 0 then pu else upd pu i (pu i + sp_coins 1 (fa i) (lk i) fu (mq_mid of nv y w))) (if sp_uses 1 (fa i) (mq_mid of nv y w) = 0 then fa else upd fa i (fa i - 1)) he (mq_fr of (sp_loss y) nv w) of (upd mp k (nI i)) (upd mi k (mq_mid of nv y w)) (k + 1) nt (if sp_uses 1 (fa i) (mq_mid of nv y w) = 0 then fu else fu - sp_coins 1 (fa i) (lk i) fu (mq_mid of nv y w)) (if sp_uses 1 (fa i) (mq_mid of nv y w) = 0 then re else re + sp_coins 1 (fa i) (lk i) fu (mq_mid of nv y w))) t9.heap ∧ kK D z t9 ∧ va_D A (mW z a 0 n w gn (upd lk i (imax 0 (lk i - (60 - y) / 10))) (if sp_uses 1 (fa i) (mq_mid of nv y w) = 0 then pu else upd pu i (pu i + sp_coins 1 (fa i) (lk i) fu (mq_mid of nv y w))) (if sp_uses 1 (fa i) (mq_mid of nv y w) = 0 then fa else upd fa i (fa i - 1)) he (mq_fr of (sp_loss y) nv w) of (upd mp k (nI i)) (upd mi k (mq_mid of nv y w)) (k + 1) nt (if sp_uses 1 (fa i) (mq_mid of nv y w) = 0 then fu else fu - sp_coins 1 (fa i) (lk i) fu (mq_mid of nv y w)) (if sp_uses 1 (fa i) (mq_mid of nv y w) = 0 then re else re + sp_coins 1 (fa i) (lk i) fu (mq_mid of nv y w)))) A) ([.ref (a 0), .int (nI i), .int y] : List Value).toArray s 0 0 A) (F0 m 162 ls []) := by
              intro f
              induction f with
              | zero =>
                intro j g hj hf hg
                exact absurd hf (by omega)
              | succ f ih162 =>
                intro j g hj hf hg H locs hP hD hS ls hl
                refine lv_iload hx hb dX1_miss_162 (lv_at hl 4 rfl) ?_
                refine lv_aload_n hx hb dX1_miss_164 rfl (lv_at hl 0 rfl) ?_
                refine mg_w hC hK hP dX1_miss_165 ?_
                refine lv_icmp_ge (tgt := 210) hx hb dX1_miss_168 (by decide) (fun c_168 => ?_) (fun c_168 => ?_)
                · have nc_168 : w ≤ j := nn_le (by omega) c_168
                  refine lv_aload_n hx hb dX1_miss_210 rfl (lv_at hl 0 rfl) ?_
                  refine mg_mp hC hK hP dX1_miss_211 ?_
                  refine lv_aload_n hx hb dX1_miss_214 rfl (lv_at hl 0 rfl) ?_
                  refine mg_k hC hK hP dX1_miss_215 ?_
                  refine lv_iload_n hx hb dX1_miss_218 rfl (lv_at hl 1 rfl) ?_
                  refine ms_mp hC hK hP hD hS k rfl (by omega) dX1_miss_219 (fun H locs hP hD hS => ?_)
                  refine lv_aload_n hx hb dX1_miss_220 rfl (lv_at hl 0 rfl) ?_
                  refine mg_mi hC hK hP dX1_miss_221 ?_
                  refine lv_aload_n hx hb dX1_miss_224 rfl (lv_at hl 0 rfl) ?_
                  refine mg_k hC hK hP dX1_miss_225 ?_
                  refine lv_iload_n hx hb dX1_miss_228 rfl (lv_at hl 3 rfl) ?_
                  refine ms_mi hC hK hP hD hS k rfl (by omega) dX1_miss_229 (fun H locs hP hD hS => ?_)
                  refine lv_aload_n hx hb dX1_miss_230 rfl (lv_at hl 0 rfl) ?_
                  refine lv_dup hx hb dX1_miss_231 rfl ?_
                  refine mg_k hC hK hP dX1_miss_232 ?_
                  refine lv_iconst (v := 1) hx hb dX1_miss_235 (by decide) ?_
                  refine lv_iadd hx hb dX1_miss_236 ?_
                  refine mp_k (k' := k + 1) hC hK hP hD hS (nI_1 _) dX1_miss_237 (fun H locs hP hD hS => ?_)
                  refine lv_iload_n hx hb dX1_miss_240 rfl (lv_at hl 3 rfl) ?_
                  have hW9 : (mW z a 0 n w gn (upd lk i (imax 0 ((lk i) - ((60 - y) / 10)))) pu fa he g of (upd mp k (nI i)) (upd mi k (mq_mid of nv y w)) (k + 1) nt fu re : va_W) = mW z a 0 n w gn (upd lk i (imax 0 (lk i - (60 - y) / 10))) (if sp_uses 1 (fa i) (mq_mid of nv y w) = 0 then pu else upd pu i (pu i + sp_coins 1 (fa i) (lk i) fu (mq_mid of nv y w))) (if sp_uses 1 (fa i) (mq_mid of nv y w) = 0 then fa else upd fa i (fa i - 1)) he (mq_fr of (sp_loss y) nv w) of (upd mp k (nI i)) (upd mi k (mq_mid of nv y w)) (k + 1) nt (if sp_uses 1 (fa i) (mq_mid of nv y w) = 0 then fu else fu - sp_coins 1 (fa i) (lk i) fu (mq_mid of nv y w)) (if sp_uses 1 (fa i) (mq_mid of nv y w) = 0 then re else re + sp_coins 1 (fa i) (lk i) fu (mq_mid of nv y w)) := (by rw [hg, show j = w by omega]; simp [sp_uses, sp_coins, mq_rfd, c_66])
                  rw [hW9] at hP hD
                  exact W.iret (v := mq_mid of nv y w) hx hb hr (fun t ht hW => ⟨⟨mq_mid of nv y w, (), rfl, rfl, by rw [ht]; exact hP, va_K.moved hW.alike hK, hD⟩, hS.F ht⟩) hS.2.2 dX1_miss_241
                · have nc_168 : j < w := nn_nle (by omega) c_168
                  refine lv_aload_n hx hb dX1_miss_171 rfl (lv_at hl 0 rfl) ?_
                  refine mg_of hC hK hP dX1_miss_172 ?_
                  refine lv_iload hx hb dX1_miss_175 (lv_at hl 4 rfl) ?_
                  refine ml_of hC hK hP j rfl (by omega) dX1_miss_177 ?_
                  refine lv_if_ne (tgt := 204) hx hb dX1_miss_178 (by decide) (fun c_178 => ?_) (fun c_178 => ?_)
                  · refine lv_iinc (v := nI (j + 1)) (lv' := [(4, .int (nI (j + 1))), (0, .ref (a 0)), (1, .int (nI i)), (2, .int y), (3, .int (mq_mid of nv y w))]) hx hb dX1_miss_204 hl (k := 4) rfl (nI_1 _) (by decide) rfl (fun ls hl => ?_)
                    refine lv_goto (tgt := 162) hx hb dX1_miss_207 (by decide) ?_
                    exact ih162 (j + 1) g (by omega) (by omega) (by simp [mq_fr, hg, c_178]) _ _ hP hD hS _ (lv_sub hl [1, 2, 3, 4, 0] rfl)
                  · refine lv_aload_n hx hb dX1_miss_181 rfl (lv_at hl 0 rfl) ?_
                    refine mg_nv hC hK hP dX1_miss_182 ?_
                    refine lv_iload hx hb dX1_miss_185 (lv_at hl 4 rfl) ?_
                    refine lv_iconst (v := 0) hx hb dX1_miss_187 (by decide) ?_
                    refine lv_aload_n hx hb dX1_miss_188 rfl (lv_at hl 0 rfl) ?_
                    refine mg_nv hC hK hP dX1_miss_189 ?_
                    refine lv_iload hx hb dX1_miss_192 (lv_at hl 4 rfl) ?_
                    refine ml_nv hC hK hP j rfl (by omega) dX1_miss_194 ?_
                    refine lv_iload_n hx hb dX1_miss_195 rfl (lv_at hl 2 rfl) ?_
                    refine k_X1_shock hC hl.1 ⟨Nat.le_of_ble_eq_true rfl, Nat.le_of_ble_eq_true rfl⟩ ⟨Nat.zero_le _, Nat.zero_le _⟩ (Nat.le_of_ble_eq_true rfl)   dX1_miss_196 ?_
                    refine lv_isub hx hb dX1_miss_199 ?_
                    refine va_mmax hx hb (hml.trans hl.1.symm) hown (hts _ mM_X1_55) (hts _ mT_max) (hts _ mI_Math) (hts _ mC_max) (Nat.le_of_ble_eq_true rfl) (Nat.le_of_ble_eq_true rfl) (Nat.zero_le _) (Nat.zero_le _) dX1_miss_200 ?_
                    refine ms_nv hC hK hP hD hS j rfl (by omega) dX1_miss_203 (fun H locs hP hD hS => ?_)
                    refine lv_iinc (v := nI (j + 1)) (lv' := [(4, .int (nI (j + 1))), (0, .ref (a 0)), (1, .int (nI i)), (2, .int y), (3, .int (mq_mid of nv y w))]) hx hb dX1_miss_204 hl (k := 4) rfl (nI_1 _) (by decide) rfl (fun ls hl => ?_)
                    refine lv_goto (tgt := 162) hx hb dX1_miss_207 (by decide) ?_
                    exact ih162 (j + 1) (upd g j (imax 0 ((g j) - (sp_loss y)))) (by omega) (by omega) (by simp [mq_fr, hg, c_178]) _ _ hP hD hS _ (lv_sub hl [1, 2, 3, 4, 0] rfl)
            exact loop_162 (w + 1) 0 nv (Nat.zero_le _) (by omega) rfl _ _ hP hD hS _ (lv_sub hl [2, 3, 4, 1, 0] rfl)
          · refine lv_iload_n hx hb dX1_miss_69 rfl (lv_at hl 0 rfl) ?_
            refine lv_bipush (v := 24) hx hb dX1_miss_70 (by decide) ?_
            refine lv_icmp_gt (tgt := 135) hx hb dX1_miss_72 (by decide) (fun c_72 => ?_) (fun c_72 => ?_)
            · refine lv_aload_n hx hb dX1_miss_135 rfl (lv_at hl 1 rfl) ?_
              refine mg_lk hC hK hP dX1_miss_136 ?_
              refine lv_iload_n hx hb dX1_miss_139 rfl (lv_at hl 2 rfl) ?_
              refine lv_iconst (v := 0) hx hb dX1_miss_140 (by decide) ?_
              refine lv_aload_n hx hb dX1_miss_141 rfl (lv_at hl 1 rfl) ?_
              refine mg_lk hC hK hP dX1_miss_142 ?_
              refine lv_iload_n hx hb dX1_miss_145 rfl (lv_at hl 2 rfl) ?_
              refine ml_lk hC hK hP i rfl (by omega) dX1_miss_146 ?_
              refine lv_bipush (v := 60) hx hb dX1_miss_147 (by decide) ?_
              refine lv_iload_n hx hb dX1_miss_149 rfl (lv_at hl 3 rfl) ?_
              refine lv_isub hx hb dX1_miss_150 ?_
              refine lv_bipush (v := 10) hx hb dX1_miss_151 (by decide) ?_
              refine lv_idiv hx hb dX1_miss_153 (by decide) ?_
              refine lv_isub hx hb dX1_miss_154 ?_
              refine va_mmax hx hb (hml.trans hl.1.symm) hown (hts _ mM_X1_55) (hts _ mT_max) (hts _ mI_Math) (hts _ mC_max) (Nat.le_of_ble_eq_true rfl) (Nat.le_of_ble_eq_true rfl) (Nat.zero_le _) (Nat.zero_le _) dX1_miss_155 ?_
              refine ms_lk hC hK hP hD hS i rfl (by omega) dX1_miss_158 (fun H locs hP hD hS => ?_)
              refine lv_iconst (v := 0) hx hb dX1_miss_159 (by decide) ?_
              refine lv_istore (lv' := [(4, .int 0), (3, .int (mq_mid of nv y w)), (0, .ref (a 0)), (1, .int (nI i)), (2, .int y)]) hx hb dX1_miss_160 hl (by decide) rfl (fun ls hl => ?_)
              have loop_162 : ∀ (f : Nat) (j : Nat) (g : Nat → Int32), j ≤ w → w + 1 ≤ j + f → g = mq_fr of (sp_loss y) nv j → ∀ (H : Heap) (locs : List Loc), va_P D vwCl (mW z a 0 n w gn (upd lk i (imax 0 ((lk i) - ((60 - y) / 10)))) pu fa he g of mp mi k nt fu re) H → va_D A (mW z a 0 n w gn (upd lk i (imax 0 ((lk i) - ((60 - y) / 10)))) pu fa he g of mp mi k nt fu re) → va_S A s.heap H locs → ∀ ls : Array Slot, lv_has ls 5 [(0, .ref (a 0)), (1, .int (nI i)), (2, .int y), (3, .int (mq_mid of nv y w)), (4, .int (nI j))] → W p l e ({ frames := 3, cells := 0, slots := 0, locals := 68 } : Room) s m ([.ref (a 0), .int (nI i), .int y] : List Value).toArray below meth c H locs 0 0 (MQ below (va_Qi (fun (r : Int32) (_ : Unit) => r = mq_mid of nv y w) (fun _ t9 => va_P D vwCl (mW z a 0 n w gn (upd lk i (imax 0 (lk i - (60 - y) / 10))) (if sp_uses 1 (fa i) (mq_mid of nv y w) = 0 then pu else upd pu i (pu i + sp_coins 1 (fa i) (lk i) fu (mq_mid of nv y w))) (if sp_uses 1 (fa i) (mq_mid of nv y w) = 0 then fa else upd fa i (fa i - 1)) he (mq_fr of (sp_loss y) nv w) of (upd mp k (nI i)) (upd mi k (mq_mid of nv y w)) (k + 1) nt (if sp_uses 1 (fa i) (mq_mid of nv y w) = 0 then fu else fu - sp_coins 1 (fa i) (lk i) fu (mq_mid of nv y w)) (if sp_uses 1 (fa i) (mq_mid of nv y w) = 0 then re else re + sp_coins 1 (fa i) (lk i) fu (mq_mid of nv y w))) t9.heap ∧ kK D z t9 ∧ va_D A (mW z a 0 n w gn (upd lk i (imax 0 (lk i - (60 - y) / 10))) (if sp_uses 1 (fa i) (mq_mid of nv y w) = 0 then pu else upd pu i (pu i + sp_coins 1 (fa i) (lk i) fu (mq_mid of nv y w))) (if sp_uses 1 (fa i) (mq_mid of nv y w) = 0 then fa else upd fa i (fa i - 1)) he (mq_fr of (sp_loss y) nv w) of (upd mp k (nI i)) (upd mi k (mq_mid of nv y w)) (k + 1) nt (if sp_uses 1 (fa i) (mq_mid of nv y w) = 0 then fu else fu - sp_coins 1 (fa i) (lk i) fu (mq_mid of nv y w)) (if sp_uses 1 (fa i) (mq_mid of nv y w) = 0 then re else re + sp_coins 1 (fa i) (lk i) fu (mq_mid of nv y w)))) A) ([.ref (a 0), .int (nI i), .int y] : List Value).toArray s 0 0 A) (F0 m 162 ls []) := by
                intro f
                induction f with
                | zero =>
                  intro j g hj hf hg
                  exact absurd hf (by omega)
                | succ f ih162 =>
                  intro j g hj hf hg H locs hP hD hS ls hl
                  refine lv_iload hx hb dX1_miss_162 (lv_at hl 4 rfl) ?_
                  refine lv_aload_n hx hb dX1_miss_164 rfl (lv_at hl 0 rfl) ?_
                  refine mg_w hC hK hP dX1_miss_165 ?_
                  refine lv_icmp_ge (tgt := 210) hx hb dX1_miss_168 (by decide) (fun c_168 => ?_) (fun c_168 => ?_)
                  · have nc_168 : w ≤ j := nn_le (by omega) c_168
                    refine lv_aload_n hx hb dX1_miss_210 rfl (lv_at hl 0 rfl) ?_
                    refine mg_mp hC hK hP dX1_miss_211 ?_
                    refine lv_aload_n hx hb dX1_miss_214 rfl (lv_at hl 0 rfl) ?_
                    refine mg_k hC hK hP dX1_miss_215 ?_
                    refine lv_iload_n hx hb dX1_miss_218 rfl (lv_at hl 1 rfl) ?_
                    refine ms_mp hC hK hP hD hS k rfl (by omega) dX1_miss_219 (fun H locs hP hD hS => ?_)
                    refine lv_aload_n hx hb dX1_miss_220 rfl (lv_at hl 0 rfl) ?_
                    refine mg_mi hC hK hP dX1_miss_221 ?_
                    refine lv_aload_n hx hb dX1_miss_224 rfl (lv_at hl 0 rfl) ?_
                    refine mg_k hC hK hP dX1_miss_225 ?_
                    refine lv_iload_n hx hb dX1_miss_228 rfl (lv_at hl 3 rfl) ?_
                    refine ms_mi hC hK hP hD hS k rfl (by omega) dX1_miss_229 (fun H locs hP hD hS => ?_)
                    refine lv_aload_n hx hb dX1_miss_230 rfl (lv_at hl 0 rfl) ?_
                    refine lv_dup hx hb dX1_miss_231 rfl ?_
                    refine mg_k hC hK hP dX1_miss_232 ?_
                    refine lv_iconst (v := 1) hx hb dX1_miss_235 (by decide) ?_
                    refine lv_iadd hx hb dX1_miss_236 ?_
                    refine mp_k (k' := k + 1) hC hK hP hD hS (nI_1 _) dX1_miss_237 (fun H locs hP hD hS => ?_)
                    refine lv_iload_n hx hb dX1_miss_240 rfl (lv_at hl 3 rfl) ?_
                    have hW9 : (mW z a 0 n w gn (upd lk i (imax 0 ((lk i) - ((60 - y) / 10)))) pu fa he g of (upd mp k (nI i)) (upd mi k (mq_mid of nv y w)) (k + 1) nt fu re : va_W) = mW z a 0 n w gn (upd lk i (imax 0 (lk i - (60 - y) / 10))) (if sp_uses 1 (fa i) (mq_mid of nv y w) = 0 then pu else upd pu i (pu i + sp_coins 1 (fa i) (lk i) fu (mq_mid of nv y w))) (if sp_uses 1 (fa i) (mq_mid of nv y w) = 0 then fa else upd fa i (fa i - 1)) he (mq_fr of (sp_loss y) nv w) of (upd mp k (nI i)) (upd mi k (mq_mid of nv y w)) (k + 1) nt (if sp_uses 1 (fa i) (mq_mid of nv y w) = 0 then fu else fu - sp_coins 1 (fa i) (lk i) fu (mq_mid of nv y w)) (if sp_uses 1 (fa i) (mq_mid of nv y w) = 0 then re else re + sp_coins 1 (fa i) (lk i) fu (mq_mid of nv y w)) := (by rw [hg, show j = w by omega]; simp [sp_uses, sp_coins, mq_rfd, c_66, c_72])
                    rw [hW9] at hP hD
                    exact W.iret (v := mq_mid of nv y w) hx hb hr (fun t ht hW => ⟨⟨mq_mid of nv y w, (), rfl, rfl, by rw [ht]; exact hP, va_K.moved hW.alike hK, hD⟩, hS.F ht⟩) hS.2.2 dX1_miss_241
                  · have nc_168 : j < w := nn_nle (by omega) c_168
                    refine lv_aload_n hx hb dX1_miss_171 rfl (lv_at hl 0 rfl) ?_
                    refine mg_of hC hK hP dX1_miss_172 ?_
                    refine lv_iload hx hb dX1_miss_175 (lv_at hl 4 rfl) ?_
                    refine ml_of hC hK hP j rfl (by omega) dX1_miss_177 ?_
                    refine lv_if_ne (tgt := 204) hx hb dX1_miss_178 (by decide) (fun c_178 => ?_) (fun c_178 => ?_)
                    · refine lv_iinc (v := nI (j + 1)) (lv' := [(4, .int (nI (j + 1))), (0, .ref (a 0)), (1, .int (nI i)), (2, .int y), (3, .int (mq_mid of nv y w))]) hx hb dX1_miss_204 hl (k := 4) rfl (nI_1 _) (by decide) rfl (fun ls hl => ?_)
                      refine lv_goto (tgt := 162) hx hb dX1_miss_207 (by decide) ?_
                      exact ih162 (j + 1) g (by omega) (by omega) (by simp [mq_fr, hg, c_178]) _ _ hP hD hS _ (lv_sub hl [1, 2, 3, 4, 0] rfl)
                    · refine lv_aload_n hx hb dX1_miss_181 rfl (lv_at hl 0 rfl) ?_
                      refine mg_nv hC hK hP dX1_miss_182 ?_
                      refine lv_iload hx hb dX1_miss_185 (lv_at hl 4 rfl) ?_
                      refine lv_iconst (v := 0) hx hb dX1_miss_187 (by decide) ?_
                      refine lv_aload_n hx hb dX1_miss_188 rfl (lv_at hl 0 rfl) ?_
                      refine mg_nv hC hK hP dX1_miss_189 ?_
                      refine lv_iload hx hb dX1_miss_192 (lv_at hl 4 rfl) ?_
                      refine ml_nv hC hK hP j rfl (by omega) dX1_miss_194 ?_
                      refine lv_iload_n hx hb dX1_miss_195 rfl (lv_at hl 2 rfl) ?_
                      refine k_X1_shock hC hl.1 ⟨Nat.le_of_ble_eq_true rfl, Nat.le_of_ble_eq_true rfl⟩ ⟨Nat.zero_le _, Nat.zero_le _⟩ (Nat.le_of_ble_eq_true rfl)   dX1_miss_196 ?_
                      refine lv_isub hx hb dX1_miss_199 ?_
                      refine va_mmax hx hb (hml.trans hl.1.symm) hown (hts _ mM_X1_55) (hts _ mT_max) (hts _ mI_Math) (hts _ mC_max) (Nat.le_of_ble_eq_true rfl) (Nat.le_of_ble_eq_true rfl) (Nat.zero_le _) (Nat.zero_le _) dX1_miss_200 ?_
                      refine ms_nv hC hK hP hD hS j rfl (by omega) dX1_miss_203 (fun H locs hP hD hS => ?_)
                      refine lv_iinc (v := nI (j + 1)) (lv' := [(4, .int (nI (j + 1))), (0, .ref (a 0)), (1, .int (nI i)), (2, .int y), (3, .int (mq_mid of nv y w))]) hx hb dX1_miss_204 hl (k := 4) rfl (nI_1 _) (by decide) rfl (fun ls hl => ?_)
                      refine lv_goto (tgt := 162) hx hb dX1_miss_207 (by decide) ?_
                      exact ih162 (j + 1) (upd g j (imax 0 ((g j) - (sp_loss y)))) (by omega) (by omega) (by simp [mq_fr, hg, c_178]) _ _ hP hD hS _ (lv_sub hl [1, 2, 3, 4, 0] rfl)
              exact loop_162 (w + 1) 0 nv (Nat.zero_le _) (by omega) rfl _ _ hP hD hS _ (lv_sub hl [2, 3, 4, 1, 0] rfl)
            · refine lv_aload_n hx hb dX1_miss_75 rfl (lv_at hl 1 rfl) ?_
              refine mg_fa hC hK hP dX1_miss_76 ?_
              refine lv_iload_n hx hb dX1_miss_79 rfl (lv_at hl 2 rfl) ?_
              refine ml_fa hC hK hP i rfl (by omega) dX1_miss_80 ?_
              refine lv_if_le (tgt := 135) hx hb dX1_miss_81 (by decide) (fun c_81 => ?_) (fun c_81 => ?_)
              · refine lv_aload_n hx hb dX1_miss_135 rfl (lv_at hl 1 rfl) ?_
                refine mg_lk hC hK hP dX1_miss_136 ?_
                refine lv_iload_n hx hb dX1_miss_139 rfl (lv_at hl 2 rfl) ?_
                refine lv_iconst (v := 0) hx hb dX1_miss_140 (by decide) ?_
                refine lv_aload_n hx hb dX1_miss_141 rfl (lv_at hl 1 rfl) ?_
                refine mg_lk hC hK hP dX1_miss_142 ?_
                refine lv_iload_n hx hb dX1_miss_145 rfl (lv_at hl 2 rfl) ?_
                refine ml_lk hC hK hP i rfl (by omega) dX1_miss_146 ?_
                refine lv_bipush (v := 60) hx hb dX1_miss_147 (by decide) ?_
                refine lv_iload_n hx hb dX1_miss_149 rfl (lv_at hl 3 rfl) ?_
                refine lv_isub hx hb dX1_miss_150 ?_
                refine lv_bipush (v := 10) hx hb dX1_miss_151 (by decide) ?_
                refine lv_idiv hx hb dX1_miss_153 (by decide) ?_
                refine lv_isub hx hb dX1_miss_154 ?_
                refine va_mmax hx hb (hml.trans hl.1.symm) hown (hts _ mM_X1_55) (hts _ mT_max) (hts _ mI_Math) (hts _ mC_max) (Nat.le_of_ble_eq_true rfl) (Nat.le_of_ble_eq_true rfl) (Nat.zero_le _) (Nat.zero_le _) dX1_miss_155 ?_
                refine ms_lk hC hK hP hD hS i rfl (by omega) dX1_miss_158 (fun H locs hP hD hS => ?_)
                refine lv_iconst (v := 0) hx hb dX1_miss_159 (by decide) ?_
                refine lv_istore (lv' := [(4, .int 0), (3, .int (mq_mid of nv y w)), (0, .ref (a 0)), (1, .int (nI i)), (2, .int y)]) hx hb dX1_miss_160 hl (by decide) rfl (fun ls hl => ?_)
                have loop_162 : ∀ (f : Nat) (j : Nat) (g : Nat → Int32), j ≤ w → w + 1 ≤ j + f → g = mq_fr of (sp_loss y) nv j → ∀ (H : Heap) (locs : List Loc), va_P D vwCl (mW z a 0 n w gn (upd lk i (imax 0 ((lk i) - ((60 - y) / 10)))) pu fa he g of mp mi k nt fu re) H → va_D A (mW z a 0 n w gn (upd lk i (imax 0 ((lk i) - ((60 - y) / 10)))) pu fa he g of mp mi k nt fu re) → va_S A s.heap H locs → ∀ ls : Array Slot, lv_has ls 5 [(0, .ref (a 0)), (1, .int (nI i)), (2, .int y), (3, .int (mq_mid of nv y w)), (4, .int (nI j))] → W p l e ({ frames := 3, cells := 0, slots := 0, locals := 68 } : Room) s m ([.ref (a 0), .int (nI i), .int y] : List Value).toArray below meth c H locs 0 0 (MQ below (va_Qi (fun (r : Int32) (_ : Unit) => r = mq_mid of nv y w) (fun _ t9 => va_P D vwCl (mW z a 0 n w gn (upd lk i (imax 0 (lk i - (60 - y) / 10))) (if sp_uses 1 (fa i) (mq_mid of nv y w) = 0 then pu else upd pu i (pu i + sp_coins 1 (fa i) (lk i) fu (mq_mid of nv y w))) (if sp_uses 1 (fa i) (mq_mid of nv y w) = 0 then fa else upd fa i (fa i - 1)) he (mq_fr of (sp_loss y) nv w) of (upd mp k (nI i)) (upd mi k (mq_mid of nv y w)) (k + 1) nt (if sp_uses 1 (fa i) (mq_mid of nv y w) = 0 then fu else fu - sp_coins 1 (fa i) (lk i) fu (mq_mid of nv y w)) (if sp_uses 1 (fa i) (mq_mid of nv y w) = 0 then re else re + sp_coins 1 (fa i) (lk i) fu (mq_mid of nv y w))) t9.heap ∧ kK D z t9 ∧ va_D A (mW z a 0 n w gn (upd lk i (imax 0 (lk i - (60 - y) / 10))) (if sp_uses 1 (fa i) (mq_mid of nv y w) = 0 then pu else upd pu i (pu i + sp_coins 1 (fa i) (lk i) fu (mq_mid of nv y w))) (if sp_uses 1 (fa i) (mq_mid of nv y w) = 0 then fa else upd fa i (fa i - 1)) he (mq_fr of (sp_loss y) nv w) of (upd mp k (nI i)) (upd mi k (mq_mid of nv y w)) (k + 1) nt (if sp_uses 1 (fa i) (mq_mid of nv y w) = 0 then fu else fu - sp_coins 1 (fa i) (lk i) fu (mq_mid of nv y w)) (if sp_uses 1 (fa i) (mq_mid of nv y w) = 0 then re else re + sp_coins 1 (fa i) (lk i) fu (mq_mid of nv y w)))) A) ([.ref (a 0), .int (nI i), .int y] : List Value).toArray s 0 0 A) (F0 m 162 ls []) := by
                  intro f
                  induction f with
                  | zero =>
                    intro j g hj hf hg
                    exact absurd hf (by omega)
                  | succ f ih162 =>
                    intro j g hj hf hg H locs hP hD hS ls hl
                    refine lv_iload hx hb dX1_miss_162 (lv_at hl 4 rfl) ?_
                    refine lv_aload_n hx hb dX1_miss_164 rfl (lv_at hl 0 rfl) ?_
                    refine mg_w hC hK hP dX1_miss_165 ?_
                    refine lv_icmp_ge (tgt := 210) hx hb dX1_miss_168 (by decide) (fun c_168 => ?_) (fun c_168 => ?_)
                    · have nc_168 : w ≤ j := nn_le (by omega) c_168
                      refine lv_aload_n hx hb dX1_miss_210 rfl (lv_at hl 0 rfl) ?_
                      refine mg_mp hC hK hP dX1_miss_211 ?_
                      refine lv_aload_n hx hb dX1_miss_214 rfl (lv_at hl 0 rfl) ?_
                      refine mg_k hC hK hP dX1_miss_215 ?_
                      refine lv_iload_n hx hb dX1_miss_218 rfl (lv_at hl 1 rfl) ?_
                      refine ms_mp hC hK hP hD hS k rfl (by omega) dX1_miss_219 (fun H locs hP hD hS => ?_)
                      refine lv_aload_n hx hb dX1_miss_220 rfl (lv_at hl 0 rfl) ?_
                      refine mg_mi hC hK hP dX1_miss_221 ?_
                      refine lv_aload_n hx hb dX1_miss_224 rfl (lv_at hl 0 rfl) ?_
                      refine mg_k hC hK hP dX1_miss_225 ?_
                      refine lv_iload_n hx hb dX1_miss_228 rfl (lv_at hl 3 rfl) ?_
                      refine ms_mi hC hK hP hD hS k rfl (by omega) dX1_miss_229 (fun H locs hP hD hS => ?_)
                      refine lv_aload_n hx hb dX1_miss_230 rfl (lv_at hl 0 rfl) ?_
                      refine lv_dup hx hb dX1_miss_231 rfl ?_
                      refine mg_k hC hK hP dX1_miss_232 ?_
                      refine lv_iconst (v := 1) hx hb dX1_miss_235 (by decide) ?_
                      refine lv_iadd hx hb dX1_miss_236 ?_
                      refine mp_k (k' := k + 1) hC hK hP hD hS (nI_1 _) dX1_miss_237 (fun H locs hP hD hS => ?_)
                      refine lv_iload_n hx hb dX1_miss_240 rfl (lv_at hl 3 rfl) ?_
                      have hW9 : (mW z a 0 n w gn (upd lk i (imax 0 ((lk i) - ((60 - y) / 10)))) pu fa he g of (upd mp k (nI i)) (upd mi k (mq_mid of nv y w)) (k + 1) nt fu re : va_W) = mW z a 0 n w gn (upd lk i (imax 0 (lk i - (60 - y) / 10))) (if sp_uses 1 (fa i) (mq_mid of nv y w) = 0 then pu else upd pu i (pu i + sp_coins 1 (fa i) (lk i) fu (mq_mid of nv y w))) (if sp_uses 1 (fa i) (mq_mid of nv y w) = 0 then fa else upd fa i (fa i - 1)) he (mq_fr of (sp_loss y) nv w) of (upd mp k (nI i)) (upd mi k (mq_mid of nv y w)) (k + 1) nt (if sp_uses 1 (fa i) (mq_mid of nv y w) = 0 then fu else fu - sp_coins 1 (fa i) (lk i) fu (mq_mid of nv y w)) (if sp_uses 1 (fa i) (mq_mid of nv y w) = 0 then re else re + sp_coins 1 (fa i) (lk i) fu (mq_mid of nv y w)) := (by rw [hg, show j = w by omega]; simp [sp_uses, sp_coins, mq_rfd, c_66, c_72, c_81])
                      rw [hW9] at hP hD
                      exact W.iret (v := mq_mid of nv y w) hx hb hr (fun t ht hW => ⟨⟨mq_mid of nv y w, (), rfl, rfl, by rw [ht]; exact hP, va_K.moved hW.alike hK, hD⟩, hS.F ht⟩) hS.2.2 dX1_miss_241
                    · have nc_168 : j < w := nn_nle (by omega) c_168
                      refine lv_aload_n hx hb dX1_miss_171 rfl (lv_at hl 0 rfl) ?_
                      refine mg_of hC hK hP dX1_miss_172 ?_
                      refine lv_iload hx hb dX1_miss_175 (lv_at hl 4 rfl) ?_
                      refine ml_of hC hK hP j rfl (by omega) dX1_miss_177 ?_
                      refine lv_if_ne (tgt := 204) hx hb dX1_miss_178 (by decide) (fun c_178 => ?_) (fun c_178 => ?_)
                      · refine lv_iinc (v := nI (j + 1)) (lv' := [(4, .int (nI (j + 1))), (0, .ref (a 0)), (1, .int (nI i)), (2, .int y), (3, .int (mq_mid of nv y w))]) hx hb dX1_miss_204 hl (k := 4) rfl (nI_1 _) (by decide) rfl (fun ls hl => ?_)
                        refine lv_goto (tgt := 162) hx hb dX1_miss_207 (by decide) ?_
                        exact ih162 (j + 1) g (by omega) (by omega) (by simp [mq_fr, hg, c_178]) _ _ hP hD hS _ (lv_sub hl [1, 2, 3, 4, 0] rfl)
                      · refine lv_aload_n hx hb dX1_miss_181 rfl (lv_at hl 0 rfl) ?_
                        refine mg_nv hC hK hP dX1_miss_182 ?_
                        refine lv_iload hx hb dX1_miss_185 (lv_at hl 4 rfl) ?_
                        refine lv_iconst (v := 0) hx hb dX1_miss_187 (by decide) ?_
                        refine lv_aload_n hx hb dX1_miss_188 rfl (lv_at hl 0 rfl) ?_
                        refine mg_nv hC hK hP dX1_miss_189 ?_
                        refine lv_iload hx hb dX1_miss_192 (lv_at hl 4 rfl) ?_
                        refine ml_nv hC hK hP j rfl (by omega) dX1_miss_194 ?_
                        refine lv_iload_n hx hb dX1_miss_195 rfl (lv_at hl 2 rfl) ?_
                        refine k_X1_shock hC hl.1 ⟨Nat.le_of_ble_eq_true rfl, Nat.le_of_ble_eq_true rfl⟩ ⟨Nat.zero_le _, Nat.zero_le _⟩ (Nat.le_of_ble_eq_true rfl)   dX1_miss_196 ?_
                        refine lv_isub hx hb dX1_miss_199 ?_
                        refine va_mmax hx hb (hml.trans hl.1.symm) hown (hts _ mM_X1_55) (hts _ mT_max) (hts _ mI_Math) (hts _ mC_max) (Nat.le_of_ble_eq_true rfl) (Nat.le_of_ble_eq_true rfl) (Nat.zero_le _) (Nat.zero_le _) dX1_miss_200 ?_
                        refine ms_nv hC hK hP hD hS j rfl (by omega) dX1_miss_203 (fun H locs hP hD hS => ?_)
                        refine lv_iinc (v := nI (j + 1)) (lv' := [(4, .int (nI (j + 1))), (0, .ref (a 0)), (1, .int (nI i)), (2, .int y), (3, .int (mq_mid of nv y w))]) hx hb dX1_miss_204 hl (k := 4) rfl (nI_1 _) (by decide) rfl (fun ls hl => ?_)
                        refine lv_goto (tgt := 162) hx hb dX1_miss_207 (by decide) ?_
                        exact ih162 (j + 1) (upd g j (imax 0 ((g j) - (sp_loss y)))) (by omega) (by omega) (by simp [mq_fr, hg, c_178]) _ _ hP hD hS _ (lv_sub hl [1, 2, 3, 4, 0] rfl)
                exact loop_162 (w + 1) 0 nv (Nat.zero_le _) (by omega) rfl _ _ hP hD hS _ (lv_sub hl [2, 3, 4, 1, 0] rfl)
              · refine lv_aload_n hx hb dX1_miss_84 rfl (lv_at hl 1 rfl) ?_
                refine lv_iload_n hx hb dX1_miss_85 rfl (lv_at hl 2 rfl) ?_
                refine lv_iload_n hx hb dX1_miss_86 rfl (lv_at hl 0 rfl) ?_
                refine k_X1_refund hC hK hP hl.1 ⟨Nat.le_of_ble_eq_true rfl, Nat.le_of_ble_eq_true rfl⟩ ⟨Nat.zero_le _, Nat.zero_le _⟩ (Nat.le_of_ble_eq_true rfl) rfl (by first | assumption | omega) dX1_miss_87 ?_
                refine lv_istore (lv' := [(4, .int (mq_rfd (fa i) (lk i) fu (mq_mid of nv y w))), (3, .int (mq_mid of nv y w)), (0, .ref (a 0)), (1, .int (nI i)), (2, .int y)]) hx hb dX1_miss_90 hl (by decide) rfl (fun ls hl => ?_)
                refine lv_aload_n hx hb dX1_miss_92 rfl (lv_at hl 2 rfl) ?_
                refine mg_fa hC hK hP dX1_miss_93 ?_
                refine lv_iload_n hx hb dX1_miss_96 rfl (lv_at hl 3 rfl) ?_
                refine lv_dup2_11 hx hb dX1_miss_97 rfl rfl ?_
                refine ml_fa hC hK hP i rfl (by omega) dX1_miss_98 ?_
                refine lv_iconst (v := 1) hx hb dX1_miss_99 (by decide) ?_
                refine lv_isub hx hb dX1_miss_100 ?_
                refine ms_fa hC hK hP hD hS i rfl (by omega) dX1_miss_101 (fun H locs hP hD hS => ?_)
                refine lv_aload_n hx hb dX1_miss_102 rfl (lv_at hl 2 rfl) ?_
                refine lv_dup hx hb dX1_miss_103 rfl ?_
                refine mg_fu hC hK hP dX1_miss_104 ?_
                refine lv_iload hx hb dX1_miss_107 (lv_at hl 0 rfl) ?_
                refine lv_isub hx hb dX1_miss_109 ?_
                refine mp_fu hC hK hP hD hS dX1_miss_110 (fun H locs hP hD hS => ?_)
                refine lv_aload_n hx hb dX1_miss_113 rfl (lv_at hl 2 rfl) ?_
                refine mg_pu hC hK hP dX1_miss_114 ?_
                refine lv_iload_n hx hb dX1_miss_117 rfl (lv_at hl 3 rfl) ?_
                refine lv_dup2_11 hx hb dX1_miss_118 rfl rfl ?_
                refine ml_pu hC hK hP i rfl (by omega) dX1_miss_119 ?_
                refine lv_iload hx hb dX1_miss_120 (lv_at hl 0 rfl) ?_
                refine lv_iadd hx hb dX1_miss_122 ?_
                refine ms_pu hC hK hP hD hS i rfl (by omega) dX1_miss_123 (fun H locs hP hD hS => ?_)
                refine lv_aload_n hx hb dX1_miss_124 rfl (lv_at hl 2 rfl) ?_
                refine lv_dup hx hb dX1_miss_125 rfl ?_
                refine mg_re hC hK hP dX1_miss_126 ?_
                refine lv_iload hx hb dX1_miss_129 (lv_at hl 0 rfl) ?_
                refine lv_iadd hx hb dX1_miss_131 ?_
                refine mp_re hC hK hP hD hS dX1_miss_132 (fun H locs hP hD hS => ?_)
                refine lv_aload_n hx hb dX1_miss_135 rfl (lv_at hl 2 rfl) ?_
                refine mg_lk hC hK hP dX1_miss_136 ?_
                refine lv_iload_n hx hb dX1_miss_139 rfl (lv_at hl 3 rfl) ?_
                refine lv_iconst (v := 0) hx hb dX1_miss_140 (by decide) ?_
                refine lv_aload_n hx hb dX1_miss_141 rfl (lv_at hl 2 rfl) ?_
                refine mg_lk hC hK hP dX1_miss_142 ?_
                refine lv_iload_n hx hb dX1_miss_145 rfl (lv_at hl 3 rfl) ?_
                refine ml_lk hC hK hP i rfl (by omega) dX1_miss_146 ?_
                refine lv_bipush (v := 60) hx hb dX1_miss_147 (by decide) ?_
                refine lv_iload_n hx hb dX1_miss_149 rfl (lv_at hl 4 rfl) ?_
                refine lv_isub hx hb dX1_miss_150 ?_
                refine lv_bipush (v := 10) hx hb dX1_miss_151 (by decide) ?_
                refine lv_idiv hx hb dX1_miss_153 (by decide) ?_
                refine lv_isub hx hb dX1_miss_154 ?_
                refine va_mmax hx hb (hml.trans hl.1.symm) hown (hts _ mM_X1_55) (hts _ mT_max) (hts _ mI_Math) (hts _ mC_max) (Nat.le_of_ble_eq_true rfl) (Nat.le_of_ble_eq_true rfl) (Nat.zero_le _) (Nat.zero_le _) dX1_miss_155 ?_
                refine ms_lk hC hK hP hD hS i rfl (by omega) dX1_miss_158 (fun H locs hP hD hS => ?_)
                refine lv_iconst (v := 0) hx hb dX1_miss_159 (by decide) ?_
                refine lv_istore (lv' := [(4, .int 0), (3, .int (mq_mid of nv y w)), (0, .ref (a 0)), (1, .int (nI i)), (2, .int y)]) hx hb dX1_miss_160 hl (by decide) rfl (fun ls hl => ?_)
                have loop_162 : ∀ (f : Nat) (j : Nat) (g : Nat → Int32), j ≤ w → w + 1 ≤ j + f → g = mq_fr of (sp_loss y) nv j → ∀ (H : Heap) (locs : List Loc), va_P D vwCl (mW z a 0 n w gn (upd lk i (imax 0 ((lk i) - ((60 - y) / 10)))) (upd pu i ((pu i) + (mq_rfd (fa i) (lk i) fu (mq_mid of nv y w)))) (upd fa i ((fa i) - 1)) he g of mp mi k nt (fu - (mq_rfd (fa i) (lk i) fu (mq_mid of nv y w))) (re + (mq_rfd (fa i) (lk i) fu (mq_mid of nv y w)))) H → va_D A (mW z a 0 n w gn (upd lk i (imax 0 ((lk i) - ((60 - y) / 10)))) (upd pu i ((pu i) + (mq_rfd (fa i) (lk i) fu (mq_mid of nv y w)))) (upd fa i ((fa i) - 1)) he g of mp mi k nt (fu - (mq_rfd (fa i) (lk i) fu (mq_mid of nv y w))) (re + (mq_rfd (fa i) (lk i) fu (mq_mid of nv y w)))) → va_S A s.heap H locs → ∀ ls : Array Slot, lv_has ls 5 [(0, .ref (a 0)), (1, .int (nI i)), (2, .int y), (3, .int (mq_mid of nv y w)), (4, .int (nI j))] → W p l e ({ frames := 3, cells := 0, slots := 0, locals := 68 } : Room) s m ([.ref (a 0), .int (nI i), .int y] : List Value).toArray below meth c H locs 0 0 (MQ below (va_Qi (fun (r : Int32) (_ : Unit) => r = mq_mid of nv y w) (fun _ t9 => va_P D vwCl (mW z a 0 n w gn (upd lk i (imax 0 (lk i - (60 - y) / 10))) (if sp_uses 1 (fa i) (mq_mid of nv y w) = 0 then pu else upd pu i (pu i + sp_coins 1 (fa i) (lk i) fu (mq_mid of nv y w))) (if sp_uses 1 (fa i) (mq_mid of nv y w) = 0 then fa else upd fa i (fa i - 1)) he (mq_fr of (sp_loss y) nv w) of (upd mp k (nI i)) (upd mi k (mq_mid of nv y w)) (k + 1) nt (if sp_uses 1 (fa i) (mq_mid of nv y w) = 0 then fu else fu - sp_coins 1 (fa i) (lk i) fu (mq_mid of nv y w)) (if sp_uses 1 (fa i) (mq_mid of nv y w) = 0 then re else re + sp_coins 1 (fa i) (lk i) fu (mq_mid of nv y w))) t9.heap ∧ kK D z t9 ∧ va_D A (mW z a 0 n w gn (upd lk i (imax 0 (lk i - (60 - y) / 10))) (if sp_uses 1 (fa i) (mq_mid of nv y w) = 0 then pu else upd pu i (pu i + sp_coins 1 (fa i) (lk i) fu (mq_mid of nv y w))) (if sp_uses 1 (fa i) (mq_mid of nv y w) = 0 then fa else upd fa i (fa i - 1)) he (mq_fr of (sp_loss y) nv w) of (upd mp k (nI i)) (upd mi k (mq_mid of nv y w)) (k + 1) nt (if sp_uses 1 (fa i) (mq_mid of nv y w) = 0 then fu else fu - sp_coins 1 (fa i) (lk i) fu (mq_mid of nv y w)) (if sp_uses 1 (fa i) (mq_mid of nv y w) = 0 then re else re + sp_coins 1 (fa i) (lk i) fu (mq_mid of nv y w)))) A) ([.ref (a 0), .int (nI i), .int y] : List Value).toArray s 0 0 A) (F0 m 162 ls []) := by
                  intro f
                  induction f with
                  | zero =>
                    intro j g hj hf hg
                    exact absurd hf (by omega)
                  | succ f ih162 =>
                    intro j g hj hf hg H locs hP hD hS ls hl
                    refine lv_iload hx hb dX1_miss_162 (lv_at hl 4 rfl) ?_
                    refine lv_aload_n hx hb dX1_miss_164 rfl (lv_at hl 0 rfl) ?_
                    refine mg_w hC hK hP dX1_miss_165 ?_
                    refine lv_icmp_ge (tgt := 210) hx hb dX1_miss_168 (by decide) (fun c_168 => ?_) (fun c_168 => ?_)
                    · have nc_168 : w ≤ j := nn_le (by omega) c_168
                      refine lv_aload_n hx hb dX1_miss_210 rfl (lv_at hl 0 rfl) ?_
                      refine mg_mp hC hK hP dX1_miss_211 ?_
                      refine lv_aload_n hx hb dX1_miss_214 rfl (lv_at hl 0 rfl) ?_
                      refine mg_k hC hK hP dX1_miss_215 ?_
                      refine lv_iload_n hx hb dX1_miss_218 rfl (lv_at hl 1 rfl) ?_
                      refine ms_mp hC hK hP hD hS k rfl (by omega) dX1_miss_219 (fun H locs hP hD hS => ?_)
                      refine lv_aload_n hx hb dX1_miss_220 rfl (lv_at hl 0 rfl) ?_
                      refine mg_mi hC hK hP dX1_miss_221 ?_
                      refine lv_aload_n hx hb dX1_miss_224 rfl (lv_at hl 0 rfl) ?_
                      refine mg_k hC hK hP dX1_miss_225 ?_
                      refine lv_iload_n hx hb dX1_miss_228 rfl (lv_at hl 3 rfl) ?_
                      refine ms_mi hC hK hP hD hS k rfl (by omega) dX1_miss_229 (fun H locs hP hD hS => ?_)
                      refine lv_aload_n hx hb dX1_miss_230 rfl (lv_at hl 0 rfl) ?_
                      refine lv_dup hx hb dX1_miss_231 rfl ?_
                      refine mg_k hC hK hP dX1_miss_232 ?_
                      refine lv_iconst (v := 1) hx hb dX1_miss_235 (by decide) ?_
                      refine lv_iadd hx hb dX1_miss_236 ?_
                      refine mp_k (k' := k + 1) hC hK hP hD hS (nI_1 _) dX1_miss_237 (fun H locs hP hD hS => ?_)
                      refine lv_iload_n hx hb dX1_miss_240 rfl (lv_at hl 3 rfl) ?_
                      have hW9 : (mW z a 0 n w gn (upd lk i (imax 0 ((lk i) - ((60 - y) / 10)))) (upd pu i ((pu i) + (mq_rfd (fa i) (lk i) fu (mq_mid of nv y w)))) (upd fa i ((fa i) - 1)) he g of (upd mp k (nI i)) (upd mi k (mq_mid of nv y w)) (k + 1) nt (fu - (mq_rfd (fa i) (lk i) fu (mq_mid of nv y w))) (re + (mq_rfd (fa i) (lk i) fu (mq_mid of nv y w))) : va_W) = mW z a 0 n w gn (upd lk i (imax 0 (lk i - (60 - y) / 10))) (if sp_uses 1 (fa i) (mq_mid of nv y w) = 0 then pu else upd pu i (pu i + sp_coins 1 (fa i) (lk i) fu (mq_mid of nv y w))) (if sp_uses 1 (fa i) (mq_mid of nv y w) = 0 then fa else upd fa i (fa i - 1)) he (mq_fr of (sp_loss y) nv w) of (upd mp k (nI i)) (upd mi k (mq_mid of nv y w)) (k + 1) nt (if sp_uses 1 (fa i) (mq_mid of nv y w) = 0 then fu else fu - sp_coins 1 (fa i) (lk i) fu (mq_mid of nv y w)) (if sp_uses 1 (fa i) (mq_mid of nv y w) = 0 then re else re + sp_coins 1 (fa i) (lk i) fu (mq_mid of nv y w)) := (by rw [hg, show j = w by omega]; simp [sp_uses, sp_coins, mq_rfd, c_66, c_72, c_81, nle_ne c_66, nle_ne c_81])
                      rw [hW9] at hP hD
                      exact W.iret (v := mq_mid of nv y w) hx hb hr (fun t ht hW => ⟨⟨mq_mid of nv y w, (), rfl, rfl, by rw [ht]; exact hP, va_K.moved hW.alike hK, hD⟩, hS.F ht⟩) hS.2.2 dX1_miss_241
                    · have nc_168 : j < w := nn_nle (by omega) c_168
                      refine lv_aload_n hx hb dX1_miss_171 rfl (lv_at hl 0 rfl) ?_
                      refine mg_of hC hK hP dX1_miss_172 ?_
                      refine lv_iload hx hb dX1_miss_175 (lv_at hl 4 rfl) ?_
                      refine ml_of hC hK hP j rfl (by omega) dX1_miss_177 ?_
                      refine lv_if_ne (tgt := 204) hx hb dX1_miss_178 (by decide) (fun c_178 => ?_) (fun c_178 => ?_)
                      · refine lv_iinc (v := nI (j + 1)) (lv' := [(4, .int (nI (j + 1))), (0, .ref (a 0)), (1, .int (nI i)), (2, .int y), (3, .int (mq_mid of nv y w))]) hx hb dX1_miss_204 hl (k := 4) rfl (nI_1 _) (by decide) rfl (fun ls hl => ?_)
                        refine lv_goto (tgt := 162) hx hb dX1_miss_207 (by decide) ?_
                        exact ih162 (j + 1) g (by omega) (by omega) (by simp [mq_fr, hg, c_178]) _ _ hP hD hS _ (lv_sub hl [1, 2, 3, 4, 0] rfl)
                      · refine lv_aload_n hx hb dX1_miss_181 rfl (lv_at hl 0 rfl) ?_
                        refine mg_nv hC hK hP dX1_miss_182 ?_
                        refine lv_iload hx hb dX1_miss_185 (lv_at hl 4 rfl) ?_
                        refine lv_iconst (v := 0) hx hb dX1_miss_187 (by decide) ?_
                        refine lv_aload_n hx hb dX1_miss_188 rfl (lv_at hl 0 rfl) ?_
                        refine mg_nv hC hK hP dX1_miss_189 ?_
                        refine lv_iload hx hb dX1_miss_192 (lv_at hl 4 rfl) ?_
                        refine ml_nv hC hK hP j rfl (by omega) dX1_miss_194 ?_
                        refine lv_iload_n hx hb dX1_miss_195 rfl (lv_at hl 2 rfl) ?_
                        refine k_X1_shock hC hl.1 ⟨Nat.le_of_ble_eq_true rfl, Nat.le_of_ble_eq_true rfl⟩ ⟨Nat.zero_le _, Nat.zero_le _⟩ (Nat.le_of_ble_eq_true rfl)   dX1_miss_196 ?_
                        refine lv_isub hx hb dX1_miss_199 ?_
                        refine va_mmax hx hb (hml.trans hl.1.symm) hown (hts _ mM_X1_55) (hts _ mT_max) (hts _ mI_Math) (hts _ mC_max) (Nat.le_of_ble_eq_true rfl) (Nat.le_of_ble_eq_true rfl) (Nat.zero_le _) (Nat.zero_le _) dX1_miss_200 ?_
                        refine ms_nv hC hK hP hD hS j rfl (by omega) dX1_miss_203 (fun H locs hP hD hS => ?_)
                        refine lv_iinc (v := nI (j + 1)) (lv' := [(4, .int (nI (j + 1))), (0, .ref (a 0)), (1, .int (nI i)), (2, .int y), (3, .int (mq_mid of nv y w))]) hx hb dX1_miss_204 hl (k := 4) rfl (nI_1 _) (by decide) rfl (fun ls hl => ?_)
                        refine lv_goto (tgt := 162) hx hb dX1_miss_207 (by decide) ?_
                        exact ih162 (j + 1) (upd g j (imax 0 ((g j) - (sp_loss y)))) (by omega) (by omega) (by simp [mq_fr, hg, c_178]) _ _ hP hD hS _ (lv_sub hl [1, 2, 3, 4, 0] rfl)
                exact loop_162 (w + 1) 0 nv (Nat.zero_le _) (by omega) rfl _ _ hP hD hS _ (lv_sub hl [2, 3, 4, 1, 0] rfl)
        · exact absurd (show k = 60 from nn_eq (b := 60) (by omega) c_50) (by omega)
    · exact absurd c_26 (in_1 h1 h2)
  · exact absurd c_10 (by rw [isP_in (by omega) hi]; decide)
set_option maxHeartbeats 4000000 in
set_option maxRecDepth 100000 in
theorem c_X1_miss_a (l : Launch) (sz : Nat) {D : va_G} {z : ClassId × ClassId} {a : Nat → Nat} {th : Int32} {n w : Nat} {gn lk pu fa he nv of mp mi : Nat → Int32} {k : Nat} {nt fu re : Int32} (x y : Int32) (hn : n ≤ 10) (hbad : sp_isP n x = 0) : Met l yX1_miss (ws_ yX1_miss cX1_miss 5 (some .int)) ({ frames := 2, cells := 0, slots := 0, locals := 43 } : Room) (va_Pc [.ref (a 0), .int x, .int y] (fun U => U.heap.size = sz ∧ mI D z a th n w gn lk pu fa he nv of mp mi k nt fu re U ∧ va_D (fun _ => True) (mW z a th n w gn lk pu fa he nv of mp mi k nt fu re))) (va_Qi (fun (r : Int32) (_ : Unit) => r = 0) (fun _ t9 => va_P D vwCl (mW z a 1 n w gn lk pu fa he nv of mp mi k nt fu re) t9.heap ∧ kK D z t9 ∧ va_D (va_A (mW z a th n w gn lk pu fa he nv of mp mi k nt fu re) sz) (mW z a 1 n w gn lk pu fa he nv of mp mi k nt fu re)) (va_A (mW z a th n w gn lk pu fa he nv of mp mi k nt fu re) sz)) 0 0 (va_A (mW z a th n w gn lk pu fa he nv of mp mi k nt fu re) sz) := by
  refine Met.ofW (cc := cX1_miss) (maxL := 5) (ret := (some .int)) (by decide) rfl ?_
  intro p e s m args below meth c s₁ B hml hv
  obtain ⟨rfl, hsz, ⟨hP, hK⟩, hD0⟩ := hv
  have hx := B.exec
  have hb := B.bytes
  have hr := B.returns
  have hts := atoms_spec (ws := ws_ yX1_miss cX1_miss 5 (some .int)) B.pre
  have hts : ∀ w ∈ lw_all, w.before _ s = true := fun w h => hts w (List.mem_cons_of_mem _ h)
  have hown : s.vm.findClass RX1 = some m.cls := findClass_of_methodNamed B.named
  have hlocks := B.notSynchronized
  have hC : CallFix p m c cX1_miss 5 s _ lw_all RX1 := ⟨hx, hb, hml, hown, hts⟩
  subst hsz
  have hD := hD0.self (sz := s.heap.size)
  generalize hAe : va_A (mW z a th n w gn lk pu fa he nv of mp mi k nt fu re) s.heap.size = A at hD ⊢
  have hA : ∀ q : Nat, s.heap.size ≤ q → A q := fun q h => by rw [← hAe]; exact Or.inr h
  have hS : va_S A s.heap s.heap [] := va_S.rf
  have hl := lv_entry ([.ref (a 0), .int x, .int y]) (n := 5) (Nat.le_of_ble_eq_true rfl)
  rw [lg_entry_eq]
  generalize (lg_sl ([.ref (a 0), .int x, .int y]) ++ List.replicate (5 - (lg_sl ([.ref (a 0), .int x, .int y])).length) Slot.unset).toArray = ls at hl ⊢
  have hl : lv_has ls 5 [(0, .ref (a 0)), (1, .int x), (2, .int y)] := hl
  refine lv_aload_n hx hb dX1_miss_0 rfl (lv_at hl 0 rfl) ?_
  refine lv_iconst (v := 0) hx hb dX1_miss_1 (by decide) ?_
  refine mp_th hC hK hP hD hS dX1_miss_2 (fun H locs hP hD hS => ?_)
  refine lv_aload_n hx hb dX1_miss_5 rfl (lv_at hl 0 rfl) ?_
  refine lv_iload_n hx hb dX1_miss_6 rfl (lv_at hl 1 rfl) ?_
  refine k_X1_isPerson hC hK hP hl.1 ⟨Nat.le_of_ble_eq_true rfl, Nat.le_of_ble_eq_true rfl⟩ ⟨Nat.zero_le _, Nat.zero_le _⟩ (Nat.le_of_ble_eq_true rfl)  (by first | assumption | omega) dX1_miss_7 ?_
  refine lv_if_ne (tgt := 19) hx hb dX1_miss_10 (by decide) (fun c_10 => ?_) (fun c_10 => ?_)
  · exact absurd hbad c_10
  · refine lv_aload_n hx hb dX1_miss_13 rfl (lv_at hl 0 rfl) ?_
    refine lv_iconst (v := 1) hx hb dX1_miss_14 (by decide) ?_
    refine k_X1_fail hC hK hP hD hS hA hl.1 ⟨Nat.le_of_ble_eq_true rfl, Nat.le_of_ble_eq_true rfl⟩ ⟨Nat.zero_le _, Nat.zero_le _⟩ (Nat.le_of_ble_eq_true rfl)   dX1_miss_15 (fun H locs hP hD hS => ?_)
    exact W.iret (v := 0) hx hb hr (fun t ht hW => ⟨⟨0, (), rfl, rfl, by rw [ht]; exact hP, va_K.moved hW.alike hK, hD⟩, hS.F ht⟩) hS.2.2 dX1_miss_18
set_option maxHeartbeats 4000000 in
set_option maxRecDepth 100000 in
theorem c_X1_miss_b (l : Launch) (sz : Nat) {D : va_G} {z : ClassId × ClassId} {a : Nat → Nat} {th : Int32} {n w : Nat} {gn lk pu fa he nv of mp mi : Nat → Int32} {k : Nat} {nt fu re : Int32} (i : Nat) (hi : i < n) (hn : n ≤ 10) (y : Int32) (hbad : y < 1 ∨ ¬ y ≤ 60) : Met l yX1_miss (ws_ yX1_miss cX1_miss 5 (some .int)) ({ frames := 2, cells := 0, slots := 0, locals := 43 } : Room) (va_Pc [.ref (a 0), .int (nI i), .int y] (fun U => U.heap.size = sz ∧ mI D z a th n w gn lk pu fa he nv of mp mi k nt fu re U ∧ va_D (fun _ => True) (mW z a th n w gn lk pu fa he nv of mp mi k nt fu re))) (va_Qi (fun (r : Int32) (_ : Unit) => r = 0) (fun _ t9 => va_P D vwCl (mW z a 2 n w gn lk pu fa he nv of mp mi k nt fu re) t9.heap ∧ kK D z t9 ∧ va_D (va_A (mW z a th n w gn lk pu fa he nv of mp mi k nt fu re) sz) (mW z a 2 n w gn lk pu fa he nv of mp mi k nt fu re)) (va_A (mW z a th n w gn lk pu fa he nv of mp mi k nt fu re) sz)) 0 0 (va_A (mW z a th n w gn lk pu fa he nv of mp mi k nt fu re) sz) := by
  refine Met.ofW (cc := cX1_miss) (maxL := 5) (ret := (some .int)) (by decide) rfl ?_
  intro p e s m args below meth c s₁ B hml hv
  obtain ⟨rfl, hsz, ⟨hP, hK⟩, hD0⟩ := hv
  have hx := B.exec
  have hb := B.bytes
  have hr := B.returns
  have hts := atoms_spec (ws := ws_ yX1_miss cX1_miss 5 (some .int)) B.pre
  have hts : ∀ w ∈ lw_all, w.before _ s = true := fun w h => hts w (List.mem_cons_of_mem _ h)
  have hown : s.vm.findClass RX1 = some m.cls := findClass_of_methodNamed B.named
  have hlocks := B.notSynchronized
  have hC : CallFix p m c cX1_miss 5 s _ lw_all RX1 := ⟨hx, hb, hml, hown, hts⟩
  subst hsz
  have hD := hD0.self (sz := s.heap.size)
  generalize hAe : va_A (mW z a th n w gn lk pu fa he nv of mp mi k nt fu re) s.heap.size = A at hD ⊢
  have hA : ∀ q : Nat, s.heap.size ≤ q → A q := fun q h => by rw [← hAe]; exact Or.inr h
  have hS : va_S A s.heap s.heap [] := va_S.rf
  have hl := lv_entry ([.ref (a 0), .int (nI i), .int y]) (n := 5) (Nat.le_of_ble_eq_true rfl)
  rw [lg_entry_eq]
  generalize (lg_sl ([.ref (a 0), .int (nI i), .int y]) ++ List.replicate (5 - (lg_sl ([.ref (a 0), .int (nI i), .int y])).length) Slot.unset).toArray = ls at hl ⊢
  have hl : lv_has ls 5 [(0, .ref (a 0)), (1, .int (nI i)), (2, .int y)] := hl
  refine lv_aload_n hx hb dX1_miss_0 rfl (lv_at hl 0 rfl) ?_
  refine lv_iconst (v := 0) hx hb dX1_miss_1 (by decide) ?_
  refine mp_th hC hK hP hD hS dX1_miss_2 (fun H locs hP hD hS => ?_)
  refine lv_aload_n hx hb dX1_miss_5 rfl (lv_at hl 0 rfl) ?_
  refine lv_iload_n hx hb dX1_miss_6 rfl (lv_at hl 1 rfl) ?_
  refine k_X1_isPerson hC hK hP hl.1 ⟨Nat.le_of_ble_eq_true rfl, Nat.le_of_ble_eq_true rfl⟩ ⟨Nat.zero_le _, Nat.zero_le _⟩ (Nat.le_of_ble_eq_true rfl)  (by first | assumption | omega) dX1_miss_7 ?_
  refine lv_if_ne (tgt := 19) hx hb dX1_miss_10 (by decide) (fun c_10 => ?_) (fun c_10 => ?_)
  · refine lv_iload_n hx hb dX1_miss_19 rfl (lv_at hl 2 rfl) ?_
    refine lv_iconst (v := 1) hx hb dX1_miss_20 (by decide) ?_
    refine lv_bipush (v := 60) hx hb dX1_miss_21 (by decide) ?_
    refine k_X1_isIn hC hl.1 ⟨Nat.le_of_ble_eq_true rfl, Nat.le_of_ble_eq_true rfl⟩ ⟨Nat.zero_le _, Nat.zero_le _⟩ (Nat.le_of_ble_eq_true rfl)   dX1_miss_23 ?_
    refine lv_if_ne (tgt := 35) hx hb dX1_miss_26 (by decide) (fun c_26 => ?_) (fun c_26 => ?_)
    · exact absurd (in_0 hbad) c_26
    · refine lv_aload_n hx hb dX1_miss_29 rfl (lv_at hl 0 rfl) ?_
      refine lv_iconst (v := 2) hx hb dX1_miss_30 (by decide) ?_
      refine k_X1_fail hC hK hP hD hS hA hl.1 ⟨Nat.le_of_ble_eq_true rfl, Nat.le_of_ble_eq_true rfl⟩ ⟨Nat.zero_le _, Nat.zero_le _⟩ (Nat.le_of_ble_eq_true rfl)   dX1_miss_31 (fun H locs hP hD hS => ?_)
      exact W.iret (v := 0) hx hb hr (fun t ht hW => ⟨⟨0, (), rfl, rfl, by rw [ht]; exact hP, va_K.moved hW.alike hK, hD⟩, hS.F ht⟩) hS.2.2 dX1_miss_34
  · exact absurd c_10 (by rw [isP_in (by omega) hi]; decide)
set_option maxHeartbeats 4000000 in
set_option maxRecDepth 100000 in
theorem c_X1_miss_c (l : Launch) (sz : Nat) {D : va_G} {z : ClassId × ClassId} {a : Nat → Nat} {th : Int32} {n w : Nat} {gn lk pu fa he nv of mp mi : Nat → Int32} {k : Nat} {nt fu re : Int32} (i : Nat) (hi : i < n) (hn : n ≤ 10) (y : Int32) (h1 : ¬ y < 1) (h2 : y ≤ 60) (ha : ¬ gn i = 0) : Met l yX1_miss (ws_ yX1_miss cX1_miss 5 (some .int)) ({ frames := 2, cells := 0, slots := 0, locals := 43 } : Room) (va_Pc [.ref (a 0), .int (nI i), .int y] (fun U => U.heap.size = sz ∧ mI D z a th n w gn lk pu fa he nv of mp mi k nt fu re U ∧ va_D (fun _ => True) (mW z a th n w gn lk pu fa he nv of mp mi k nt fu re))) (va_Qi (fun (r : Int32) (_ : Unit) => r = 0) (fun _ t9 => va_P D vwCl (mW z a 3 n w gn lk pu fa he nv of mp mi k nt fu re) t9.heap ∧ kK D z t9 ∧ va_D (va_A (mW z a th n w gn lk pu fa he nv of mp mi k nt fu re) sz) (mW z a 3 n w gn lk pu fa he nv of mp mi k nt fu re)) (va_A (mW z a th n w gn lk pu fa he nv of mp mi k nt fu re) sz)) 0 0 (va_A (mW z a th n w gn lk pu fa he nv of mp mi k nt fu re) sz) := by
  refine Met.ofW (cc := cX1_miss) (maxL := 5) (ret := (some .int)) (by decide) rfl ?_
  intro p e s m args below meth c s₁ B hml hv
  obtain ⟨rfl, hsz, ⟨hP, hK⟩, hD0⟩ := hv
  have hx := B.exec
  have hb := B.bytes
  have hr := B.returns
  have hts := atoms_spec (ws := ws_ yX1_miss cX1_miss 5 (some .int)) B.pre
  have hts : ∀ w ∈ lw_all, w.before _ s = true := fun w h => hts w (List.mem_cons_of_mem _ h)
  have hown : s.vm.findClass RX1 = some m.cls := findClass_of_methodNamed B.named
  have hlocks := B.notSynchronized
  have hC : CallFix p m c cX1_miss 5 s _ lw_all RX1 := ⟨hx, hb, hml, hown, hts⟩
  subst hsz
  have hD := hD0.self (sz := s.heap.size)
  generalize hAe : va_A (mW z a th n w gn lk pu fa he nv of mp mi k nt fu re) s.heap.size = A at hD ⊢
  have hA : ∀ q : Nat, s.heap.size ≤ q → A q := fun q h => by rw [← hAe]; exact Or.inr h
  have hS : va_S A s.heap s.heap [] := va_S.rf
  have hl := lv_entry ([.ref (a 0), .int (nI i), .int y]) (n := 5) (Nat.le_of_ble_eq_true rfl)
  rw [lg_entry_eq]
  generalize (lg_sl ([.ref (a 0), .int (nI i), .int y]) ++ List.replicate (5 - (lg_sl ([.ref (a 0), .int (nI i), .int y])).length) Slot.unset).toArray = ls at hl ⊢
  have hl : lv_has ls 5 [(0, .ref (a 0)), (1, .int (nI i)), (2, .int y)] := hl
  refine lv_aload_n hx hb dX1_miss_0 rfl (lv_at hl 0 rfl) ?_
  refine lv_iconst (v := 0) hx hb dX1_miss_1 (by decide) ?_
  refine mp_th hC hK hP hD hS dX1_miss_2 (fun H locs hP hD hS => ?_)
  refine lv_aload_n hx hb dX1_miss_5 rfl (lv_at hl 0 rfl) ?_
  refine lv_iload_n hx hb dX1_miss_6 rfl (lv_at hl 1 rfl) ?_
  refine k_X1_isPerson hC hK hP hl.1 ⟨Nat.le_of_ble_eq_true rfl, Nat.le_of_ble_eq_true rfl⟩ ⟨Nat.zero_le _, Nat.zero_le _⟩ (Nat.le_of_ble_eq_true rfl)  (by first | assumption | omega) dX1_miss_7 ?_
  refine lv_if_ne (tgt := 19) hx hb dX1_miss_10 (by decide) (fun c_10 => ?_) (fun c_10 => ?_)
  · refine lv_iload_n hx hb dX1_miss_19 rfl (lv_at hl 2 rfl) ?_
    refine lv_iconst (v := 1) hx hb dX1_miss_20 (by decide) ?_
    refine lv_bipush (v := 60) hx hb dX1_miss_21 (by decide) ?_
    refine k_X1_isIn hC hl.1 ⟨Nat.le_of_ble_eq_true rfl, Nat.le_of_ble_eq_true rfl⟩ ⟨Nat.zero_le _, Nat.zero_le _⟩ (Nat.le_of_ble_eq_true rfl)   dX1_miss_23 ?_
    refine lv_if_ne (tgt := 35) hx hb dX1_miss_26 (by decide) (fun c_26 => ?_) (fun c_26 => ?_)
    · refine lv_aload_n hx hb dX1_miss_35 rfl (lv_at hl 0 rfl) ?_
      refine mg_gn hC hK hP dX1_miss_36 ?_
      refine lv_iload_n hx hb dX1_miss_39 rfl (lv_at hl 1 rfl) ?_
      refine ml_gn hC hK hP i rfl (by omega) dX1_miss_40 ?_
      refine lv_if_ne (tgt := 53) hx hb dX1_miss_41 (by decide) (fun c_41 => ?_) (fun c_41 => ?_)
      · refine lv_aload_n hx hb dX1_miss_53 rfl (lv_at hl 0 rfl) ?_
        refine lv_iconst (v := 3) hx hb dX1_miss_54 (by decide) ?_
        refine k_X1_fail hC hK hP hD hS hA hl.1 ⟨Nat.le_of_ble_eq_true rfl, Nat.le_of_ble_eq_true rfl⟩ ⟨Nat.zero_le _, Nat.zero_le _⟩ (Nat.le_of_ble_eq_true rfl)   dX1_miss_55 (fun H locs hP hD hS => ?_)
        exact W.iret (v := 0) hx hb hr (fun t ht hW => ⟨⟨0, (), rfl, rfl, by rw [ht]; exact hP, va_K.moved hW.alike hK, hD⟩, hS.F ht⟩) hS.2.2 dX1_miss_58
      · exact absurd c_41 ha
    · exact absurd c_26 (in_1 h1 h2)
  · exact absurd c_10 (by rw [isP_in (by omega) hi]; decide)
set_option maxHeartbeats 4000000 in
set_option maxRecDepth 100000 in
theorem c_X1_miss_d (l : Launch) (sz : Nat) {D : va_G} {z : ClassId × ClassId} {a : Nat → Nat} {th : Int32} {n w : Nat} {gn lk pu fa he nv of mp mi : Nat → Int32} {k : Nat} {nt fu re : Int32} (i : Nat) (hi : i < n) (hn : n ≤ 10) (y : Int32) (h1 : ¬ y < 1) (h2 : y ≤ 60) (ha : gn i = 0) (hk : k = 60) : Met l yX1_miss (ws_ yX1_miss cX1_miss 5 (some .int)) ({ frames := 2, cells := 0, slots := 0, locals := 43 } : Room) (va_Pc [.ref (a 0), .int (nI i), .int y] (fun U => U.heap.size = sz ∧ mI D z a th n w gn lk pu fa he nv of mp mi k nt fu re U ∧ va_D (fun _ => True) (mW z a th n w gn lk pu fa he nv of mp mi k nt fu re))) (va_Qi (fun (r : Int32) (_ : Unit) => r = 0) (fun _ t9 => va_P D vwCl (mW z a 3 n w gn lk pu fa he nv of mp mi k nt fu re) t9.heap ∧ kK D z t9 ∧ va_D (va_A (mW z a th n w gn lk pu fa he nv of mp mi k nt fu re) sz) (mW z a 3 n w gn lk pu fa he nv of mp mi k nt fu re)) (va_A (mW z a th n w gn lk pu fa he nv of mp mi k nt fu re) sz)) 0 0 (va_A (mW z a th n w gn lk pu fa he nv of mp mi k nt fu re) sz) := by
  refine Met.ofW (cc := cX1_miss) (maxL := 5) (ret := (some .int)) (by decide) rfl ?_
  intro p e s m args below meth c s₁ B hml hv
  obtain ⟨rfl, hsz, ⟨hP, hK⟩, hD0⟩ := hv
  have hx := B.exec
  have hb := B.bytes
  have hr := B.returns
  have hts := atoms_spec (ws := ws_ yX1_miss cX1_miss 5 (some .int)) B.pre
  have hts : ∀ w ∈ lw_all, w.before _ s = true := fun w h => hts w (List.mem_cons_of_mem _ h)
  have hown : s.vm.findClass RX1 = some m.cls := findClass_of_methodNamed B.named
  have hlocks := B.notSynchronized
  have hC : CallFix p m c cX1_miss 5 s _ lw_all RX1 := ⟨hx, hb, hml, hown, hts⟩
  subst hsz
  have hD := hD0.self (sz := s.heap.size)
  generalize hAe : va_A (mW z a th n w gn lk pu fa he nv of mp mi k nt fu re) s.heap.size = A at hD ⊢
  have hA : ∀ q : Nat, s.heap.size ≤ q → A q := fun q h => by rw [← hAe]; exact Or.inr h
  have hS : va_S A s.heap s.heap [] := va_S.rf
  have hl := lv_entry ([.ref (a 0), .int (nI i), .int y]) (n := 5) (Nat.le_of_ble_eq_true rfl)
  rw [lg_entry_eq]
  generalize (lg_sl ([.ref (a 0), .int (nI i), .int y]) ++ List.replicate (5 - (lg_sl ([.ref (a 0), .int (nI i), .int y])).length) Slot.unset).toArray = ls at hl ⊢
  have hl : lv_has ls 5 [(0, .ref (a 0)), (1, .int (nI i)), (2, .int y)] := hl
  refine lv_aload_n hx hb dX1_miss_0 rfl (lv_at hl 0 rfl) ?_
  refine lv_iconst (v := 0) hx hb dX1_miss_1 (by decide) ?_
  refine mp_th hC hK hP hD hS dX1_miss_2 (fun H locs hP hD hS => ?_)
  refine lv_aload_n hx hb dX1_miss_5 rfl (lv_at hl 0 rfl) ?_
  refine lv_iload_n hx hb dX1_miss_6 rfl (lv_at hl 1 rfl) ?_
  refine k_X1_isPerson hC hK hP hl.1 ⟨Nat.le_of_ble_eq_true rfl, Nat.le_of_ble_eq_true rfl⟩ ⟨Nat.zero_le _, Nat.zero_le _⟩ (Nat.le_of_ble_eq_true rfl)  (by first | assumption | omega) dX1_miss_7 ?_
  refine lv_if_ne (tgt := 19) hx hb dX1_miss_10 (by decide) (fun c_10 => ?_) (fun c_10 => ?_)
  · refine lv_iload_n hx hb dX1_miss_19 rfl (lv_at hl 2 rfl) ?_
    refine lv_iconst (v := 1) hx hb dX1_miss_20 (by decide) ?_
    refine lv_bipush (v := 60) hx hb dX1_miss_21 (by decide) ?_
    refine k_X1_isIn hC hl.1 ⟨Nat.le_of_ble_eq_true rfl, Nat.le_of_ble_eq_true rfl⟩ ⟨Nat.zero_le _, Nat.zero_le _⟩ (Nat.le_of_ble_eq_true rfl)   dX1_miss_23 ?_
    refine lv_if_ne (tgt := 35) hx hb dX1_miss_26 (by decide) (fun c_26 => ?_) (fun c_26 => ?_)
    · refine lv_aload_n hx hb dX1_miss_35 rfl (lv_at hl 0 rfl) ?_
      refine mg_gn hC hK hP dX1_miss_36 ?_
      refine lv_iload_n hx hb dX1_miss_39 rfl (lv_at hl 1 rfl) ?_
      refine ml_gn hC hK hP i rfl (by omega) dX1_miss_40 ?_
      refine lv_if_ne (tgt := 53) hx hb dX1_miss_41 (by decide) (fun c_41 => ?_) (fun c_41 => ?_)
      · exact absurd ha c_41
      · refine lv_aload_n hx hb dX1_miss_44 rfl (lv_at hl 0 rfl) ?_
        refine mg_k hC hK hP dX1_miss_45 ?_
        refine lv_bipush (v := 60) hx hb dX1_miss_48 (by decide) ?_
        refine lv_icmp_ne (tgt := 59) hx hb dX1_miss_50 (by decide) (fun c_50 => ?_) (fun c_50 => ?_)
        · exact absurd (show nI k = 60 by rw [hk]; rfl) c_50
        · refine lv_aload_n hx hb dX1_miss_53 rfl (lv_at hl 0 rfl) ?_
          refine lv_iconst (v := 3) hx hb dX1_miss_54 (by decide) ?_
          refine k_X1_fail hC hK hP hD hS hA hl.1 ⟨Nat.le_of_ble_eq_true rfl, Nat.le_of_ble_eq_true rfl⟩ ⟨Nat.zero_le _, Nat.zero_le _⟩ (Nat.le_of_ble_eq_true rfl)   dX1_miss_55 (fun H locs hP hD hS => ?_)
          exact W.iret (v := 0) hx hb hr (fun t ht hW => ⟨⟨0, (), rfl, rfl, by rw [ht]; exact hP, va_K.moved hW.alike hK, hD⟩, hS.F ht⟩) hS.2.2 dX1_miss_58
    · exact absurd c_26 (in_1 h1 h2)
  · exact absurd c_10 (by rw [isP_in (by omega) hi]; decide)
set_option maxHeartbeats 4000000 in
set_option maxRecDepth 100000 in
theorem c_X1_hit (l : Launch) (sz : Nat) {D : va_G} {z : ClassId × ClassId} {a : Nat → Nat} {th : Int32} {n w : Nat} {gn lk pu fa he nv of mp mi : Nat → Int32} {k : Nat} {nt fu re : Int32} (i : Nat) (hi : i < n) (hn : n ≤ 10) (ha : gn i = 0) (hH : hR he n) : Met l yX1_hit (ws_ yX1_hit cX1_hit 3 (some .int)) ({ frames := 2, cells := 0, slots := 0, locals := 43 } : Room) (va_Pc [.ref (a 0), .int (nI i)] (fun U => U.heap.size = sz ∧ mI D z a th n w gn lk pu fa he nv of mp mi k nt fu re U ∧ va_D (fun _ => True) (mW z a th n w gn lk pu fa he nv of mp mi k nt fu re))) (va_Qi (fun (r : Int32) (_ : Unit) => r = mq_last he gn i (n + 1) i) (fun _ t9 => va_P D vwCl (mW z a 0 n w (upd gn i 1) (if mq_last he gn i (n + 1) i = -1 then lk else upd lk (mq_last he gn i (n + 1) i).toNatClampNeg (imin 99 (lk (mq_last he gn i (n + 1) i).toNatClampNeg + lk i / 2))) (upd (if mq_last he gn i (n + 1) i = -1 then pu else upd pu (mq_last he gn i (n + 1) i).toNatClampNeg (pu (mq_last he gn i (n + 1) i).toNatClampNeg + pu i)) i 0) (upd fa i 0) he nv of mp mi k nt (if mq_last he gn i (n + 1) i = -1 then fu + pu i else fu) re) t9.heap ∧ kK D z t9 ∧ va_D (va_A (mW z a th n w gn lk pu fa he nv of mp mi k nt fu re) sz) (mW z a 0 n w (upd gn i 1) (if mq_last he gn i (n + 1) i = -1 then lk else upd lk (mq_last he gn i (n + 1) i).toNatClampNeg (imin 99 (lk (mq_last he gn i (n + 1) i).toNatClampNeg + lk i / 2))) (upd (if mq_last he gn i (n + 1) i = -1 then pu else upd pu (mq_last he gn i (n + 1) i).toNatClampNeg (pu (mq_last he gn i (n + 1) i).toNatClampNeg + pu i)) i 0) (upd fa i 0) he nv of mp mi k nt (if mq_last he gn i (n + 1) i = -1 then fu + pu i else fu) re)) (va_A (mW z a th n w gn lk pu fa he nv of mp mi k nt fu re) sz)) 0 0 (va_A (mW z a th n w gn lk pu fa he nv of mp mi k nt fu re) sz) := by
  refine Met.ofW (cc := cX1_hit) (maxL := 3) (ret := (some .int)) (by decide) rfl ?_
  intro p e s m args below meth c s₁ B hml hv
  obtain ⟨rfl, hsz, ⟨hP, hK⟩, hD0⟩ := hv
  have hx := B.exec
  have hb := B.bytes
  have hr := B.returns
  have hts := atoms_spec (ws := ws_ yX1_hit cX1_hit 3 (some .int)) B.pre
  have hts : ∀ w ∈ lw_all, w.before _ s = true := fun w h => hts w (List.mem_cons_of_mem _ h)
  have hown : s.vm.findClass RX1 = some m.cls := findClass_of_methodNamed B.named
  have hlocks := B.notSynchronized
  have hC : CallFix p m c cX1_hit 3 s _ lw_all RX1 := ⟨hx, hb, hml, hown, hts⟩
  subst hsz
  have hD := hD0.self (sz := s.heap.size)
  generalize hAe : va_A (mW z a th n w gn lk pu fa he nv of mp mi k nt fu re) s.heap.size = A at hD ⊢
  have hA : ∀ q : Nat, s.heap.size ≤ q → A q := fun q h => by rw [← hAe]; exact Or.inr h
  have hS : va_S A s.heap s.heap [] := va_S.rf
  have hl := lv_entry ([.ref (a 0), .int (nI i)]) (n := 3) (Nat.le_of_ble_eq_true rfl)
  rw [lg_entry_eq]
  generalize (lg_sl ([.ref (a 0), .int (nI i)]) ++ List.replicate (3 - (lg_sl ([.ref (a 0), .int (nI i)])).length) Slot.unset).toArray = ls at hl ⊢
  have hl : lv_has ls 3 [(0, .ref (a 0)), (1, .int (nI i))] := hl
  refine lv_aload_n hx hb dX1_hit_0 rfl (lv_at hl 0 rfl) ?_
  refine lv_iconst (v := 0) hx hb dX1_hit_1 (by decide) ?_
  refine mp_th hC hK hP hD hS dX1_hit_2 (fun H locs hP hD hS => ?_)
  refine lv_aload_n hx hb dX1_hit_5 rfl (lv_at hl 0 rfl) ?_
  refine lv_iload_n hx hb dX1_hit_6 rfl (lv_at hl 1 rfl) ?_
  refine k_X1_isPerson hC hK hP hl.1 ⟨Nat.le_of_ble_eq_true rfl, Nat.le_of_ble_eq_true rfl⟩ ⟨Nat.zero_le _, Nat.zero_le _⟩ (Nat.le_of_ble_eq_true rfl)  (by first | assumption | omega) dX1_hit_7 ?_
  refine lv_if_ne (tgt := 19) hx hb dX1_hit_10 (by decide) (fun c_10 => ?_) (fun c_10 => ?_)
  · refine lv_aload_n hx hb dX1_hit_19 rfl (lv_at hl 0 rfl) ?_
    refine mg_gn hC hK hP dX1_hit_20 ?_
    refine lv_iload_n hx hb dX1_hit_23 rfl (lv_at hl 1 rfl) ?_
    refine ml_gn hC hK hP i rfl (by omega) dX1_hit_24 ?_
    refine lv_if_eq (tgt := 34) hx hb dX1_hit_25 (by decide) (fun c_25 => ?_) (fun c_25 => ?_)
    · refine lv_aload_n hx hb dX1_hit_34 rfl (lv_at hl 0 rfl) ?_
      refine lv_iload_n hx hb dX1_hit_35 rfl (lv_at hl 1 rfl) ?_
      refine k_X1_last hC hK hP hl.1 ⟨Nat.le_of_ble_eq_true rfl, Nat.le_of_ble_eq_true rfl⟩ ⟨Nat.zero_le _, Nat.zero_le _⟩ (Nat.le_of_ble_eq_true rfl) rfl (by first | assumption | omega) (by first | assumption | omega) (by first | assumption | omega) dX1_hit_36 ?_
      refine lv_istore_n (lv' := [(2, .int (mq_last he gn i (n + 1) i)), (0, .ref (a 0)), (1, .int (nI i))]) hx hb dX1_hit_39 rfl hl (by decide) rfl (fun ls hl => ?_)
      refine lv_aload_n hx hb dX1_hit_40 rfl (lv_at hl 1 rfl) ?_
      refine mg_gn hC hK hP dX1_hit_41 ?_
      refine lv_iload_n hx hb dX1_hit_44 rfl (lv_at hl 2 rfl) ?_
      refine lv_iconst (v := 1) hx hb dX1_hit_45 (by decide) ?_
      refine ms_gn hC hK hP hD hS i rfl (by omega) (by decide) dX1_hit_46 (fun H locs hP hD hS => ?_)
      refine lv_iload_n hx hb dX1_hit_47 rfl (lv_at hl 0 rfl) ?_
      refine lv_iconst (v := (-1)) hx hb dX1_hit_48 (by decide) ?_
      refine lv_icmp_ne (tgt := 70) hx hb dX1_hit_49 (by decide) (fun c_49 => ?_) (fun c_49 => ?_)
      · obtain ⟨y, hyn, hy⟩ := (last_ex (by omega) hH gn i (n + 1) i hi).resolve_left c_49
        have eNy : (mq_last he gn i (n + 1) i).toNatClampNeg = y := by rw [hy]; exact nI_clamp (by omega)
        refine lv_aload_n hx hb dX1_hit_70 rfl (lv_at hl 1 rfl) ?_
        refine mg_lk hC hK hP dX1_hit_71 ?_
        refine lv_iload_n hx hb dX1_hit_74 rfl (lv_at hl 0 rfl) ?_
        refine lv_bipush (v := 99) hx hb dX1_hit_75 (by decide) ?_
        refine lv_aload_n hx hb dX1_hit_77 rfl (lv_at hl 1 rfl) ?_
        refine mg_lk hC hK hP dX1_hit_78 ?_
        refine lv_iload_n hx hb dX1_hit_81 rfl (lv_at hl 0 rfl) ?_
        refine ml_lk hC hK hP y hy (by omega) dX1_hit_82 ?_
        refine lv_aload_n hx hb dX1_hit_83 rfl (lv_at hl 1 rfl) ?_
        refine mg_lk hC hK hP dX1_hit_84 ?_
        refine lv_iload_n hx hb dX1_hit_87 rfl (lv_at hl 2 rfl) ?_
        refine ml_lk hC hK hP i rfl (by omega) dX1_hit_88 ?_
        refine lv_iconst (v := 2) hx hb dX1_hit_89 (by decide) ?_
        refine lv_idiv hx hb dX1_hit_90 (by decide) ?_
        refine lv_iadd hx hb dX1_hit_91 ?_
        refine va_mmin hx hb (hml.trans hl.1.symm) hown (hts _ mM_X1_71) (hts _ mT_min) (hts _ mI_Math) (hts _ mC_min) (Nat.le_of_ble_eq_true rfl) (Nat.le_of_ble_eq_true rfl) (Nat.zero_le _) (Nat.zero_le _) dX1_hit_92 ?_
        refine ms_lk hC hK hP hD hS y hy (by omega) dX1_hit_95 (fun H locs hP hD hS => ?_)
        refine lv_aload_n hx hb dX1_hit_96 rfl (lv_at hl 1 rfl) ?_
        refine mg_pu hC hK hP dX1_hit_97 ?_
        refine lv_iload_n hx hb dX1_hit_100 rfl (lv_at hl 0 rfl) ?_
        refine lv_dup2_11 hx hb dX1_hit_101 rfl rfl ?_
        refine ml_pu hC hK hP y hy (by omega) dX1_hit_102 ?_
        refine lv_aload_n hx hb dX1_hit_103 rfl (lv_at hl 1 rfl) ?_
        refine mg_pu hC hK hP dX1_hit_104 ?_
        refine lv_iload_n hx hb dX1_hit_107 rfl (lv_at hl 2 rfl) ?_
        refine ml_pu hC hK hP i rfl (by omega) dX1_hit_108 ?_
        refine lv_iadd hx hb dX1_hit_109 ?_
        refine ms_pu hC hK hP hD hS y hy (by omega) dX1_hit_110 (fun H locs hP hD hS => ?_)
        refine lv_aload_n hx hb dX1_hit_111 rfl (lv_at hl 1 rfl) ?_
        refine mg_pu hC hK hP dX1_hit_112 ?_
        refine lv_iload_n hx hb dX1_hit_115 rfl (lv_at hl 2 rfl) ?_
        refine lv_iconst (v := 0) hx hb dX1_hit_116 (by decide) ?_
        refine ms_pu hC hK hP hD hS i rfl (by omega) dX1_hit_117 (fun H locs hP hD hS => ?_)
        refine lv_aload_n hx hb dX1_hit_118 rfl (lv_at hl 1 rfl) ?_
        refine mg_fa hC hK hP dX1_hit_119 ?_
        refine lv_iload_n hx hb dX1_hit_122 rfl (lv_at hl 2 rfl) ?_
        refine lv_iconst (v := 0) hx hb dX1_hit_123 (by decide) ?_
        refine ms_fa hC hK hP hD hS i rfl (by omega) dX1_hit_124 (fun H locs hP hD hS => ?_)
        refine lv_iload_n hx hb dX1_hit_125 rfl (lv_at hl 0 rfl) ?_
        have hW9 : (mW z a 0 n w (upd gn i 1) (upd lk y (imin 99 ((lk y) + ((lk i) / 2)))) (upd (upd pu y ((pu y) + (pu i))) i 0) (upd fa i 0) he nv of mp mi k nt fu re : va_W) = mW z a 0 n w (upd gn i 1) (if mq_last he gn i (n + 1) i = -1 then lk else upd lk (mq_last he gn i (n + 1) i).toNatClampNeg (imin 99 (lk (mq_last he gn i (n + 1) i).toNatClampNeg + lk i / 2))) (upd (if mq_last he gn i (n + 1) i = -1 then pu else upd pu (mq_last he gn i (n + 1) i).toNatClampNeg (pu (mq_last he gn i (n + 1) i).toNatClampNeg + pu i)) i 0) (upd fa i 0) he nv of mp mi k nt (if mq_last he gn i (n + 1) i = -1 then fu + pu i else fu) re := (by simp [c_49, eNy])
        rw [hW9] at hP hD
        exact W.iret (v := mq_last he gn i (n + 1) i) hx hb hr (fun t ht hW => ⟨⟨mq_last he gn i (n + 1) i, (), rfl, rfl, by rw [ht]; exact hP, va_K.moved hW.alike hK, hD⟩, hS.F ht⟩) hS.2.2 dX1_hit_126
      · refine lv_aload_n hx hb dX1_hit_52 rfl (lv_at hl 1 rfl) ?_
        refine lv_dup hx hb dX1_hit_53 rfl ?_
        refine mg_fu hC hK hP dX1_hit_54 ?_
        refine lv_aload_n hx hb dX1_hit_57 rfl (lv_at hl 1 rfl) ?_
        refine mg_pu hC hK hP dX1_hit_58 ?_
        refine lv_iload_n hx hb dX1_hit_61 rfl (lv_at hl 2 rfl) ?_
        refine ml_pu hC hK hP i rfl (by omega) dX1_hit_62 ?_
        refine lv_iadd hx hb dX1_hit_63 ?_
        refine mp_fu hC hK hP hD hS dX1_hit_64 (fun H locs hP hD hS => ?_)
        refine lv_goto (tgt := 111) hx hb dX1_hit_67 (by decide) ?_
        refine lv_aload_n hx hb dX1_hit_111 rfl (lv_at hl 1 rfl) ?_
        refine mg_pu hC hK hP dX1_hit_112 ?_
        refine lv_iload_n hx hb dX1_hit_115 rfl (lv_at hl 2 rfl) ?_
        refine lv_iconst (v := 0) hx hb dX1_hit_116 (by decide) ?_
        refine ms_pu hC hK hP hD hS i rfl (by omega) dX1_hit_117 (fun H locs hP hD hS => ?_)
        refine lv_aload_n hx hb dX1_hit_118 rfl (lv_at hl 1 rfl) ?_
        refine mg_fa hC hK hP dX1_hit_119 ?_
        refine lv_iload_n hx hb dX1_hit_122 rfl (lv_at hl 2 rfl) ?_
        refine lv_iconst (v := 0) hx hb dX1_hit_123 (by decide) ?_
        refine ms_fa hC hK hP hD hS i rfl (by omega) dX1_hit_124 (fun H locs hP hD hS => ?_)
        refine lv_iload_n hx hb dX1_hit_125 rfl (lv_at hl 0 rfl) ?_
        have hW9 : (mW z a 0 n w (upd gn i 1) lk (upd pu i 0) (upd fa i 0) he nv of mp mi k nt (fu + (pu i)) re : va_W) = mW z a 0 n w (upd gn i 1) (if mq_last he gn i (n + 1) i = -1 then lk else upd lk (mq_last he gn i (n + 1) i).toNatClampNeg (imin 99 (lk (mq_last he gn i (n + 1) i).toNatClampNeg + lk i / 2))) (upd (if mq_last he gn i (n + 1) i = -1 then pu else upd pu (mq_last he gn i (n + 1) i).toNatClampNeg (pu (mq_last he gn i (n + 1) i).toNatClampNeg + pu i)) i 0) (upd fa i 0) he nv of mp mi k nt (if mq_last he gn i (n + 1) i = -1 then fu + pu i else fu) re := (by simp [c_49])
        rw [hW9] at hP hD
        exact W.iret (v := mq_last he gn i (n + 1) i) hx hb hr (fun t ht hW => ⟨⟨mq_last he gn i (n + 1) i, (), rfl, rfl, by rw [ht]; exact hP, va_K.moved hW.alike hK, hD⟩, hS.F ht⟩) hS.2.2 dX1_hit_126
    · exact absurd ha c_25
  · exact absurd c_10 (by rw [isP_in (by omega) hi]; decide)
set_option maxHeartbeats 4000000 in
set_option maxRecDepth 100000 in
theorem c_X1_hit_a (l : Launch) (sz : Nat) {D : va_G} {z : ClassId × ClassId} {a : Nat → Nat} {th : Int32} {n w : Nat} {gn lk pu fa he nv of mp mi : Nat → Int32} {k : Nat} {nt fu re : Int32} (x : Int32) (hn : n ≤ 10) (hbad : sp_isP n x = 0) : Met l yX1_hit (ws_ yX1_hit cX1_hit 3 (some .int)) ({ frames := 2, cells := 0, slots := 0, locals := 43 } : Room) (va_Pc [.ref (a 0), .int x] (fun U => U.heap.size = sz ∧ mI D z a th n w gn lk pu fa he nv of mp mi k nt fu re U ∧ va_D (fun _ => True) (mW z a th n w gn lk pu fa he nv of mp mi k nt fu re))) (va_Qi (fun (r : Int32) (_ : Unit) => r = 0) (fun _ t9 => va_P D vwCl (mW z a 1 n w gn lk pu fa he nv of mp mi k nt fu re) t9.heap ∧ kK D z t9 ∧ va_D (va_A (mW z a th n w gn lk pu fa he nv of mp mi k nt fu re) sz) (mW z a 1 n w gn lk pu fa he nv of mp mi k nt fu re)) (va_A (mW z a th n w gn lk pu fa he nv of mp mi k nt fu re) sz)) 0 0 (va_A (mW z a th n w gn lk pu fa he nv of mp mi k nt fu re) sz) := by
  refine Met.ofW (cc := cX1_hit) (maxL := 3) (ret := (some .int)) (by decide) rfl ?_
  intro p e s m args below meth c s₁ B hml hv
  obtain ⟨rfl, hsz, ⟨hP, hK⟩, hD0⟩ := hv
  have hx := B.exec
  have hb := B.bytes
  have hr := B.returns
  have hts := atoms_spec (ws := ws_ yX1_hit cX1_hit 3 (some .int)) B.pre
  have hts : ∀ w ∈ lw_all, w.before _ s = true := fun w h => hts w (List.mem_cons_of_mem _ h)
  have hown : s.vm.findClass RX1 = some m.cls := findClass_of_methodNamed B.named
  have hlocks := B.notSynchronized
  have hC : CallFix p m c cX1_hit 3 s _ lw_all RX1 := ⟨hx, hb, hml, hown, hts⟩
  subst hsz
  have hD := hD0.self (sz := s.heap.size)
  generalize hAe : va_A (mW z a th n w gn lk pu fa he nv of mp mi k nt fu re) s.heap.size = A at hD ⊢
  have hA : ∀ q : Nat, s.heap.size ≤ q → A q := fun q h => by rw [← hAe]; exact Or.inr h
  have hS : va_S A s.heap s.heap [] := va_S.rf
  have hl := lv_entry ([.ref (a 0), .int x]) (n := 3) (Nat.le_of_ble_eq_true rfl)
  rw [lg_entry_eq]
  generalize (lg_sl ([.ref (a 0), .int x]) ++ List.replicate (3 - (lg_sl ([.ref (a 0), .int x])).length) Slot.unset).toArray = ls at hl ⊢
  have hl : lv_has ls 3 [(0, .ref (a 0)), (1, .int x)] := hl
  refine lv_aload_n hx hb dX1_hit_0 rfl (lv_at hl 0 rfl) ?_
  refine lv_iconst (v := 0) hx hb dX1_hit_1 (by decide) ?_
  refine mp_th hC hK hP hD hS dX1_hit_2 (fun H locs hP hD hS => ?_)
  refine lv_aload_n hx hb dX1_hit_5 rfl (lv_at hl 0 rfl) ?_
  refine lv_iload_n hx hb dX1_hit_6 rfl (lv_at hl 1 rfl) ?_
  refine k_X1_isPerson hC hK hP hl.1 ⟨Nat.le_of_ble_eq_true rfl, Nat.le_of_ble_eq_true rfl⟩ ⟨Nat.zero_le _, Nat.zero_le _⟩ (Nat.le_of_ble_eq_true rfl)  (by first | assumption | omega) dX1_hit_7 ?_
  refine lv_if_ne (tgt := 19) hx hb dX1_hit_10 (by decide) (fun c_10 => ?_) (fun c_10 => ?_)
  · exact absurd hbad c_10
  · refine lv_aload_n hx hb dX1_hit_13 rfl (lv_at hl 0 rfl) ?_
    refine lv_iconst (v := 1) hx hb dX1_hit_14 (by decide) ?_
    refine k_X1_fail hC hK hP hD hS hA hl.1 ⟨Nat.le_of_ble_eq_true rfl, Nat.le_of_ble_eq_true rfl⟩ ⟨Nat.zero_le _, Nat.zero_le _⟩ (Nat.le_of_ble_eq_true rfl)   dX1_hit_15 (fun H locs hP hD hS => ?_)
    exact W.iret (v := 0) hx hb hr (fun t ht hW => ⟨⟨0, (), rfl, rfl, by rw [ht]; exact hP, va_K.moved hW.alike hK, hD⟩, hS.F ht⟩) hS.2.2 dX1_hit_18
set_option maxHeartbeats 4000000 in
set_option maxRecDepth 100000 in
theorem c_X1_hit_b (l : Launch) (sz : Nat) {D : va_G} {z : ClassId × ClassId} {a : Nat → Nat} {th : Int32} {n w : Nat} {gn lk pu fa he nv of mp mi : Nat → Int32} {k : Nat} {nt fu re : Int32} (i : Nat) (hi : i < n) (hn : n ≤ 10) (ha : ¬ gn i = 0) : Met l yX1_hit (ws_ yX1_hit cX1_hit 3 (some .int)) ({ frames := 2, cells := 0, slots := 0, locals := 43 } : Room) (va_Pc [.ref (a 0), .int (nI i)] (fun U => U.heap.size = sz ∧ mI D z a th n w gn lk pu fa he nv of mp mi k nt fu re U ∧ va_D (fun _ => True) (mW z a th n w gn lk pu fa he nv of mp mi k nt fu re))) (va_Qi (fun (r : Int32) (_ : Unit) => r = 0) (fun _ t9 => va_P D vwCl (mW z a 2 n w gn lk pu fa he nv of mp mi k nt fu re) t9.heap ∧ kK D z t9 ∧ va_D (va_A (mW z a th n w gn lk pu fa he nv of mp mi k nt fu re) sz) (mW z a 2 n w gn lk pu fa he nv of mp mi k nt fu re)) (va_A (mW z a th n w gn lk pu fa he nv of mp mi k nt fu re) sz)) 0 0 (va_A (mW z a th n w gn lk pu fa he nv of mp mi k nt fu re) sz) := by
  refine Met.ofW (cc := cX1_hit) (maxL := 3) (ret := (some .int)) (by decide) rfl ?_
  intro p e s m args below meth c s₁ B hml hv
  obtain ⟨rfl, hsz, ⟨hP, hK⟩, hD0⟩ := hv
  have hx := B.exec
  have hb := B.bytes
  have hr := B.returns
  have hts := atoms_spec (ws := ws_ yX1_hit cX1_hit 3 (some .int)) B.pre
  have hts : ∀ w ∈ lw_all, w.before _ s = true := fun w h => hts w (List.mem_cons_of_mem _ h)
  have hown : s.vm.findClass RX1 = some m.cls := findClass_of_methodNamed B.named
  have hlocks := B.notSynchronized
  have hC : CallFix p m c cX1_hit 3 s _ lw_all RX1 := ⟨hx, hb, hml, hown, hts⟩
  subst hsz
  have hD := hD0.self (sz := s.heap.size)
  generalize hAe : va_A (mW z a th n w gn lk pu fa he nv of mp mi k nt fu re) s.heap.size = A at hD ⊢
  have hA : ∀ q : Nat, s.heap.size ≤ q → A q := fun q h => by rw [← hAe]; exact Or.inr h
  have hS : va_S A s.heap s.heap [] := va_S.rf
  have hl := lv_entry ([.ref (a 0), .int (nI i)]) (n := 3) (Nat.le_of_ble_eq_true rfl)
  rw [lg_entry_eq]
  generalize (lg_sl ([.ref (a 0), .int (nI i)]) ++ List.replicate (3 - (lg_sl ([.ref (a 0), .int (nI i)])).length) Slot.unset).toArray = ls at hl ⊢
  have hl : lv_has ls 3 [(0, .ref (a 0)), (1, .int (nI i))] := hl
  refine lv_aload_n hx hb dX1_hit_0 rfl (lv_at hl 0 rfl) ?_
  refine lv_iconst (v := 0) hx hb dX1_hit_1 (by decide) ?_
  refine mp_th hC hK hP hD hS dX1_hit_2 (fun H locs hP hD hS => ?_)
  refine lv_aload_n hx hb dX1_hit_5 rfl (lv_at hl 0 rfl) ?_
  refine lv_iload_n hx hb dX1_hit_6 rfl (lv_at hl 1 rfl) ?_
  refine k_X1_isPerson hC hK hP hl.1 ⟨Nat.le_of_ble_eq_true rfl, Nat.le_of_ble_eq_true rfl⟩ ⟨Nat.zero_le _, Nat.zero_le _⟩ (Nat.le_of_ble_eq_true rfl)  (by first | assumption | omega) dX1_hit_7 ?_
  refine lv_if_ne (tgt := 19) hx hb dX1_hit_10 (by decide) (fun c_10 => ?_) (fun c_10 => ?_)
  · refine lv_aload_n hx hb dX1_hit_19 rfl (lv_at hl 0 rfl) ?_
    refine mg_gn hC hK hP dX1_hit_20 ?_
    refine lv_iload_n hx hb dX1_hit_23 rfl (lv_at hl 1 rfl) ?_
    refine ml_gn hC hK hP i rfl (by omega) dX1_hit_24 ?_
    refine lv_if_eq (tgt := 34) hx hb dX1_hit_25 (by decide) (fun c_25 => ?_) (fun c_25 => ?_)
    · exact absurd c_25 ha
    · refine lv_aload_n hx hb dX1_hit_28 rfl (lv_at hl 0 rfl) ?_
      refine lv_iconst (v := 2) hx hb dX1_hit_29 (by decide) ?_
      refine k_X1_fail hC hK hP hD hS hA hl.1 ⟨Nat.le_of_ble_eq_true rfl, Nat.le_of_ble_eq_true rfl⟩ ⟨Nat.zero_le _, Nat.zero_le _⟩ (Nat.le_of_ble_eq_true rfl)   dX1_hit_30 (fun H locs hP hD hS => ?_)
      exact W.iret (v := 0) hx hb hr (fun t ht hW => ⟨⟨0, (), rfl, rfl, by rw [ht]; exact hP, va_K.moved hW.alike hK, hD⟩, hS.F ht⟩) hS.2.2 dX1_hit_33
  · exact absurd c_10 (by rw [isP_in (by omega) hi]; decide)
set_option maxHeartbeats 4000000 in
set_option maxRecDepth 100000 in
theorem c_X1_pass (l : Launch) (sz : Nat) {D : va_G} {z : ClassId × ClassId} {a : Nat → Nat} {th : Int32} {n w : Nat} {gn lk pu fa he nv of mp mi : Nat → Int32} {k : Nat} {nt fu re : Int32} (x : Int32) (h1 : ¬ x < 1) (h2 : x ≤ 30) (hn : n ≤ 10) (hw : w ≤ 6) : Met l yX1_pass (ws_ yX1_pass cX1_pass 3 (some .int)) ({ frames := 1, cells := 0, slots := 0, locals := 22 } : Room) (va_Pc [.ref (a 0), .int x] (fun U => U.heap.size = sz ∧ mI D z a th n w gn lk pu fa he nv of mp mi k nt fu re U ∧ va_D (fun _ => True) (mW z a th n w gn lk pu fa he nv of mp mi k nt fu re))) (va_Qi (fun (r : Int32) (_ : Unit) => r = sp_shk (mq_pn of nv x w) w) (fun _ t9 => va_P D vwCl (mW z a 0 n w gn (mq_pl gn lk x n) pu fa he (mq_pn of nv x w) of mp mi k (nt + x) fu re) t9.heap ∧ kK D z t9 ∧ va_D (va_A (mW z a th n w gn lk pu fa he nv of mp mi k nt fu re) sz) (mW z a 0 n w gn (mq_pl gn lk x n) pu fa he (mq_pn of nv x w) of mp mi k (nt + x) fu re)) (va_A (mW z a th n w gn lk pu fa he nv of mp mi k nt fu re) sz)) 0 0 (va_A (mW z a th n w gn lk pu fa he nv of mp mi k nt fu re) sz) := by
  refine Met.ofW (cc := cX1_pass) (maxL := 3) (ret := (some .int)) (by decide) rfl ?_
  intro p e s m args below meth c s₁ B hml hv
  obtain ⟨rfl, hsz, ⟨hP, hK⟩, hD0⟩ := hv
  have hx := B.exec
  have hb := B.bytes
  have hr := B.returns
  have hts := atoms_spec (ws := ws_ yX1_pass cX1_pass 3 (some .int)) B.pre
  have hts : ∀ w ∈ lw_all, w.before _ s = true := fun w h => hts w (List.mem_cons_of_mem _ h)
  have hown : s.vm.findClass RX1 = some m.cls := findClass_of_methodNamed B.named
  have hlocks := B.notSynchronized
  have hC : CallFix p m c cX1_pass 3 s _ lw_all RX1 := ⟨hx, hb, hml, hown, hts⟩
  subst hsz
  have hD := hD0.self (sz := s.heap.size)
  generalize hAe : va_A (mW z a th n w gn lk pu fa he nv of mp mi k nt fu re) s.heap.size = A at hD ⊢
  have hA : ∀ q : Nat, s.heap.size ≤ q → A q := fun q h => by rw [← hAe]; exact Or.inr h
  have hS : va_S A s.heap s.heap [] := va_S.rf
  have hl := lv_entry ([.ref (a 0), .int x]) (n := 3) (Nat.le_of_ble_eq_true rfl)
  rw [lg_entry_eq]
  generalize (lg_sl ([.ref (a 0), .int x]) ++ List.replicate (3 - (lg_sl ([.ref (a 0), .int x])).length) Slot.unset).toArray = ls at hl ⊢
  have hl : lv_has ls 3 [(0, .ref (a 0)), (1, .int x)] := hl
  refine lv_aload_n hx hb dX1_pass_0 rfl (lv_at hl 0 rfl) ?_
  refine lv_iconst (v := 0) hx hb dX1_pass_1 (by decide) ?_
  refine mp_th hC hK hP hD hS dX1_pass_2 (fun H locs hP hD hS => ?_)
  refine lv_iload_n hx hb dX1_pass_5 rfl (lv_at hl 1 rfl) ?_
  refine lv_iconst (v := 1) hx hb dX1_pass_6 (by decide) ?_
  refine lv_bipush (v := 30) hx hb dX1_pass_7 (by decide) ?_
  refine k_X1_isIn hC hl.1 ⟨Nat.le_of_ble_eq_true rfl, Nat.le_of_ble_eq_true rfl⟩ ⟨Nat.zero_le _, Nat.zero_le _⟩ (Nat.le_of_ble_eq_true rfl)   dX1_pass_9 ?_
  refine lv_if_ne (tgt := 21) hx hb dX1_pass_12 (by decide) (fun c_12 => ?_) (fun c_12 => ?_)
  · refine lv_iconst (v := 0) hx hb dX1_pass_21 (by decide) ?_
    refine lv_istore_n (lv' := [(2, .int 0), (0, .ref (a 0)), (1, .int x)]) hx hb dX1_pass_22 rfl hl (by decide) rfl (fun ls hl => ?_)
    have loop_23 : ∀ (f : Nat) (j : Nat) (g : Nat → Int32), j ≤ w → w + 1 ≤ j + f → g = mq_pn of nv x j → ∀ (H : Heap) (locs : List Loc), va_P D vwCl (mW z a 0 n w gn lk pu fa he g of mp mi k nt fu re) H → va_D A (mW z a 0 n w gn lk pu fa he g of mp mi k nt fu re) → va_S A s.heap H locs → ∀ ls : Array Slot, lv_has ls 3 [(0, .ref (a 0)), (1, .int x), (2, .int (nI j))] → W p l e ({ frames := 1, cells := 0, slots := 0, locals := 22 } : Room) s m ([.ref (a 0), .int x] : List Value).toArray below meth c H locs 0 0 (MQ below (va_Qi (fun (r : Int32) (_ : Unit) => r = sp_shk (mq_pn of nv x w) w) (fun _ t9 => va_P D vwCl (mW z a 0 n w gn (mq_pl gn lk x n) pu fa he (mq_pn of nv x w) of mp mi k (nt + x) fu re) t9.heap ∧ kK D z t9 ∧ va_D A (mW z a 0 n w gn (mq_pl gn lk x n) pu fa he (mq_pn of nv x w) of mp mi k (nt + x) fu re)) A) ([.ref (a 0), .int x] : List Value).toArray s 0 0 A) (F0 m 23 ls []) := by
      intro f
      induction f with
      | zero =>
        intro j g hj hf hg
        exact absurd hf (by omega)
      | succ f ih23 =>
        intro j g hj hf hg H locs hP hD hS ls hl
        refine lv_iload_n hx hb dX1_pass_23 rfl (lv_at hl 2 rfl) ?_
        refine lv_aload_n hx hb dX1_pass_24 rfl (lv_at hl 0 rfl) ?_
        refine mg_w hC hK hP dX1_pass_25 ?_
        refine lv_icmp_ge (tgt := 71) hx hb dX1_pass_28 (by decide) (fun c_28 => ?_) (fun c_28 => ?_)
        · have nc_28 : w ≤ j := nn_le (by omega) c_28
          refine lv_iconst (v := 0) hx hb dX1_pass_71 (by decide) ?_
          refine lv_istore_n (lv' := [(2, .int 0), (0, .ref (a 0)), (1, .int x)]) hx hb dX1_pass_72 rfl hl (by decide) rfl (fun ls hl => ?_)
          have loop_73 : ∀ (f : Nat) (i : Nat) (d : Nat → Int32), i ≤ n → n + 1 ≤ i + f → d = mq_pl gn lk x i → ∀ (H : Heap) (locs : List Loc), va_P D vwCl (mW z a 0 n w gn d pu fa he g of mp mi k nt fu re) H → va_D A (mW z a 0 n w gn d pu fa he g of mp mi k nt fu re) → va_S A s.heap H locs → ∀ ls : Array Slot, lv_has ls 3 [(0, .ref (a 0)), (1, .int x), (2, .int (nI i))] → W p l e ({ frames := 1, cells := 0, slots := 0, locals := 22 } : Room) s m ([.ref (a 0), .int x] : List Value).toArray below meth c H locs 0 0 (MQ below (va_Qi (fun (r : Int32) (_ : Unit) => r = sp_shk (mq_pn of nv x w) w) (fun _ t9 => va_P D vwCl (mW z a 0 n w gn (mq_pl gn lk x n) pu fa he (mq_pn of nv x w) of mp mi k (nt + x) fu re) t9.heap ∧ kK D z t9 ∧ va_D A (mW z a 0 n w gn (mq_pl gn lk x n) pu fa he (mq_pn of nv x w) of mp mi k (nt + x) fu re)) A) ([.ref (a 0), .int x] : List Value).toArray s 0 0 A) (F0 m 73 ls []) := by
            intro f
            induction f with
            | zero =>
              intro i d hi hf2 hd
              exact absurd hf2 (by omega)
            | succ f ih73 =>
              intro i d hi hf2 hd H locs hP hD hS ls hl
              refine lv_iload_n hx hb dX1_pass_73 rfl (lv_at hl 2 rfl) ?_
              refine lv_aload_n hx hb dX1_pass_74 rfl (lv_at hl 0 rfl) ?_
              refine mg_n hC hK hP dX1_pass_75 ?_
              refine lv_icmp_ge (tgt := 115) hx hb dX1_pass_78 (by decide) (fun c_78 => ?_) (fun c_78 => ?_)
              · have nc_78 : n ≤ i := nn_le (by omega) c_78
                refine lv_aload_n hx hb dX1_pass_115 rfl (lv_at hl 0 rfl) ?_
                refine lv_dup hx hb dX1_pass_116 rfl ?_
                refine mg_nt hC hK hP dX1_pass_117 ?_
                refine lv_iload_n hx hb dX1_pass_120 rfl (lv_at hl 1 rfl) ?_
                refine lv_iadd hx hb dX1_pass_121 ?_
                refine mp_nt hC hK hP hD hS dX1_pass_122 (fun H locs hP hD hS => ?_)
                refine lv_aload_n hx hb dX1_pass_125 rfl (lv_at hl 0 rfl) ?_
                refine k_X1_shakenNow hC hK hP hl.1 ⟨Nat.le_of_ble_eq_true rfl, Nat.le_of_ble_eq_true rfl⟩ ⟨Nat.zero_le _, Nat.zero_le _⟩ (Nat.le_of_ble_eq_true rfl)  (by first | assumption | omega) dX1_pass_126 ?_
                have hW9 : (mW z a 0 n w gn d pu fa he g of mp mi k (nt + x) fu re : va_W) = mW z a 0 n w gn (mq_pl gn lk x n) pu fa he (mq_pn of nv x w) of mp mi k (nt + x) fu re := (by rw [hg, hd, show j = w by omega, show i = n by omega])
                rw [hW9] at hP hD
                exact W.iret (v := sp_shk g w) hx hb hr (fun t ht hW => ⟨⟨sp_shk g w, (), rfl, (by rw [hg, show j = w by omega]), by rw [ht]; exact hP, va_K.moved hW.alike hK, hD⟩, hS.F ht⟩) hS.2.2 dX1_pass_129
              · have nc_78 : i < n := nn_nle (by omega) c_78
                refine lv_aload_n hx hb dX1_pass_81 rfl (lv_at hl 0 rfl) ?_
                refine mg_gn hC hK hP dX1_pass_82 ?_
                refine lv_iload_n hx hb dX1_pass_85 rfl (lv_at hl 2 rfl) ?_
                refine ml_gn hC hK hP i rfl (by omega) dX1_pass_86 ?_
                refine lv_if_ne (tgt := 109) hx hb dX1_pass_87 (by decide) (fun c_87 => ?_) (fun c_87 => ?_)
                · refine lv_iinc (v := nI (i + 1)) (lv' := [(2, .int (nI (i + 1))), (0, .ref (a 0)), (1, .int x)]) hx hb dX1_pass_109 hl (k := 2) rfl (nI_1 _) (by decide) rfl (fun ls hl => ?_)
                  refine lv_goto (tgt := 73) hx hb dX1_pass_112 (by decide) ?_
                  exact ih73 (i + 1) d (by omega) (by omega) (by simp [mq_pl, hd, c_87]) _ _ hP hD hS _ (lv_sub hl [1, 2, 0] rfl)
                · refine lv_aload_n hx hb dX1_pass_90 rfl (lv_at hl 0 rfl) ?_
                  refine mg_lk hC hK hP dX1_pass_91 ?_
                  refine lv_iload_n hx hb dX1_pass_94 rfl (lv_at hl 2 rfl) ?_
                  refine lv_bipush (v := 99) hx hb dX1_pass_95 (by decide) ?_
                  refine lv_aload_n hx hb dX1_pass_97 rfl (lv_at hl 0 rfl) ?_
                  refine mg_lk hC hK hP dX1_pass_98 ?_
                  refine lv_iload_n hx hb dX1_pass_101 rfl (lv_at hl 2 rfl) ?_
                  refine ml_lk hC hK hP i rfl (by omega) dX1_pass_102 ?_
                  refine lv_iload_n hx hb dX1_pass_103 rfl (lv_at hl 1 rfl) ?_
                  refine lv_iadd hx hb dX1_pass_104 ?_
                  refine va_mmin hx hb (hml.trans hl.1.symm) hown (hts _ mM_X1_71) (hts _ mT_min) (hts _ mI_Math) (hts _ mC_min) (Nat.le_of_ble_eq_true rfl) (Nat.le_of_ble_eq_true rfl) (Nat.zero_le _) (Nat.zero_le _) dX1_pass_105 ?_
                  refine ms_lk hC hK hP hD hS i rfl (by omega) dX1_pass_108 (fun H locs hP hD hS => ?_)
                  refine lv_iinc (v := nI (i + 1)) (lv' := [(2, .int (nI (i + 1))), (0, .ref (a 0)), (1, .int x)]) hx hb dX1_pass_109 hl (k := 2) rfl (nI_1 _) (by decide) rfl (fun ls hl => ?_)
                  refine lv_goto (tgt := 73) hx hb dX1_pass_112 (by decide) ?_
                  exact ih73 (i + 1) (upd d i (imin 99 ((d i) + x))) (by omega) (by omega) (by simp [mq_pl, hd, c_87]) _ _ hP hD hS _ (lv_sub hl [1, 2, 0] rfl)
          exact loop_73 (n + 1) 0 lk (Nat.zero_le _) (by omega) rfl _ _ hP hD hS _ (lv_sub hl [1, 2, 0] rfl)
        · have nc_28 : j < w := nn_nle (by omega) c_28
          refine lv_aload_n hx hb dX1_pass_31 rfl (lv_at hl 0 rfl) ?_
          refine mg_nv hC hK hP dX1_pass_32 ?_
          refine lv_iload_n hx hb dX1_pass_35 rfl (lv_at hl 2 rfl) ?_
          refine lv_bipush (v := 9) hx hb dX1_pass_36 (by decide) ?_
          refine lv_aload_n hx hb dX1_pass_38 rfl (lv_at hl 0 rfl) ?_
          refine mg_nv hC hK hP dX1_pass_39 ?_
          refine lv_iload_n hx hb dX1_pass_42 rfl (lv_at hl 2 rfl) ?_
          refine ml_nv hC hK hP j rfl (by omega) dX1_pass_43 ?_
          refine lv_iload_n hx hb dX1_pass_44 rfl (lv_at hl 1 rfl) ?_
          refine lv_aload_n hx hb dX1_pass_45 rfl (lv_at hl 0 rfl) ?_
          refine mg_of hC hK hP dX1_pass_46 ?_
          refine lv_iload_n hx hb dX1_pass_49 rfl (lv_at hl 2 rfl) ?_
          refine ml_of hC hK hP j rfl (by omega) dX1_pass_50 ?_
          refine lv_if_eq (tgt := 58) hx hb dX1_pass_51 (by decide) (fun c_51 => ?_) (fun c_51 => ?_)
          · refine lv_iconst (v := 1) hx hb dX1_pass_58 (by decide) ?_
            refine lv_imul hx hb dX1_pass_59 ?_
            refine lv_iadd hx hb dX1_pass_60 ?_
            refine va_mmin hx hb (hml.trans hl.1.symm) hown (hts _ mM_X1_71) (hts _ mT_min) (hts _ mI_Math) (hts _ mC_min) (Nat.le_of_ble_eq_true rfl) (Nat.le_of_ble_eq_true rfl) (Nat.zero_le _) (Nat.zero_le _) dX1_pass_61 ?_
            refine ms_nv hC hK hP hD hS j rfl (by omega) dX1_pass_64 (fun H locs hP hD hS => ?_)
            refine lv_iinc (v := nI (j + 1)) (lv' := [(2, .int (nI (j + 1))), (0, .ref (a 0)), (1, .int x)]) hx hb dX1_pass_65 hl (k := 2) rfl (nI_1 _) (by decide) rfl (fun ls hl => ?_)
            refine lv_goto (tgt := 23) hx hb dX1_pass_68 (by decide) ?_
            exact ih23 (j + 1) (upd g j (imin 9 ((g j) + (x * 1)))) (by omega) (by omega) (by simp [mq_pn, hg, c_51]) _ _ hP hD hS _ (lv_sub hl [1, 2, 0] rfl)
          · refine lv_iconst (v := 2) hx hb dX1_pass_54 (by decide) ?_
            refine lv_goto (tgt := 59) hx hb dX1_pass_55 (by decide) ?_
            refine lv_imul hx hb dX1_pass_59 ?_
            refine lv_iadd hx hb dX1_pass_60 ?_
            refine va_mmin hx hb (hml.trans hl.1.symm) hown (hts _ mM_X1_71) (hts _ mT_min) (hts _ mI_Math) (hts _ mC_min) (Nat.le_of_ble_eq_true rfl) (Nat.le_of_ble_eq_true rfl) (Nat.zero_le _) (Nat.zero_le _) dX1_pass_61 ?_
            refine ms_nv hC hK hP hD hS j rfl (by omega) dX1_pass_64 (fun H locs hP hD hS => ?_)
            refine lv_iinc (v := nI (j + 1)) (lv' := [(2, .int (nI (j + 1))), (0, .ref (a 0)), (1, .int x)]) hx hb dX1_pass_65 hl (k := 2) rfl (nI_1 _) (by decide) rfl (fun ls hl => ?_)
            refine lv_goto (tgt := 23) hx hb dX1_pass_68 (by decide) ?_
            exact ih23 (j + 1) (upd g j (imin 9 ((g j) + (x * 2)))) (by omega) (by omega) (by simp [mq_pn, hg, c_51]) _ _ hP hD hS _ (lv_sub hl [1, 2, 0] rfl)
    exact loop_23 (w + 1) 0 nv (Nat.zero_le _) (by omega) rfl _ _ hP hD hS _ (lv_sub hl [1, 2, 0] rfl)
  · exact absurd c_12 (in_1 h1 h2)
set_option maxHeartbeats 4000000 in
set_option maxRecDepth 100000 in
theorem c_X1_pass_a (l : Launch) (sz : Nat) {D : va_G} {z : ClassId × ClassId} {a : Nat → Nat} {th : Int32} {n w : Nat} {gn lk pu fa he nv of mp mi : Nat → Int32} {k : Nat} {nt fu re : Int32} (x : Int32) (hbad : x < 1 ∨ ¬ x ≤ 30) : Met l yX1_pass (ws_ yX1_pass cX1_pass 3 (some .int)) ({ frames := 1, cells := 0, slots := 0, locals := 22 } : Room) (va_Pc [.ref (a 0), .int x] (fun U => U.heap.size = sz ∧ mI D z a th n w gn lk pu fa he nv of mp mi k nt fu re U ∧ va_D (fun _ => True) (mW z a th n w gn lk pu fa he nv of mp mi k nt fu re))) (va_Qi (fun (r : Int32) (_ : Unit) => r = 0) (fun _ t9 => va_P D vwCl (mW z a 1 n w gn lk pu fa he nv of mp mi k nt fu re) t9.heap ∧ kK D z t9 ∧ va_D (va_A (mW z a th n w gn lk pu fa he nv of mp mi k nt fu re) sz) (mW z a 1 n w gn lk pu fa he nv of mp mi k nt fu re)) (va_A (mW z a th n w gn lk pu fa he nv of mp mi k nt fu re) sz)) 0 0 (va_A (mW z a th n w gn lk pu fa he nv of mp mi k nt fu re) sz) := by
  refine Met.ofW (cc := cX1_pass) (maxL := 3) (ret := (some .int)) (by decide) rfl ?_
  intro p e s m args below meth c s₁ B hml hv
  obtain ⟨rfl, hsz, ⟨hP, hK⟩, hD0⟩ := hv
  have hx := B.exec
  have hb := B.bytes
  have hr := B.returns
  have hts := atoms_spec (ws := ws_ yX1_pass cX1_pass 3 (some .int)) B.pre
  have hts : ∀ w ∈ lw_all, w.before _ s = true := fun w h => hts w (List.mem_cons_of_mem _ h)
  have hown : s.vm.findClass RX1 = some m.cls := findClass_of_methodNamed B.named
  have hlocks := B.notSynchronized
  have hC : CallFix p m c cX1_pass 3 s _ lw_all RX1 := ⟨hx, hb, hml, hown, hts⟩
  subst hsz
  have hD := hD0.self (sz := s.heap.size)
  generalize hAe : va_A (mW z a th n w gn lk pu fa he nv of mp mi k nt fu re) s.heap.size = A at hD ⊢
  have hA : ∀ q : Nat, s.heap.size ≤ q → A q := fun q h => by rw [← hAe]; exact Or.inr h
  have hS : va_S A s.heap s.heap [] := va_S.rf
  have hl := lv_entry ([.ref (a 0), .int x]) (n := 3) (Nat.le_of_ble_eq_true rfl)
  rw [lg_entry_eq]
  generalize (lg_sl ([.ref (a 0), .int x]) ++ List.replicate (3 - (lg_sl ([.ref (a 0), .int x])).length) Slot.unset).toArray = ls at hl ⊢
  have hl : lv_has ls 3 [(0, .ref (a 0)), (1, .int x)] := hl
  refine lv_aload_n hx hb dX1_pass_0 rfl (lv_at hl 0 rfl) ?_
  refine lv_iconst (v := 0) hx hb dX1_pass_1 (by decide) ?_
  refine mp_th hC hK hP hD hS dX1_pass_2 (fun H locs hP hD hS => ?_)
  refine lv_iload_n hx hb dX1_pass_5 rfl (lv_at hl 1 rfl) ?_
  refine lv_iconst (v := 1) hx hb dX1_pass_6 (by decide) ?_
  refine lv_bipush (v := 30) hx hb dX1_pass_7 (by decide) ?_
  refine k_X1_isIn hC hl.1 ⟨Nat.le_of_ble_eq_true rfl, Nat.le_of_ble_eq_true rfl⟩ ⟨Nat.zero_le _, Nat.zero_le _⟩ (Nat.le_of_ble_eq_true rfl)   dX1_pass_9 ?_
  refine lv_if_ne (tgt := 21) hx hb dX1_pass_12 (by decide) (fun c_12 => ?_) (fun c_12 => ?_)
  · exact absurd (in_0 hbad) c_12
  · refine lv_aload_n hx hb dX1_pass_15 rfl (lv_at hl 0 rfl) ?_
    refine lv_iconst (v := 1) hx hb dX1_pass_16 (by decide) ?_
    refine k_X1_fail hC hK hP hD hS hA hl.1 ⟨Nat.le_of_ble_eq_true rfl, Nat.le_of_ble_eq_true rfl⟩ ⟨Nat.zero_le _, Nat.zero_le _⟩ (Nat.le_of_ble_eq_true rfl)   dX1_pass_17 (fun H locs hP hD hS => ?_)
    exact W.iret (v := 0) hx hb hr (fun t ht hW => ⟨⟨0, (), rfl, rfl, by rw [ht]; exact hP, va_K.moved hW.alike hK, hD⟩, hS.F ht⟩) hS.2.2 dX1_pass_20
set_option maxHeartbeats 4000000 in
set_option maxRecDepth 100000 in
theorem c_X1_night (l : Launch) (sz : Nat) {D : va_G} {z : ClassId × ClassId} {a : Nat → Nat} {th : Int32} {n w : Nat} {gn lk pu fa he nv of mp mi : Nat → Int32} {k : Nat} {nt fu re : Int32}  : Met l yX1_night (ws_ yX1_night cX1_night 1 (some .int)) ({ frames := 1, cells := 0, slots := 0, locals := 21 } : Room) (va_Pc [.ref (a 0)] (fun U => U.heap.size = sz ∧ mI D z a th n w gn lk pu fa he nv of mp mi k nt fu re U ∧ va_D (fun _ => True) (mW z a th n w gn lk pu fa he nv of mp mi k nt fu re))) (va_Qi (fun (r : Int32) (_ : Unit) => r = nt) (fun _ t9 => va_P D vwCl (mW z a 0 n w gn lk pu fa he nv of mp mi k nt fu re) t9.heap ∧ kK D z t9 ∧ va_D (va_A (mW z a th n w gn lk pu fa he nv of mp mi k nt fu re) sz) (mW z a 0 n w gn lk pu fa he nv of mp mi k nt fu re)) (va_A (mW z a th n w gn lk pu fa he nv of mp mi k nt fu re) sz)) 0 0 (va_A (mW z a th n w gn lk pu fa he nv of mp mi k nt fu re) sz) := by
  refine Met.ofW (cc := cX1_night) (maxL := 1) (ret := (some .int)) (by decide) rfl ?_
  intro p e s m args below meth c s₁ B hml hv
  obtain ⟨rfl, hsz, ⟨hP, hK⟩, hD0⟩ := hv
  have hx := B.exec
  have hb := B.bytes
  have hr := B.returns
  have hts := atoms_spec (ws := ws_ yX1_night cX1_night 1 (some .int)) B.pre
  have hts : ∀ w ∈ lw_all, w.before _ s = true := fun w h => hts w (List.mem_cons_of_mem _ h)
  have hown : s.vm.findClass RX1 = some m.cls := findClass_of_methodNamed B.named
  have hlocks := B.notSynchronized
  have hC : CallFix p m c cX1_night 1 s _ lw_all RX1 := ⟨hx, hb, hml, hown, hts⟩
  subst hsz
  have hD := hD0.self (sz := s.heap.size)
  generalize hAe : va_A (mW z a th n w gn lk pu fa he nv of mp mi k nt fu re) s.heap.size = A at hD ⊢
  have hA : ∀ q : Nat, s.heap.size ≤ q → A q := fun q h => by rw [← hAe]; exact Or.inr h
  have hS : va_S A s.heap s.heap [] := va_S.rf
  have hl := lv_entry ([.ref (a 0)]) (n := 1) (Nat.le_of_ble_eq_true rfl)
  rw [lg_entry_eq]
  generalize (lg_sl ([.ref (a 0)]) ++ List.replicate (1 - (lg_sl ([.ref (a 0)])).length) Slot.unset).toArray = ls at hl ⊢
  have hl : lv_has ls 1 [(0, .ref (a 0))] := hl
  refine lv_aload_n hx hb dX1_night_0 rfl (lv_at hl 0 rfl) ?_
  refine lv_aload_n hx hb dX1_night_1 rfl (lv_at hl 0 rfl) ?_
  refine mg_nt hC hK hP dX1_night_2 ?_
  refine k_X1_told hC hK hP hD hS hA hl.1 ⟨Nat.le_of_ble_eq_true rfl, Nat.le_of_ble_eq_true rfl⟩ ⟨Nat.zero_le _, Nat.zero_le _⟩ (Nat.le_of_ble_eq_true rfl)   dX1_night_5 (fun H locs hP hD hS => ?_)
  exact W.iret (v := nt) hx hb hr (fun t ht hW => ⟨⟨nt, (), rfl, rfl, by rw [ht]; exact hP, va_K.moved hW.alike hK, hD⟩, hS.F ht⟩) hS.2.2 dX1_night_8
set_option maxHeartbeats 4000000 in
set_option maxRecDepth 100000 in
theorem c_X1_persons (l : Launch) (sz : Nat) {D : va_G} {z : ClassId × ClassId} {a : Nat → Nat} {th : Int32} {n w : Nat} {gn lk pu fa he nv of mp mi : Nat → Int32} {k : Nat} {nt fu re : Int32}  : Met l yX1_persons (ws_ yX1_persons cX1_persons 1 (some .int)) ({ frames := 1, cells := 0, slots := 0, locals := 21 } : Room) (va_Pc [.ref (a 0)] (fun U => U.heap.size = sz ∧ mI D z a th n w gn lk pu fa he nv of mp mi k nt fu re U ∧ va_D (fun _ => True) (mW z a th n w gn lk pu fa he nv of mp mi k nt fu re))) (va_Qi (fun (r : Int32) (_ : Unit) => r = nI n) (fun _ t9 => va_P D vwCl (mW z a 0 n w gn lk pu fa he nv of mp mi k nt fu re) t9.heap ∧ kK D z t9 ∧ va_D (va_A (mW z a th n w gn lk pu fa he nv of mp mi k nt fu re) sz) (mW z a 0 n w gn lk pu fa he nv of mp mi k nt fu re)) (va_A (mW z a th n w gn lk pu fa he nv of mp mi k nt fu re) sz)) 0 0 (va_A (mW z a th n w gn lk pu fa he nv of mp mi k nt fu re) sz) := by
  refine Met.ofW (cc := cX1_persons) (maxL := 1) (ret := (some .int)) (by decide) rfl ?_
  intro p e s m args below meth c s₁ B hml hv
  obtain ⟨rfl, hsz, ⟨hP, hK⟩, hD0⟩ := hv
  have hx := B.exec
  have hb := B.bytes
  have hr := B.returns
  have hts := atoms_spec (ws := ws_ yX1_persons cX1_persons 1 (some .int)) B.pre
  have hts : ∀ w ∈ lw_all, w.before _ s = true := fun w h => hts w (List.mem_cons_of_mem _ h)
  have hown : s.vm.findClass RX1 = some m.cls := findClass_of_methodNamed B.named
  have hlocks := B.notSynchronized
  have hC : CallFix p m c cX1_persons 1 s _ lw_all RX1 := ⟨hx, hb, hml, hown, hts⟩
  subst hsz
  have hD := hD0.self (sz := s.heap.size)
  generalize hAe : va_A (mW z a th n w gn lk pu fa he nv of mp mi k nt fu re) s.heap.size = A at hD ⊢
  have hA : ∀ q : Nat, s.heap.size ≤ q → A q := fun q h => by rw [← hAe]; exact Or.inr h
  have hS : va_S A s.heap s.heap [] := va_S.rf
  have hl := lv_entry ([.ref (a 0)]) (n := 1) (Nat.le_of_ble_eq_true rfl)
  rw [lg_entry_eq]
  generalize (lg_sl ([.ref (a 0)]) ++ List.replicate (1 - (lg_sl ([.ref (a 0)])).length) Slot.unset).toArray = ls at hl ⊢
  have hl : lv_has ls 1 [(0, .ref (a 0))] := hl
  refine lv_aload_n hx hb dX1_persons_0 rfl (lv_at hl 0 rfl) ?_
  refine lv_aload_n hx hb dX1_persons_1 rfl (lv_at hl 0 rfl) ?_
  refine mg_n hC hK hP dX1_persons_2 ?_
  refine k_X1_told hC hK hP hD hS hA hl.1 ⟨Nat.le_of_ble_eq_true rfl, Nat.le_of_ble_eq_true rfl⟩ ⟨Nat.zero_le _, Nat.zero_le _⟩ (Nat.le_of_ble_eq_true rfl)   dX1_persons_5 (fun H locs hP hD hS => ?_)
  exact W.iret (v := (nI n)) hx hb hr (fun t ht hW => ⟨⟨(nI n), (), rfl, rfl, by rw [ht]; exact hP, va_K.moved hW.alike hK, hD⟩, hS.F ht⟩) hS.2.2 dX1_persons_8
set_option maxHeartbeats 4000000 in
set_option maxRecDepth 100000 in
theorem c_X1_alive (l : Launch) (sz : Nat) {D : va_G} {z : ClassId × ClassId} {a : Nat → Nat} {th : Int32} {n w : Nat} {gn lk pu fa he nv of mp mi : Nat → Int32} {k : Nat} {nt fu re : Int32} (hn : n ≤ 10) : Met l yX1_alive (ws_ yX1_alive cX1_alive 1 (some .int)) ({ frames := 1, cells := 0, slots := 0, locals := 22 } : Room) (va_Pc [.ref (a 0)] (fun U => U.heap.size = sz ∧ mI D z a th n w gn lk pu fa he nv of mp mi k nt fu re U ∧ va_D (fun _ => True) (mW z a th n w gn lk pu fa he nv of mp mi k nt fu re))) (va_Qi (fun (r : Int32) (_ : Unit) => r = mq_liv gn n) (fun _ t9 => va_P D vwCl (mW z a 0 n w gn lk pu fa he nv of mp mi k nt fu re) t9.heap ∧ kK D z t9 ∧ va_D (va_A (mW z a th n w gn lk pu fa he nv of mp mi k nt fu re) sz) (mW z a 0 n w gn lk pu fa he nv of mp mi k nt fu re)) (va_A (mW z a th n w gn lk pu fa he nv of mp mi k nt fu re) sz)) 0 0 (va_A (mW z a th n w gn lk pu fa he nv of mp mi k nt fu re) sz) := by
  refine Met.ofW (cc := cX1_alive) (maxL := 1) (ret := (some .int)) (by decide) rfl ?_
  intro p e s m args below meth c s₁ B hml hv
  obtain ⟨rfl, hsz, ⟨hP, hK⟩, hD0⟩ := hv
  have hx := B.exec
  have hb := B.bytes
  have hr := B.returns
  have hts := atoms_spec (ws := ws_ yX1_alive cX1_alive 1 (some .int)) B.pre
  have hts : ∀ w ∈ lw_all, w.before _ s = true := fun w h => hts w (List.mem_cons_of_mem _ h)
  have hown : s.vm.findClass RX1 = some m.cls := findClass_of_methodNamed B.named
  have hlocks := B.notSynchronized
  have hC : CallFix p m c cX1_alive 1 s _ lw_all RX1 := ⟨hx, hb, hml, hown, hts⟩
  subst hsz
  have hD := hD0.self (sz := s.heap.size)
  generalize hAe : va_A (mW z a th n w gn lk pu fa he nv of mp mi k nt fu re) s.heap.size = A at hD ⊢
  have hA : ∀ q : Nat, s.heap.size ≤ q → A q := fun q h => by rw [← hAe]; exact Or.inr h
  have hS : va_S A s.heap s.heap [] := va_S.rf
  have hl := lv_entry ([.ref (a 0)]) (n := 1) (Nat.le_of_ble_eq_true rfl)
  rw [lg_entry_eq]
  generalize (lg_sl ([.ref (a 0)]) ++ List.replicate (1 - (lg_sl ([.ref (a 0)])).length) Slot.unset).toArray = ls at hl ⊢
  have hl : lv_has ls 1 [(0, .ref (a 0))] := hl
  refine lv_aload_n hx hb dX1_alive_0 rfl (lv_at hl 0 rfl) ?_
  refine lv_aload_n hx hb dX1_alive_1 rfl (lv_at hl 0 rfl) ?_
  refine k_X1_living hC hK hP hl.1 ⟨Nat.le_of_ble_eq_true rfl, Nat.le_of_ble_eq_true rfl⟩ ⟨Nat.zero_le _, Nat.zero_le _⟩ (Nat.le_of_ble_eq_true rfl)  (by first | assumption | omega) dX1_alive_2 ?_
  refine k_X1_told hC hK hP hD hS hA hl.1 ⟨Nat.le_of_ble_eq_true rfl, Nat.le_of_ble_eq_true rfl⟩ ⟨Nat.zero_le _, Nat.zero_le _⟩ (Nat.le_of_ble_eq_true rfl)   dX1_alive_5 (fun H locs hP hD hS => ?_)
  exact W.iret (v := (mq_liv gn n)) hx hb hr (fun t ht hW => ⟨⟨(mq_liv gn n), (), rfl, rfl, by rw [ht]; exact hP, va_K.moved hW.alike hK, hD⟩, hS.F ht⟩) hS.2.2 dX1_alive_8
set_option maxHeartbeats 4000000 in
set_option maxRecDepth 100000 in
theorem c_X1_witnesses (l : Launch) (sz : Nat) {D : va_G} {z : ClassId × ClassId} {a : Nat → Nat} {th : Int32} {n w : Nat} {gn lk pu fa he nv of mp mi : Nat → Int32} {k : Nat} {nt fu re : Int32}  : Met l yX1_witnesses (ws_ yX1_witnesses cX1_witnesses 1 (some .int)) ({ frames := 1, cells := 0, slots := 0, locals := 21 } : Room) (va_Pc [.ref (a 0)] (fun U => U.heap.size = sz ∧ mI D z a th n w gn lk pu fa he nv of mp mi k nt fu re U ∧ va_D (fun _ => True) (mW z a th n w gn lk pu fa he nv of mp mi k nt fu re))) (va_Qi (fun (r : Int32) (_ : Unit) => r = nI w) (fun _ t9 => va_P D vwCl (mW z a 0 n w gn lk pu fa he nv of mp mi k nt fu re) t9.heap ∧ kK D z t9 ∧ va_D (va_A (mW z a th n w gn lk pu fa he nv of mp mi k nt fu re) sz) (mW z a 0 n w gn lk pu fa he nv of mp mi k nt fu re)) (va_A (mW z a th n w gn lk pu fa he nv of mp mi k nt fu re) sz)) 0 0 (va_A (mW z a th n w gn lk pu fa he nv of mp mi k nt fu re) sz) := by
  refine Met.ofW (cc := cX1_witnesses) (maxL := 1) (ret := (some .int)) (by decide) rfl ?_
  intro p e s m args below meth c s₁ B hml hv
  obtain ⟨rfl, hsz, ⟨hP, hK⟩, hD0⟩ := hv
  have hx := B.exec
  have hb := B.bytes
  have hr := B.returns
  have hts := atoms_spec (ws := ws_ yX1_witnesses cX1_witnesses 1 (some .int)) B.pre
  have hts : ∀ w ∈ lw_all, w.before _ s = true := fun w h => hts w (List.mem_cons_of_mem _ h)
  have hown : s.vm.findClass RX1 = some m.cls := findClass_of_methodNamed B.named
  have hlocks := B.notSynchronized
  have hC : CallFix p m c cX1_witnesses 1 s _ lw_all RX1 := ⟨hx, hb, hml, hown, hts⟩
  subst hsz
  have hD := hD0.self (sz := s.heap.size)
  generalize hAe : va_A (mW z a th n w gn lk pu fa he nv of mp mi k nt fu re) s.heap.size = A at hD ⊢
  have hA : ∀ q : Nat, s.heap.size ≤ q → A q := fun q h => by rw [← hAe]; exact Or.inr h
  have hS : va_S A s.heap s.heap [] := va_S.rf
  have hl := lv_entry ([.ref (a 0)]) (n := 1) (Nat.le_of_ble_eq_true rfl)
  rw [lg_entry_eq]
  generalize (lg_sl ([.ref (a 0)]) ++ List.replicate (1 - (lg_sl ([.ref (a 0)])).length) Slot.unset).toArray = ls at hl ⊢
  have hl : lv_has ls 1 [(0, .ref (a 0))] := hl
  refine lv_aload_n hx hb dX1_witnesses_0 rfl (lv_at hl 0 rfl) ?_
  refine lv_aload_n hx hb dX1_witnesses_1 rfl (lv_at hl 0 rfl) ?_
  refine mg_w hC hK hP dX1_witnesses_2 ?_
  refine k_X1_told hC hK hP hD hS hA hl.1 ⟨Nat.le_of_ble_eq_true rfl, Nat.le_of_ble_eq_true rfl⟩ ⟨Nat.zero_le _, Nat.zero_le _⟩ (Nat.le_of_ble_eq_true rfl)   dX1_witnesses_5 (fun H locs hP hD hS => ?_)
  exact W.iret (v := (nI w)) hx hb hr (fun t ht hW => ⟨⟨(nI w), (), rfl, rfl, by rw [ht]; exact hP, va_K.moved hW.alike hK, hD⟩, hS.F ht⟩) hS.2.2 dX1_witnesses_8
set_option maxHeartbeats 4000000 in
set_option maxRecDepth 100000 in
theorem c_X1_shaken (l : Launch) (sz : Nat) {D : va_G} {z : ClassId × ClassId} {a : Nat → Nat} {th : Int32} {n w : Nat} {gn lk pu fa he nv of mp mi : Nat → Int32} {k : Nat} {nt fu re : Int32} (hw : w ≤ 6) : Met l yX1_shaken (ws_ yX1_shaken cX1_shaken 1 (some .int)) ({ frames := 1, cells := 0, slots := 0, locals := 22 } : Room) (va_Pc [.ref (a 0)] (fun U => U.heap.size = sz ∧ mI D z a th n w gn lk pu fa he nv of mp mi k nt fu re U ∧ va_D (fun _ => True) (mW z a th n w gn lk pu fa he nv of mp mi k nt fu re))) (va_Qi (fun (r : Int32) (_ : Unit) => r = sp_shk nv w) (fun _ t9 => va_P D vwCl (mW z a 0 n w gn lk pu fa he nv of mp mi k nt fu re) t9.heap ∧ kK D z t9 ∧ va_D (va_A (mW z a th n w gn lk pu fa he nv of mp mi k nt fu re) sz) (mW z a 0 n w gn lk pu fa he nv of mp mi k nt fu re)) (va_A (mW z a th n w gn lk pu fa he nv of mp mi k nt fu re) sz)) 0 0 (va_A (mW z a th n w gn lk pu fa he nv of mp mi k nt fu re) sz) := by
  refine Met.ofW (cc := cX1_shaken) (maxL := 1) (ret := (some .int)) (by decide) rfl ?_
  intro p e s m args below meth c s₁ B hml hv
  obtain ⟨rfl, hsz, ⟨hP, hK⟩, hD0⟩ := hv
  have hx := B.exec
  have hb := B.bytes
  have hr := B.returns
  have hts := atoms_spec (ws := ws_ yX1_shaken cX1_shaken 1 (some .int)) B.pre
  have hts : ∀ w ∈ lw_all, w.before _ s = true := fun w h => hts w (List.mem_cons_of_mem _ h)
  have hown : s.vm.findClass RX1 = some m.cls := findClass_of_methodNamed B.named
  have hlocks := B.notSynchronized
  have hC : CallFix p m c cX1_shaken 1 s _ lw_all RX1 := ⟨hx, hb, hml, hown, hts⟩
  subst hsz
  have hD := hD0.self (sz := s.heap.size)
  generalize hAe : va_A (mW z a th n w gn lk pu fa he nv of mp mi k nt fu re) s.heap.size = A at hD ⊢
  have hA : ∀ q : Nat, s.heap.size ≤ q → A q := fun q h => by rw [← hAe]; exact Or.inr h
  have hS : va_S A s.heap s.heap [] := va_S.rf
  have hl := lv_entry ([.ref (a 0)]) (n := 1) (Nat.le_of_ble_eq_true rfl)
  rw [lg_entry_eq]
  generalize (lg_sl ([.ref (a 0)]) ++ List.replicate (1 - (lg_sl ([.ref (a 0)])).length) Slot.unset).toArray = ls at hl ⊢
  have hl : lv_has ls 1 [(0, .ref (a 0))] := hl
  refine lv_aload_n hx hb dX1_shaken_0 rfl (lv_at hl 0 rfl) ?_
  refine lv_aload_n hx hb dX1_shaken_1 rfl (lv_at hl 0 rfl) ?_
  refine k_X1_shakenNow hC hK hP hl.1 ⟨Nat.le_of_ble_eq_true rfl, Nat.le_of_ble_eq_true rfl⟩ ⟨Nat.zero_le _, Nat.zero_le _⟩ (Nat.le_of_ble_eq_true rfl)  (by first | assumption | omega) dX1_shaken_2 ?_
  refine k_X1_told hC hK hP hD hS hA hl.1 ⟨Nat.le_of_ble_eq_true rfl, Nat.le_of_ble_eq_true rfl⟩ ⟨Nat.zero_le _, Nat.zero_le _⟩ (Nat.le_of_ble_eq_true rfl)   dX1_shaken_5 (fun H locs hP hD hS => ?_)
  exact W.iret (v := (sp_shk nv w)) hx hb hr (fun t ht hW => ⟨⟨(sp_shk nv w), (), rfl, rfl, by rw [ht]; exact hP, va_K.moved hW.alike hK, hD⟩, hS.F ht⟩) hS.2.2 dX1_shaken_8
set_option maxHeartbeats 4000000 in
set_option maxRecDepth 100000 in
theorem c_X1_fund (l : Launch) (sz : Nat) {D : va_G} {z : ClassId × ClassId} {a : Nat → Nat} {th : Int32} {n w : Nat} {gn lk pu fa he nv of mp mi : Nat → Int32} {k : Nat} {nt fu re : Int32}  : Met l yX1_fund (ws_ yX1_fund cX1_fund 1 (some .int)) ({ frames := 1, cells := 0, slots := 0, locals := 21 } : Room) (va_Pc [.ref (a 0)] (fun U => U.heap.size = sz ∧ mI D z a th n w gn lk pu fa he nv of mp mi k nt fu re U ∧ va_D (fun _ => True) (mW z a th n w gn lk pu fa he nv of mp mi k nt fu re))) (va_Qi (fun (r : Int32) (_ : Unit) => r = fu) (fun _ t9 => va_P D vwCl (mW z a 0 n w gn lk pu fa he nv of mp mi k nt fu re) t9.heap ∧ kK D z t9 ∧ va_D (va_A (mW z a th n w gn lk pu fa he nv of mp mi k nt fu re) sz) (mW z a 0 n w gn lk pu fa he nv of mp mi k nt fu re)) (va_A (mW z a th n w gn lk pu fa he nv of mp mi k nt fu re) sz)) 0 0 (va_A (mW z a th n w gn lk pu fa he nv of mp mi k nt fu re) sz) := by
  refine Met.ofW (cc := cX1_fund) (maxL := 1) (ret := (some .int)) (by decide) rfl ?_
  intro p e s m args below meth c s₁ B hml hv
  obtain ⟨rfl, hsz, ⟨hP, hK⟩, hD0⟩ := hv
  have hx := B.exec
  have hb := B.bytes
  have hr := B.returns
  have hts := atoms_spec (ws := ws_ yX1_fund cX1_fund 1 (some .int)) B.pre
  have hts : ∀ w ∈ lw_all, w.before _ s = true := fun w h => hts w (List.mem_cons_of_mem _ h)
  have hown : s.vm.findClass RX1 = some m.cls := findClass_of_methodNamed B.named
  have hlocks := B.notSynchronized
  have hC : CallFix p m c cX1_fund 1 s _ lw_all RX1 := ⟨hx, hb, hml, hown, hts⟩
  subst hsz
  have hD := hD0.self (sz := s.heap.size)
  generalize hAe : va_A (mW z a th n w gn lk pu fa he nv of mp mi k nt fu re) s.heap.size = A at hD ⊢
  have hA : ∀ q : Nat, s.heap.size ≤ q → A q := fun q h => by rw [← hAe]; exact Or.inr h
  have hS : va_S A s.heap s.heap [] := va_S.rf
  have hl := lv_entry ([.ref (a 0)]) (n := 1) (Nat.le_of_ble_eq_true rfl)
  rw [lg_entry_eq]
  generalize (lg_sl ([.ref (a 0)]) ++ List.replicate (1 - (lg_sl ([.ref (a 0)])).length) Slot.unset).toArray = ls at hl ⊢
  have hl : lv_has ls 1 [(0, .ref (a 0))] := hl
  refine lv_aload_n hx hb dX1_fund_0 rfl (lv_at hl 0 rfl) ?_
  refine lv_aload_n hx hb dX1_fund_1 rfl (lv_at hl 0 rfl) ?_
  refine mg_fu hC hK hP dX1_fund_2 ?_
  refine k_X1_told hC hK hP hD hS hA hl.1 ⟨Nat.le_of_ble_eq_true rfl, Nat.le_of_ble_eq_true rfl⟩ ⟨Nat.zero_le _, Nat.zero_le _⟩ (Nat.le_of_ble_eq_true rfl)   dX1_fund_5 (fun H locs hP hD hS => ?_)
  exact W.iret (v := fu) hx hb hr (fun t ht hW => ⟨⟨fu, (), rfl, rfl, by rw [ht]; exact hP, va_K.moved hW.alike hK, hD⟩, hS.F ht⟩) hS.2.2 dX1_fund_8
set_option maxHeartbeats 4000000 in
set_option maxRecDepth 100000 in
theorem c_X1_refunded (l : Launch) (sz : Nat) {D : va_G} {z : ClassId × ClassId} {a : Nat → Nat} {th : Int32} {n w : Nat} {gn lk pu fa he nv of mp mi : Nat → Int32} {k : Nat} {nt fu re : Int32}  : Met l yX1_refunded (ws_ yX1_refunded cX1_refunded 1 (some .int)) ({ frames := 1, cells := 0, slots := 0, locals := 21 } : Room) (va_Pc [.ref (a 0)] (fun U => U.heap.size = sz ∧ mI D z a th n w gn lk pu fa he nv of mp mi k nt fu re U ∧ va_D (fun _ => True) (mW z a th n w gn lk pu fa he nv of mp mi k nt fu re))) (va_Qi (fun (r : Int32) (_ : Unit) => r = re) (fun _ t9 => va_P D vwCl (mW z a 0 n w gn lk pu fa he nv of mp mi k nt fu re) t9.heap ∧ kK D z t9 ∧ va_D (va_A (mW z a th n w gn lk pu fa he nv of mp mi k nt fu re) sz) (mW z a 0 n w gn lk pu fa he nv of mp mi k nt fu re)) (va_A (mW z a th n w gn lk pu fa he nv of mp mi k nt fu re) sz)) 0 0 (va_A (mW z a th n w gn lk pu fa he nv of mp mi k nt fu re) sz) := by
  refine Met.ofW (cc := cX1_refunded) (maxL := 1) (ret := (some .int)) (by decide) rfl ?_
  intro p e s m args below meth c s₁ B hml hv
  obtain ⟨rfl, hsz, ⟨hP, hK⟩, hD0⟩ := hv
  have hx := B.exec
  have hb := B.bytes
  have hr := B.returns
  have hts := atoms_spec (ws := ws_ yX1_refunded cX1_refunded 1 (some .int)) B.pre
  have hts : ∀ w ∈ lw_all, w.before _ s = true := fun w h => hts w (List.mem_cons_of_mem _ h)
  have hown : s.vm.findClass RX1 = some m.cls := findClass_of_methodNamed B.named
  have hlocks := B.notSynchronized
  have hC : CallFix p m c cX1_refunded 1 s _ lw_all RX1 := ⟨hx, hb, hml, hown, hts⟩
  subst hsz
  have hD := hD0.self (sz := s.heap.size)
  generalize hAe : va_A (mW z a th n w gn lk pu fa he nv of mp mi k nt fu re) s.heap.size = A at hD ⊢
  have hA : ∀ q : Nat, s.heap.size ≤ q → A q := fun q h => by rw [← hAe]; exact Or.inr h
  have hS : va_S A s.heap s.heap [] := va_S.rf
  have hl := lv_entry ([.ref (a 0)]) (n := 1) (Nat.le_of_ble_eq_true rfl)
  rw [lg_entry_eq]
  generalize (lg_sl ([.ref (a 0)]) ++ List.replicate (1 - (lg_sl ([.ref (a 0)])).length) Slot.unset).toArray = ls at hl ⊢
  have hl : lv_has ls 1 [(0, .ref (a 0))] := hl
  refine lv_aload_n hx hb dX1_refunded_0 rfl (lv_at hl 0 rfl) ?_
  refine lv_aload_n hx hb dX1_refunded_1 rfl (lv_at hl 0 rfl) ?_
  refine mg_re hC hK hP dX1_refunded_2 ?_
  refine k_X1_told hC hK hP hD hS hA hl.1 ⟨Nat.le_of_ble_eq_true rfl, Nat.le_of_ble_eq_true rfl⟩ ⟨Nat.zero_le _, Nat.zero_le _⟩ (Nat.le_of_ble_eq_true rfl)   dX1_refunded_5 (fun H locs hP hD hS => ?_)
  exact W.iret (v := re) hx hb hr (fun t ht hW => ⟨⟨re, (), rfl, rfl, by rw [ht]; exact hP, va_K.moved hW.alike hK, hD⟩, hS.F ht⟩) hS.2.2 dX1_refunded_8
set_option maxHeartbeats 4000000 in
set_option maxRecDepth 100000 in
theorem c_X1_misses (l : Launch) (sz : Nat) {D : va_G} {z : ClassId × ClassId} {a : Nat → Nat} {th : Int32} {n w : Nat} {gn lk pu fa he nv of mp mi : Nat → Int32} {k : Nat} {nt fu re : Int32}  : Met l yX1_misses (ws_ yX1_misses cX1_misses 1 (some .int)) ({ frames := 1, cells := 0, slots := 0, locals := 21 } : Room) (va_Pc [.ref (a 0)] (fun U => U.heap.size = sz ∧ mI D z a th n w gn lk pu fa he nv of mp mi k nt fu re U ∧ va_D (fun _ => True) (mW z a th n w gn lk pu fa he nv of mp mi k nt fu re))) (va_Qi (fun (r : Int32) (_ : Unit) => r = nI k) (fun _ t9 => va_P D vwCl (mW z a 0 n w gn lk pu fa he nv of mp mi k nt fu re) t9.heap ∧ kK D z t9 ∧ va_D (va_A (mW z a th n w gn lk pu fa he nv of mp mi k nt fu re) sz) (mW z a 0 n w gn lk pu fa he nv of mp mi k nt fu re)) (va_A (mW z a th n w gn lk pu fa he nv of mp mi k nt fu re) sz)) 0 0 (va_A (mW z a th n w gn lk pu fa he nv of mp mi k nt fu re) sz) := by
  refine Met.ofW (cc := cX1_misses) (maxL := 1) (ret := (some .int)) (by decide) rfl ?_
  intro p e s m args below meth c s₁ B hml hv
  obtain ⟨rfl, hsz, ⟨hP, hK⟩, hD0⟩ := hv
  have hx := B.exec
  have hb := B.bytes
  have hr := B.returns
  have hts := atoms_spec (ws := ws_ yX1_misses cX1_misses 1 (some .int)) B.pre
  have hts : ∀ w ∈ lw_all, w.before _ s = true := fun w h => hts w (List.mem_cons_of_mem _ h)
  have hown : s.vm.findClass RX1 = some m.cls := findClass_of_methodNamed B.named
  have hlocks := B.notSynchronized
  have hC : CallFix p m c cX1_misses 1 s _ lw_all RX1 := ⟨hx, hb, hml, hown, hts⟩
  subst hsz
  have hD := hD0.self (sz := s.heap.size)
  generalize hAe : va_A (mW z a th n w gn lk pu fa he nv of mp mi k nt fu re) s.heap.size = A at hD ⊢
  have hA : ∀ q : Nat, s.heap.size ≤ q → A q := fun q h => by rw [← hAe]; exact Or.inr h
  have hS : va_S A s.heap s.heap [] := va_S.rf
  have hl := lv_entry ([.ref (a 0)]) (n := 1) (Nat.le_of_ble_eq_true rfl)
  rw [lg_entry_eq]
  generalize (lg_sl ([.ref (a 0)]) ++ List.replicate (1 - (lg_sl ([.ref (a 0)])).length) Slot.unset).toArray = ls at hl ⊢
  have hl : lv_has ls 1 [(0, .ref (a 0))] := hl
  refine lv_aload_n hx hb dX1_misses_0 rfl (lv_at hl 0 rfl) ?_
  refine lv_aload_n hx hb dX1_misses_1 rfl (lv_at hl 0 rfl) ?_
  refine mg_k hC hK hP dX1_misses_2 ?_
  refine k_X1_told hC hK hP hD hS hA hl.1 ⟨Nat.le_of_ble_eq_true rfl, Nat.le_of_ble_eq_true rfl⟩ ⟨Nat.zero_le _, Nat.zero_le _⟩ (Nat.le_of_ble_eq_true rfl)   dX1_misses_5 (fun H locs hP hD hS => ?_)
  exact W.iret (v := (nI k)) hx hb hr (fun t ht hW => ⟨⟨(nI k), (), rfl, rfl, by rw [ht]; exact hP, va_K.moved hW.alike hK, hD⟩, hS.F ht⟩) hS.2.2 dX1_misses_8
set_option maxHeartbeats 4000000 in
set_option maxRecDepth 100000 in
theorem c_X1_certified (l : Launch) (sz : Nat) {D : va_G} {z : ClassId × ClassId} {a : Nat → Nat} {th : Int32} {n w : Nat} {gn lk pu fa he nv of mp mi : Nat → Int32} {k : Nat} {nt fu re : Int32} (hk : k ≤ 60) : Met l yX1_certified (ws_ yX1_certified cX1_certified 1 (some .int)) ({ frames := 1, cells := 0, slots := 0, locals := 22 } : Room) (va_Pc [.ref (a 0)] (fun U => U.heap.size = sz ∧ mI D z a th n w gn lk pu fa he nv of mp mi k nt fu re U ∧ va_D (fun _ => True) (mW z a th n w gn lk pu fa he nv of mp mi k nt fu re))) (va_Qi (fun (r : Int32) (_ : Unit) => r = sp_cert mi k) (fun _ t9 => va_P D vwCl (mW z a 0 n w gn lk pu fa he nv of mp mi k nt fu re) t9.heap ∧ kK D z t9 ∧ va_D (va_A (mW z a th n w gn lk pu fa he nv of mp mi k nt fu re) sz) (mW z a 0 n w gn lk pu fa he nv of mp mi k nt fu re)) (va_A (mW z a th n w gn lk pu fa he nv of mp mi k nt fu re) sz)) 0 0 (va_A (mW z a th n w gn lk pu fa he nv of mp mi k nt fu re) sz) := by
  refine Met.ofW (cc := cX1_certified) (maxL := 1) (ret := (some .int)) (by decide) rfl ?_
  intro p e s m args below meth c s₁ B hml hv
  obtain ⟨rfl, hsz, ⟨hP, hK⟩, hD0⟩ := hv
  have hx := B.exec
  have hb := B.bytes
  have hr := B.returns
  have hts := atoms_spec (ws := ws_ yX1_certified cX1_certified 1 (some .int)) B.pre
  have hts : ∀ w ∈ lw_all, w.before _ s = true := fun w h => hts w (List.mem_cons_of_mem _ h)
  have hown : s.vm.findClass RX1 = some m.cls := findClass_of_methodNamed B.named
  have hlocks := B.notSynchronized
  have hC : CallFix p m c cX1_certified 1 s _ lw_all RX1 := ⟨hx, hb, hml, hown, hts⟩
  subst hsz
  have hD := hD0.self (sz := s.heap.size)
  generalize hAe : va_A (mW z a th n w gn lk pu fa he nv of mp mi k nt fu re) s.heap.size = A at hD ⊢
  have hA : ∀ q : Nat, s.heap.size ≤ q → A q := fun q h => by rw [← hAe]; exact Or.inr h
  have hS : va_S A s.heap s.heap [] := va_S.rf
  have hl := lv_entry ([.ref (a 0)]) (n := 1) (Nat.le_of_ble_eq_true rfl)
  rw [lg_entry_eq]
  generalize (lg_sl ([.ref (a 0)]) ++ List.replicate (1 - (lg_sl ([.ref (a 0)])).length) Slot.unset).toArray = ls at hl ⊢
  have hl : lv_has ls 1 [(0, .ref (a 0))] := hl
  refine lv_aload_n hx hb dX1_certified_0 rfl (lv_at hl 0 rfl) ?_
  refine lv_aload_n hx hb dX1_certified_1 rfl (lv_at hl 0 rfl) ?_
  refine k_X1_sealed hC hK hP hl.1 ⟨Nat.le_of_ble_eq_true rfl, Nat.le_of_ble_eq_true rfl⟩ ⟨Nat.zero_le _, Nat.zero_le _⟩ (Nat.le_of_ble_eq_true rfl)  (by first | assumption | omega) dX1_certified_2 ?_
  refine k_X1_told hC hK hP hD hS hA hl.1 ⟨Nat.le_of_ble_eq_true rfl, Nat.le_of_ble_eq_true rfl⟩ ⟨Nat.zero_le _, Nat.zero_le _⟩ (Nat.le_of_ble_eq_true rfl)   dX1_certified_5 (fun H locs hP hD hS => ?_)
  exact W.iret (v := (sp_cert mi k)) hx hb hr (fun t ht hW => ⟨⟨(sp_cert mi k), (), rfl, rfl, by rw [ht]; exact hP, va_K.moved hW.alike hK, hD⟩, hS.F ht⟩) hS.2.2 dX1_certified_8
set_option maxHeartbeats 4000000 in
set_option maxRecDepth 100000 in
theorem c_X1_nightsUntilCalm (l : Launch) (sz : Nat) {D : va_G} {z : ClassId × ClassId} {a : Nat → Nat} {th : Int32} {n w : Nat} {gn lk pu fa he nv of mp mi : Nat → Int32} {k : Nat} {nt fu re : Int32} (hw : w ≤ 6) : Met l yX1_nightsUntilCalm (ws_ yX1_nightsUntilCalm cX1_nightsUntilCalm 1 (some .int)) ({ frames := 2, cells := 0, slots := 0, locals := 44 } : Room) (va_Pc [.ref (a 0)] (fun U => U.heap.size = sz ∧ mI D z a th n w gn lk pu fa he nv of mp mi k nt fu re U ∧ va_D (fun _ => True) (mW z a th n w gn lk pu fa he nv of mp mi k nt fu re))) (va_Qi (fun (r : Int32) (_ : Unit) => r = mq_ucl of nv w) (fun _ t9 => va_P D vwCl (mW z a 0 n w gn lk pu fa he nv of mp mi k nt fu re) t9.heap ∧ kK D z t9 ∧ va_D (va_A (mW z a th n w gn lk pu fa he nv of mp mi k nt fu re) sz) (mW z a 0 n w gn lk pu fa he nv of mp mi k nt fu re)) (va_A (mW z a th n w gn lk pu fa he nv of mp mi k nt fu re) sz)) 0 0 (va_A (mW z a th n w gn lk pu fa he nv of mp mi k nt fu re) sz) := by
  refine Met.ofW (cc := cX1_nightsUntilCalm) (maxL := 1) (ret := (some .int)) (by decide) rfl ?_
  intro p e s m args below meth c s₁ B hml hv
  obtain ⟨rfl, hsz, ⟨hP, hK⟩, hD0⟩ := hv
  have hx := B.exec
  have hb := B.bytes
  have hr := B.returns
  have hts := atoms_spec (ws := ws_ yX1_nightsUntilCalm cX1_nightsUntilCalm 1 (some .int)) B.pre
  have hts : ∀ w ∈ lw_all, w.before _ s = true := fun w h => hts w (List.mem_cons_of_mem _ h)
  have hown : s.vm.findClass RX1 = some m.cls := findClass_of_methodNamed B.named
  have hlocks := B.notSynchronized
  have hC : CallFix p m c cX1_nightsUntilCalm 1 s _ lw_all RX1 := ⟨hx, hb, hml, hown, hts⟩
  subst hsz
  have hD := hD0.self (sz := s.heap.size)
  generalize hAe : va_A (mW z a th n w gn lk pu fa he nv of mp mi k nt fu re) s.heap.size = A at hD ⊢
  have hA : ∀ q : Nat, s.heap.size ≤ q → A q := fun q h => by rw [← hAe]; exact Or.inr h
  have hS : va_S A s.heap s.heap [] := va_S.rf
  have hl := lv_entry ([.ref (a 0)]) (n := 1) (Nat.le_of_ble_eq_true rfl)
  rw [lg_entry_eq]
  generalize (lg_sl ([.ref (a 0)]) ++ List.replicate (1 - (lg_sl ([.ref (a 0)])).length) Slot.unset).toArray = ls at hl ⊢
  have hl : lv_has ls 1 [(0, .ref (a 0))] := hl
  refine lv_aload_n hx hb dX1_nightsUntilCalm_0 rfl (lv_at hl 0 rfl) ?_
  refine lv_aload_n hx hb dX1_nightsUntilCalm_1 rfl (lv_at hl 0 rfl) ?_
  refine k_X1_untilCalm hC hK hP hl.1 ⟨Nat.le_of_ble_eq_true rfl, Nat.le_of_ble_eq_true rfl⟩ ⟨Nat.zero_le _, Nat.zero_le _⟩ (Nat.le_of_ble_eq_true rfl)  (by first | assumption | omega) dX1_nightsUntilCalm_2 ?_
  refine k_X1_told hC hK hP hD hS hA hl.1 ⟨Nat.le_of_ble_eq_true rfl, Nat.le_of_ble_eq_true rfl⟩ ⟨Nat.zero_le _, Nat.zero_le _⟩ (Nat.le_of_ble_eq_true rfl)   dX1_nightsUntilCalm_5 (fun H locs hP hD hS => ?_)
  exact W.iret (v := (mq_ucl of nv w)) hx hb hr (fun t ht hW => ⟨⟨(mq_ucl of nv w), (), rfl, rfl, by rw [ht]; exact hP, va_K.moved hW.alike hK, hD⟩, hS.F ht⟩) hS.2.2 dX1_nightsUntilCalm_8
set_option maxHeartbeats 4000000 in
set_option maxRecDepth 100000 in
theorem c_X1_steadiest (l : Launch) (sz : Nat) {D : va_G} {z : ClassId × ClassId} {a : Nat → Nat} {th : Int32} {n w : Nat} {gn lk pu fa he nv of mp mi : Nat → Int32} {k : Nat} {nt fu re : Int32} (hw : w ≤ 6) : Met l yX1_steadiest (ws_ yX1_steadiest cX1_steadiest 1 (some .int)) ({ frames := 1, cells := 0, slots := 0, locals := 22 } : Room) (va_Pc [.ref (a 0)] (fun U => U.heap.size = sz ∧ mI D z a th n w gn lk pu fa he nv of mp mi k nt fu re U ∧ va_D (fun _ => True) (mW z a th n w gn lk pu fa he nv of mp mi k nt fu re))) (va_Qi (fun (r : Int32) (_ : Unit) => r = mq_best of nv w) (fun _ t9 => va_P D vwCl (mW z a 0 n w gn lk pu fa he nv of mp mi k nt fu re) t9.heap ∧ kK D z t9 ∧ va_D (va_A (mW z a th n w gn lk pu fa he nv of mp mi k nt fu re) sz) (mW z a 0 n w gn lk pu fa he nv of mp mi k nt fu re)) (va_A (mW z a th n w gn lk pu fa he nv of mp mi k nt fu re) sz)) 0 0 (va_A (mW z a th n w gn lk pu fa he nv of mp mi k nt fu re) sz) := by
  refine Met.ofW (cc := cX1_steadiest) (maxL := 1) (ret := (some .int)) (by decide) rfl ?_
  intro p e s m args below meth c s₁ B hml hv
  obtain ⟨rfl, hsz, ⟨hP, hK⟩, hD0⟩ := hv
  have hx := B.exec
  have hb := B.bytes
  have hr := B.returns
  have hts := atoms_spec (ws := ws_ yX1_steadiest cX1_steadiest 1 (some .int)) B.pre
  have hts : ∀ w ∈ lw_all, w.before _ s = true := fun w h => hts w (List.mem_cons_of_mem _ h)
  have hown : s.vm.findClass RX1 = some m.cls := findClass_of_methodNamed B.named
  have hlocks := B.notSynchronized
  have hC : CallFix p m c cX1_steadiest 1 s _ lw_all RX1 := ⟨hx, hb, hml, hown, hts⟩
  subst hsz
  have hD := hD0.self (sz := s.heap.size)
  generalize hAe : va_A (mW z a th n w gn lk pu fa he nv of mp mi k nt fu re) s.heap.size = A at hD ⊢
  have hA : ∀ q : Nat, s.heap.size ≤ q → A q := fun q h => by rw [← hAe]; exact Or.inr h
  have hS : va_S A s.heap s.heap [] := va_S.rf
  have hl := lv_entry ([.ref (a 0)]) (n := 1) (Nat.le_of_ble_eq_true rfl)
  rw [lg_entry_eq]
  generalize (lg_sl ([.ref (a 0)]) ++ List.replicate (1 - (lg_sl ([.ref (a 0)])).length) Slot.unset).toArray = ls at hl ⊢
  have hl : lv_has ls 1 [(0, .ref (a 0))] := hl
  refine lv_aload_n hx hb dX1_steadiest_0 rfl (lv_at hl 0 rfl) ?_
  refine lv_aload_n hx hb dX1_steadiest_1 rfl (lv_at hl 0 rfl) ?_
  refine k_X1_steady hC hK hP hl.1 ⟨Nat.le_of_ble_eq_true rfl, Nat.le_of_ble_eq_true rfl⟩ ⟨Nat.zero_le _, Nat.zero_le _⟩ (Nat.le_of_ble_eq_true rfl)  (by first | assumption | omega) dX1_steadiest_2 ?_
  refine k_X1_told hC hK hP hD hS hA hl.1 ⟨Nat.le_of_ble_eq_true rfl, Nat.le_of_ble_eq_true rfl⟩ ⟨Nat.zero_le _, Nat.zero_le _⟩ (Nat.le_of_ble_eq_true rfl)   dX1_steadiest_5 (fun H locs hP hD hS => ?_)
  exact W.iret (v := (mq_best of nv w)) hx hb hr (fun t ht hW => ⟨⟨(mq_best of nv w), (), rfl, rfl, by rw [ht]; exact hP, va_K.moved hW.alike hK, hD⟩, hS.F ht⟩) hS.2.2 dX1_steadiest_8
set_option maxHeartbeats 4000000 in
set_option maxRecDepth 100000 in
theorem c_X1_luckiest (l : Launch) (sz : Nat) {D : va_G} {z : ClassId × ClassId} {a : Nat → Nat} {th : Int32} {n w : Nat} {gn lk pu fa he nv of mp mi : Nat → Int32} {k : Nat} {nt fu re : Int32} (hn : n ≤ 10) : Met l yX1_luckiest (ws_ yX1_luckiest cX1_luckiest 1 (some .int)) ({ frames := 1, cells := 0, slots := 0, locals := 22 } : Room) (va_Pc [.ref (a 0)] (fun U => U.heap.size = sz ∧ mI D z a th n w gn lk pu fa he nv of mp mi k nt fu re U ∧ va_D (fun _ => True) (mW z a th n w gn lk pu fa he nv of mp mi k nt fu re))) (va_Qi (fun (r : Int32) (_ : Unit) => r = mq_best gn lk n) (fun _ t9 => va_P D vwCl (mW z a 0 n w gn lk pu fa he nv of mp mi k nt fu re) t9.heap ∧ kK D z t9 ∧ va_D (va_A (mW z a th n w gn lk pu fa he nv of mp mi k nt fu re) sz) (mW z a 0 n w gn lk pu fa he nv of mp mi k nt fu re)) (va_A (mW z a th n w gn lk pu fa he nv of mp mi k nt fu re) sz)) 0 0 (va_A (mW z a th n w gn lk pu fa he nv of mp mi k nt fu re) sz) := by
  refine Met.ofW (cc := cX1_luckiest) (maxL := 1) (ret := (some .int)) (by decide) rfl ?_
  intro p e s m args below meth c s₁ B hml hv
  obtain ⟨rfl, hsz, ⟨hP, hK⟩, hD0⟩ := hv
  have hx := B.exec
  have hb := B.bytes
  have hr := B.returns
  have hts := atoms_spec (ws := ws_ yX1_luckiest cX1_luckiest 1 (some .int)) B.pre
  have hts : ∀ w ∈ lw_all, w.before _ s = true := fun w h => hts w (List.mem_cons_of_mem _ h)
  have hown : s.vm.findClass RX1 = some m.cls := findClass_of_methodNamed B.named
  have hlocks := B.notSynchronized
  have hC : CallFix p m c cX1_luckiest 1 s _ lw_all RX1 := ⟨hx, hb, hml, hown, hts⟩
  subst hsz
  have hD := hD0.self (sz := s.heap.size)
  generalize hAe : va_A (mW z a th n w gn lk pu fa he nv of mp mi k nt fu re) s.heap.size = A at hD ⊢
  have hA : ∀ q : Nat, s.heap.size ≤ q → A q := fun q h => by rw [← hAe]; exact Or.inr h
  have hS : va_S A s.heap s.heap [] := va_S.rf
  have hl := lv_entry ([.ref (a 0)]) (n := 1) (Nat.le_of_ble_eq_true rfl)
  rw [lg_entry_eq]
  generalize (lg_sl ([.ref (a 0)]) ++ List.replicate (1 - (lg_sl ([.ref (a 0)])).length) Slot.unset).toArray = ls at hl ⊢
  have hl : lv_has ls 1 [(0, .ref (a 0))] := hl
  refine lv_aload_n hx hb dX1_luckiest_0 rfl (lv_at hl 0 rfl) ?_
  refine lv_aload_n hx hb dX1_luckiest_1 rfl (lv_at hl 0 rfl) ?_
  refine k_X1_lucky hC hK hP hl.1 ⟨Nat.le_of_ble_eq_true rfl, Nat.le_of_ble_eq_true rfl⟩ ⟨Nat.zero_le _, Nat.zero_le _⟩ (Nat.le_of_ble_eq_true rfl)  (by first | assumption | omega) dX1_luckiest_2 ?_
  refine k_X1_told hC hK hP hD hS hA hl.1 ⟨Nat.le_of_ble_eq_true rfl, Nat.le_of_ble_eq_true rfl⟩ ⟨Nat.zero_le _, Nat.zero_le _⟩ (Nat.le_of_ble_eq_true rfl)   dX1_luckiest_5 (fun H locs hP hD hS => ?_)
  exact W.iret (v := (mq_best gn lk n)) hx hb hr (fun t ht hW => ⟨⟨(mq_best gn lk n), (), rfl, rfl, by rw [ht]; exact hP, va_K.moved hW.alike hK, hD⟩, hS.F ht⟩) hS.2.2 dX1_luckiest_8
set_option maxHeartbeats 4000000 in
set_option maxRecDepth 100000 in
theorem c_X1_isAlive (l : Launch) (sz : Nat) {D : va_G} {z : ClassId × ClassId} {a : Nat → Nat} {th : Int32} {n w : Nat} {gn lk pu fa he nv of mp mi : Nat → Int32} {k : Nat} {nt fu re : Int32} (i : Nat) (hi : i < n) (hn : n ≤ 10) : Met l yX1_isAlive (ws_ yX1_isAlive cX1_isAlive 2 (some .boolean)) ({ frames := 2, cells := 0, slots := 0, locals := 43 } : Room) (va_Pc [.ref (a 0), .int (nI i)] (fun U => U.heap.size = sz ∧ mI D z a th n w gn lk pu fa he nv of mp mi k nt fu re U ∧ va_D (fun _ => True) (mW z a th n w gn lk pu fa he nv of mp mi k nt fu re))) (va_Qi (fun (r : Int32) (_ : Unit) => r = sp_not (gn i)) (fun _ t9 => va_P D vwCl (mW z a 0 n w gn lk pu fa he nv of mp mi k nt fu re) t9.heap ∧ kK D z t9 ∧ va_D (va_A (mW z a th n w gn lk pu fa he nv of mp mi k nt fu re) sz) (mW z a 0 n w gn lk pu fa he nv of mp mi k nt fu re)) (va_A (mW z a th n w gn lk pu fa he nv of mp mi k nt fu re) sz)) 0 0 (va_A (mW z a th n w gn lk pu fa he nv of mp mi k nt fu re) sz) := by
  refine Met.ofW (cc := cX1_isAlive) (maxL := 2) (ret := (some .boolean)) (by decide) rfl ?_
  intro p e s m args below meth c s₁ B hml hv
  obtain ⟨rfl, hsz, ⟨hP, hK⟩, hD0⟩ := hv
  have hx := B.exec
  have hb := B.bytes
  have hr := B.returns
  have hts := atoms_spec (ws := ws_ yX1_isAlive cX1_isAlive 2 (some .boolean)) B.pre
  have hts : ∀ w ∈ lw_all, w.before _ s = true := fun w h => hts w (List.mem_cons_of_mem _ h)
  have hown : s.vm.findClass RX1 = some m.cls := findClass_of_methodNamed B.named
  have hlocks := B.notSynchronized
  have hC : CallFix p m c cX1_isAlive 2 s _ lw_all RX1 := ⟨hx, hb, hml, hown, hts⟩
  subst hsz
  have hD := hD0.self (sz := s.heap.size)
  generalize hAe : va_A (mW z a th n w gn lk pu fa he nv of mp mi k nt fu re) s.heap.size = A at hD ⊢
  have hA : ∀ q : Nat, s.heap.size ≤ q → A q := fun q h => by rw [← hAe]; exact Or.inr h
  have hS : va_S A s.heap s.heap [] := va_S.rf
  have hl := lv_entry ([.ref (a 0), .int (nI i)]) (n := 2) (Nat.le_of_ble_eq_true rfl)
  rw [lg_entry_eq]
  generalize (lg_sl ([.ref (a 0), .int (nI i)]) ++ List.replicate (2 - (lg_sl ([.ref (a 0), .int (nI i)])).length) Slot.unset).toArray = ls at hl ⊢
  have hl : lv_has ls 2 [(0, .ref (a 0)), (1, .int (nI i))] := hl
  refine lv_aload_n hx hb dX1_isAlive_0 rfl (lv_at hl 0 rfl) ?_
  refine lv_aload_n hx hb dX1_isAlive_1 rfl (lv_at hl 0 rfl) ?_
  refine lv_iload_n hx hb dX1_isAlive_2 rfl (lv_at hl 1 rfl) ?_
  refine k_X1_isPerson hC hK hP hl.1 ⟨Nat.le_of_ble_eq_true rfl, Nat.le_of_ble_eq_true rfl⟩ ⟨Nat.zero_le _, Nat.zero_le _⟩ (Nat.le_of_ble_eq_true rfl)  (by first | assumption | omega) dX1_isAlive_3 ?_
  refine lv_if_eq (tgt := 13) hx hb dX1_isAlive_6 (by decide) (fun c_6 => ?_) (fun c_6 => ?_)
  · exact absurd c_6 (by rw [isP_in (by omega) hi]; decide)
  · refine lv_iconst (v := 0) hx hb dX1_isAlive_9 (by decide) ?_
    refine lv_goto (tgt := 14) hx hb dX1_isAlive_10 (by decide) ?_
    refine mp_th hC hK hP hD hS dX1_isAlive_14 (fun H locs hP hD hS => ?_)
    refine lv_aload_n hx hb dX1_isAlive_17 rfl (lv_at hl 0 rfl) ?_
    refine mg_th hC hK hP dX1_isAlive_18 ?_
    refine lv_if_ne (tgt := 37) hx hb dX1_isAlive_21 (by decide) (fun c_21 => ?_) (fun c_21 => ?_)
    · exact absurd rfl c_21
    · refine lv_aload_n hx hb dX1_isAlive_24 rfl (lv_at hl 0 rfl) ?_
      refine mg_gn hC hK hP dX1_isAlive_25 ?_
      refine lv_iload_n hx hb dX1_isAlive_28 rfl (lv_at hl 1 rfl) ?_
      refine ml_gn hC hK hP i rfl (by omega) dX1_isAlive_29 ?_
      refine lv_if_ne (tgt := 37) hx hb dX1_isAlive_30 (by decide) (fun c_30 => ?_) (fun c_30 => ?_)
      · refine lv_iconst (v := 0) hx hb dX1_isAlive_37 (by decide) ?_
        exact W.zret (v := 0) hx hb hr (by decide) (fun t ht hW => ⟨⟨0, (), rfl, (by simp [sp_not, c_30]), by rw [ht]; exact hP, va_K.moved hW.alike hK, hD⟩, hS.F ht⟩) hS.2.2 dX1_isAlive_38
      · refine lv_iconst (v := 1) hx hb dX1_isAlive_33 (by decide) ?_
        refine lv_goto (tgt := 38) hx hb dX1_isAlive_34 (by decide) ?_
        exact W.zret (v := 1) hx hb hr (by decide) (fun t ht hW => ⟨⟨1, (), rfl, (by simp [sp_not, c_30]), by rw [ht]; exact hP, va_K.moved hW.alike hK, hD⟩, hS.F ht⟩) hS.2.2 dX1_isAlive_38
set_option maxHeartbeats 4000000 in
set_option maxRecDepth 100000 in
theorem c_X1_isAlive_a (l : Launch) (sz : Nat) {D : va_G} {z : ClassId × ClassId} {a : Nat → Nat} {th : Int32} {n w : Nat} {gn lk pu fa he nv of mp mi : Nat → Int32} {k : Nat} {nt fu re : Int32} (x : Int32) (hn : n ≤ 10) (hbad : sp_isP n x = 0) : Met l yX1_isAlive (ws_ yX1_isAlive cX1_isAlive 2 (some .boolean)) ({ frames := 2, cells := 0, slots := 0, locals := 43 } : Room) (va_Pc [.ref (a 0), .int x] (fun U => U.heap.size = sz ∧ mI D z a th n w gn lk pu fa he nv of mp mi k nt fu re U ∧ va_D (fun _ => True) (mW z a th n w gn lk pu fa he nv of mp mi k nt fu re))) (va_Qi (fun (r : Int32) (_ : Unit) => r = 0) (fun _ t9 => va_P D vwCl (mW z a 1 n w gn lk pu fa he nv of mp mi k nt fu re) t9.heap ∧ kK D z t9 ∧ va_D (va_A (mW z a th n w gn lk pu fa he nv of mp mi k nt fu re) sz) (mW z a 1 n w gn lk pu fa he nv of mp mi k nt fu re)) (va_A (mW z a th n w gn lk pu fa he nv of mp mi k nt fu re) sz)) 0 0 (va_A (mW z a th n w gn lk pu fa he nv of mp mi k nt fu re) sz) := by
  refine Met.ofW (cc := cX1_isAlive) (maxL := 2) (ret := (some .boolean)) (by decide) rfl ?_
  intro p e s m args below meth c s₁ B hml hv
  obtain ⟨rfl, hsz, ⟨hP, hK⟩, hD0⟩ := hv
  have hx := B.exec
  have hb := B.bytes
  have hr := B.returns
  have hts := atoms_spec (ws := ws_ yX1_isAlive cX1_isAlive 2 (some .boolean)) B.pre
  have hts : ∀ w ∈ lw_all, w.before _ s = true := fun w h => hts w (List.mem_cons_of_mem _ h)
  have hown : s.vm.findClass RX1 = some m.cls := findClass_of_methodNamed B.named
  have hlocks := B.notSynchronized
  have hC : CallFix p m c cX1_isAlive 2 s _ lw_all RX1 := ⟨hx, hb, hml, hown, hts⟩
  subst hsz
  have hD := hD0.self (sz := s.heap.size)
  generalize hAe : va_A (mW z a th n w gn lk pu fa he nv of mp mi k nt fu re) s.heap.size = A at hD ⊢
  have hA : ∀ q : Nat, s.heap.size ≤ q → A q := fun q h => by rw [← hAe]; exact Or.inr h
  have hS : va_S A s.heap s.heap [] := va_S.rf
  have hl := lv_entry ([.ref (a 0), .int x]) (n := 2) (Nat.le_of_ble_eq_true rfl)
  rw [lg_entry_eq]
  generalize (lg_sl ([.ref (a 0), .int x]) ++ List.replicate (2 - (lg_sl ([.ref (a 0), .int x])).length) Slot.unset).toArray = ls at hl ⊢
  have hl : lv_has ls 2 [(0, .ref (a 0)), (1, .int x)] := hl
  refine lv_aload_n hx hb dX1_isAlive_0 rfl (lv_at hl 0 rfl) ?_
  refine lv_aload_n hx hb dX1_isAlive_1 rfl (lv_at hl 0 rfl) ?_
  refine lv_iload_n hx hb dX1_isAlive_2 rfl (lv_at hl 1 rfl) ?_
  refine k_X1_isPerson hC hK hP hl.1 ⟨Nat.le_of_ble_eq_true rfl, Nat.le_of_ble_eq_true rfl⟩ ⟨Nat.zero_le _, Nat.zero_le _⟩ (Nat.le_of_ble_eq_true rfl)  (by first | assumption | omega) dX1_isAlive_3 ?_
  refine lv_if_eq (tgt := 13) hx hb dX1_isAlive_6 (by decide) (fun c_6 => ?_) (fun c_6 => ?_)
  · refine lv_iconst (v := 1) hx hb dX1_isAlive_13 (by decide) ?_
    refine mp_th hC hK hP hD hS dX1_isAlive_14 (fun H locs hP hD hS => ?_)
    refine lv_aload_n hx hb dX1_isAlive_17 rfl (lv_at hl 0 rfl) ?_
    refine mg_th hC hK hP dX1_isAlive_18 ?_
    refine lv_if_ne (tgt := 37) hx hb dX1_isAlive_21 (by decide) (fun c_21 => ?_) (fun c_21 => ?_)
    · refine lv_iconst (v := 0) hx hb dX1_isAlive_37 (by decide) ?_
      exact W.zret (v := 0) hx hb hr (by decide) (fun t ht hW => ⟨⟨0, (), rfl, rfl, by rw [ht]; exact hP, va_K.moved hW.alike hK, hD⟩, hS.F ht⟩) hS.2.2 dX1_isAlive_38
    · exact absurd c_21 (by decide)
  · exact absurd hbad c_6
set_option maxHeartbeats 4000000 in
set_option maxRecDepth 100000 in
theorem c_X1_of_lk (l : Launch) (sz : Nat) {D : va_G} {z : ClassId × ClassId} {a : Nat → Nat} {th : Int32} {n w : Nat} {gn lk pu fa he nv of mp mi : Nat → Int32} {k : Nat} {nt fu re : Int32} (i : Nat) (hi : i < n) (hn : n ≤ 10) : Met l yX1_of (ws_ yX1_of cX1_of 3 (some .int)) ({ frames := 2, cells := 0, slots := 0, locals := 43 } : Room) (va_Pc [.ref (a 0), .int (nI i), .ref (a 2)] (fun U => U.heap.size = sz ∧ mI D z a th n w gn lk pu fa he nv of mp mi k nt fu re U ∧ va_D (fun _ => True) (mW z a th n w gn lk pu fa he nv of mp mi k nt fu re))) (va_Qi (fun (r : Int32) (_ : Unit) => r = lk i) (fun _ t9 => va_P D vwCl (mW z a 0 n w gn lk pu fa he nv of mp mi k nt fu re) t9.heap ∧ kK D z t9 ∧ va_D (va_A (mW z a th n w gn lk pu fa he nv of mp mi k nt fu re) sz) (mW z a 0 n w gn lk pu fa he nv of mp mi k nt fu re)) (va_A (mW z a th n w gn lk pu fa he nv of mp mi k nt fu re) sz)) 0 0 (va_A (mW z a th n w gn lk pu fa he nv of mp mi k nt fu re) sz) := by
  refine Met.ofW (cc := cX1_of) (maxL := 3) (ret := (some .int)) (by decide) rfl ?_
  intro p e s m args below meth c s₁ B hml hv
  obtain ⟨rfl, hsz, ⟨hP, hK⟩, hD0⟩ := hv
  have hx := B.exec
  have hb := B.bytes
  have hr := B.returns
  have hts := atoms_spec (ws := ws_ yX1_of cX1_of 3 (some .int)) B.pre
  have hts : ∀ w ∈ lw_all, w.before _ s = true := fun w h => hts w (List.mem_cons_of_mem _ h)
  have hown : s.vm.findClass RX1 = some m.cls := findClass_of_methodNamed B.named
  have hlocks := B.notSynchronized
  have hC : CallFix p m c cX1_of 3 s _ lw_all RX1 := ⟨hx, hb, hml, hown, hts⟩
  subst hsz
  have hD := hD0.self (sz := s.heap.size)
  generalize hAe : va_A (mW z a th n w gn lk pu fa he nv of mp mi k nt fu re) s.heap.size = A at hD ⊢
  have hA : ∀ q : Nat, s.heap.size ≤ q → A q := fun q h => by rw [← hAe]; exact Or.inr h
  have hS : va_S A s.heap s.heap [] := va_S.rf
  have hl := lv_entry ([.ref (a 0), .int (nI i), .ref (a 2)]) (n := 3) (Nat.le_of_ble_eq_true rfl)
  rw [lg_entry_eq]
  generalize (lg_sl ([.ref (a 0), .int (nI i), .ref (a 2)]) ++ List.replicate (3 - (lg_sl ([.ref (a 0), .int (nI i), .ref (a 2)])).length) Slot.unset).toArray = ls at hl ⊢
  have hl : lv_has ls 3 [(0, .ref (a 0)), (1, .int (nI i)), (2, .ref (a 2))] := hl
  refine lv_aload_n hx hb dX1_of_0 rfl (lv_at hl 0 rfl) ?_
  refine lv_iconst (v := 0) hx hb dX1_of_1 (by decide) ?_
  refine mp_th hC hK hP hD hS dX1_of_2 (fun H locs hP hD hS => ?_)
  refine lv_aload_n hx hb dX1_of_5 rfl (lv_at hl 0 rfl) ?_
  refine lv_iload_n hx hb dX1_of_6 rfl (lv_at hl 1 rfl) ?_
  refine k_X1_isPerson hC hK hP hl.1 ⟨Nat.le_of_ble_eq_true rfl, Nat.le_of_ble_eq_true rfl⟩ ⟨Nat.zero_le _, Nat.zero_le _⟩ (Nat.le_of_ble_eq_true rfl)  (by first | assumption | omega) dX1_of_7 ?_
  refine lv_if_eq (tgt := 19) hx hb dX1_of_10 (by decide) (fun c_10 => ?_) (fun c_10 => ?_)
  · exact absurd c_10 (by rw [isP_in (by omega) hi]; decide)
  · refine lv_aload_n hx hb dX1_of_13 rfl (lv_at hl 2 rfl) ?_
    refine lv_iload_n hx hb dX1_of_14 rfl (lv_at hl 1 rfl) ?_
    refine ml_lk hC hK hP i rfl (by omega) dX1_of_15 ?_
    refine lv_goto (tgt := 24) hx hb dX1_of_16 (by decide) ?_
    exact W.iret (v := lk i) hx hb hr (fun t ht hW => ⟨⟨lk i, (), rfl, rfl, by rw [ht]; exact hP, va_K.moved hW.alike hK, hD⟩, hS.F ht⟩) hS.2.2 dX1_of_24
set_option maxRecDepth 100000 in
theorem k_X1_of_lk {p : Program} {l : Launch} {e : Env} {R : Room} {s : State} {m : MethodId} {args : Array Value} {below : List Frame} {meth : Method} {c : Code} {H : Heap} {locs : List Loc} {cells slots : Nat} {Q : State → Prop} {D : va_G} {z : ClassId × ClassId} {a : Nat → Nat} {th : Int32} {n w : Nat} {gn lk pu fa he nv of mp mi : Nat → Int32} {k : Nat} {nt fu re : Int32} {cc : ByteArray} {nL pc : Nat} {ls : Array Slot} {rest : List Value} {A : Nat → Prop} {H0 : Heap} (hC : CallFix p m c cc nL s args lw_all RX1) (hK : kK D z s) (hP : va_P D vwCl (mW z a th n w gn lk pu fa he nv of mp mi k nt fu re) H) (hD : va_D A (mW z a th n w gn lk pu fa he nv of mp mi k nt fu re)) (hS : va_S A H0 H locs) (hA : ∀ q : Nat, H0.size ≤ q → A q) (hl : ls.size = nL) (hR : 3 ≤ R.frames ∧ 65 ≤ R.locals) (hz : cells ≤ R.cells ∧ slots ≤ R.slots) (hr : (rest.map fun v => v.category).sum ≤ 8) {i : Nat} {x0 : Int32} (hx0 : x0 = nI i) (hi : i < n) (hn : n ≤ 10) (hdg : decode cc pc = .ok (.invokevirtual 137, 3)) (kk : ∀ (H1 : Heap) (locs1 : List Loc), va_P D vwCl (mW z a 0 n w gn lk pu fa he nv of mp mi k nt fu re) H1 → va_D A (mW z a 0 n w gn lk pu fa he nv of mp mi k nt fu re) → va_S A H0 H1 locs1 → W p l e R s m args below meth c H1 locs1 cells slots Q (F0 m (pc + 3) ls (.int (lk i) :: rest))) : W p l e R s m args below meth c H locs cells slots Q (F0 m pc ls (.ref (a 2) :: .int x0 :: .ref (a 0) :: rest)) := by
  subst hx0
  have hF := va_free (wc := mW z a th n w gn lk pu fa he nv of mp mi k nt fu re) hD hS hA [0, 1, 2, 3, 4, 5, 6, 7, 8, 9] rfl
  refine va_calli (va_runV (As := [.int (nI i), .ref (a 2)]) (rest := rest) hC (c_X1_of_lk l H.size i hi hn) (cwV 2 hC.2.2.2.2 (gi_V mM_X1_137 mV_X1_of mS_X1_of mI_MissRegistryModel mC_X1_of) rfl rfl rfl (by decide +kernel) hR) ⟨fun a1 U g mk q => ⟨q.1, q.2.1, ⟨q.2.2.1.1, va_K.moved (u := U) (U := U.calling g mk a1) (Vm.Alike.refl U.vm) q.2.2.1.2⟩, q.2.2.2⟩, va_recv hK hP (ci := 1) (q0 := 0) rfl rfl, fun U hU hW => ⟨rfl, by rw [hU], ⟨by rw [hU]; exact hP, va_K.moved hW.alike hK⟩, hD.weaken (fun _ _ _ _ => trivial)⟩⟩ rfl rfl hl rfl (lv_room hr) hdg hz) hS (fun q _ h => hF q h) hF (fun r u t H1 locs1 ht hvm hw hB hz1 hk1 hS1 => ?_)
  obtain ⟨hP1, hK1, hD1⟩ := hB
  rw [ht] at hP1
  have hw : r = lk i := hw
  rw [hw]
  exact kk H1 locs1 hP1 (hD1.weaken (fun _ q9 _ h => hF q9.1 h)) hS1
set_option maxHeartbeats 4000000 in
set_option maxRecDepth 100000 in
theorem c_X1_of_lk_a (l : Launch) (sz : Nat) {D : va_G} {z : ClassId × ClassId} {a : Nat → Nat} {th : Int32} {n w : Nat} {gn lk pu fa he nv of mp mi : Nat → Int32} {k : Nat} {nt fu re : Int32} (x : Int32) (hn : n ≤ 10) (hbad : sp_isP n x = 0) : Met l yX1_of (ws_ yX1_of cX1_of 3 (some .int)) ({ frames := 2, cells := 0, slots := 0, locals := 43 } : Room) (va_Pc [.ref (a 0), .int x, .ref (a 2)] (fun U => U.heap.size = sz ∧ mI D z a th n w gn lk pu fa he nv of mp mi k nt fu re U ∧ va_D (fun _ => True) (mW z a th n w gn lk pu fa he nv of mp mi k nt fu re))) (va_Qi (fun (r : Int32) (_ : Unit) => r = 0) (fun _ t9 => va_P D vwCl (mW z a 1 n w gn lk pu fa he nv of mp mi k nt fu re) t9.heap ∧ kK D z t9 ∧ va_D (va_A (mW z a th n w gn lk pu fa he nv of mp mi k nt fu re) sz) (mW z a 1 n w gn lk pu fa he nv of mp mi k nt fu re)) (va_A (mW z a th n w gn lk pu fa he nv of mp mi k nt fu re) sz)) 0 0 (va_A (mW z a th n w gn lk pu fa he nv of mp mi k nt fu re) sz) := by
  refine Met.ofW (cc := cX1_of) (maxL := 3) (ret := (some .int)) (by decide) rfl ?_
  intro p e s m args below meth c s₁ B hml hv
  obtain ⟨rfl, hsz, ⟨hP, hK⟩, hD0⟩ := hv
  have hx := B.exec
  have hb := B.bytes
  have hr := B.returns
  have hts := atoms_spec (ws := ws_ yX1_of cX1_of 3 (some .int)) B.pre
  have hts : ∀ w ∈ lw_all, w.before _ s = true := fun w h => hts w (List.mem_cons_of_mem _ h)
  have hown : s.vm.findClass RX1 = some m.cls := findClass_of_methodNamed B.named
  have hlocks := B.notSynchronized
  have hC : CallFix p m c cX1_of 3 s _ lw_all RX1 := ⟨hx, hb, hml, hown, hts⟩
  subst hsz
  have hD := hD0.self (sz := s.heap.size)
  generalize hAe : va_A (mW z a th n w gn lk pu fa he nv of mp mi k nt fu re) s.heap.size = A at hD ⊢
  have hA : ∀ q : Nat, s.heap.size ≤ q → A q := fun q h => by rw [← hAe]; exact Or.inr h
  have hS : va_S A s.heap s.heap [] := va_S.rf
  have hl := lv_entry ([.ref (a 0), .int x, .ref (a 2)]) (n := 3) (Nat.le_of_ble_eq_true rfl)
  rw [lg_entry_eq]
  generalize (lg_sl ([.ref (a 0), .int x, .ref (a 2)]) ++ List.replicate (3 - (lg_sl ([.ref (a 0), .int x, .ref (a 2)])).length) Slot.unset).toArray = ls at hl ⊢
  have hl : lv_has ls 3 [(0, .ref (a 0)), (1, .int x), (2, .ref (a 2))] := hl
  refine lv_aload_n hx hb dX1_of_0 rfl (lv_at hl 0 rfl) ?_
  refine lv_iconst (v := 0) hx hb dX1_of_1 (by decide) ?_
  refine mp_th hC hK hP hD hS dX1_of_2 (fun H locs hP hD hS => ?_)
  refine lv_aload_n hx hb dX1_of_5 rfl (lv_at hl 0 rfl) ?_
  refine lv_iload_n hx hb dX1_of_6 rfl (lv_at hl 1 rfl) ?_
  refine k_X1_isPerson hC hK hP hl.1 ⟨Nat.le_of_ble_eq_true rfl, Nat.le_of_ble_eq_true rfl⟩ ⟨Nat.zero_le _, Nat.zero_le _⟩ (Nat.le_of_ble_eq_true rfl)  (by first | assumption | omega) dX1_of_7 ?_
  refine lv_if_eq (tgt := 19) hx hb dX1_of_10 (by decide) (fun c_10 => ?_) (fun c_10 => ?_)
  · refine lv_aload_n hx hb dX1_of_19 rfl (lv_at hl 0 rfl) ?_
    refine lv_iconst (v := 1) hx hb dX1_of_20 (by decide) ?_
    refine k_X1_fail hC hK hP hD hS hA hl.1 ⟨Nat.le_of_ble_eq_true rfl, Nat.le_of_ble_eq_true rfl⟩ ⟨Nat.zero_le _, Nat.zero_le _⟩ (Nat.le_of_ble_eq_true rfl)   dX1_of_21 (fun H locs hP hD hS => ?_)
    exact W.iret (v := 0) hx hb hr (fun t ht hW => ⟨⟨0, (), rfl, rfl, by rw [ht]; exact hP, va_K.moved hW.alike hK, hD⟩, hS.F ht⟩) hS.2.2 dX1_of_24
  · exact absurd hbad c_10
set_option maxRecDepth 100000 in
theorem k_X1_of_lk_a {p : Program} {l : Launch} {e : Env} {R : Room} {s : State} {m : MethodId} {args : Array Value} {below : List Frame} {meth : Method} {c : Code} {H : Heap} {locs : List Loc} {cells slots : Nat} {Q : State → Prop} {D : va_G} {z : ClassId × ClassId} {a : Nat → Nat} {th : Int32} {n w : Nat} {gn lk pu fa he nv of mp mi : Nat → Int32} {k : Nat} {nt fu re : Int32} {cc : ByteArray} {nL pc : Nat} {ls : Array Slot} {rest : List Value} {A : Nat → Prop} {H0 : Heap} (hC : CallFix p m c cc nL s args lw_all RX1) (hK : kK D z s) (hP : va_P D vwCl (mW z a th n w gn lk pu fa he nv of mp mi k nt fu re) H) (hD : va_D A (mW z a th n w gn lk pu fa he nv of mp mi k nt fu re)) (hS : va_S A H0 H locs) (hA : ∀ q : Nat, H0.size ≤ q → A q) (hl : ls.size = nL) (hR : 3 ≤ R.frames ∧ 65 ≤ R.locals) (hz : cells ≤ R.cells ∧ slots ≤ R.slots) (hr : (rest.map fun v => v.category).sum ≤ 8) {x : Int32}  (hn : n ≤ 10) (hbad : sp_isP n x = 0) (hdg : decode cc pc = .ok (.invokevirtual 137, 3)) (kk : ∀ (H1 : Heap) (locs1 : List Loc), va_P D vwCl (mW z a 1 n w gn lk pu fa he nv of mp mi k nt fu re) H1 → va_D A (mW z a 1 n w gn lk pu fa he nv of mp mi k nt fu re) → va_S A H0 H1 locs1 → W p l e R s m args below meth c H1 locs1 cells slots Q (F0 m (pc + 3) ls (.int 0 :: rest))) : W p l e R s m args below meth c H locs cells slots Q (F0 m pc ls (.ref (a 2) :: .int x :: .ref (a 0) :: rest)) := by
  have hF := va_free (wc := mW z a th n w gn lk pu fa he nv of mp mi k nt fu re) hD hS hA [0, 1, 2, 3, 4, 5, 6, 7, 8, 9] rfl
  refine va_calli (va_runV (As := [.int x, .ref (a 2)]) (rest := rest) hC (c_X1_of_lk_a l H.size x hn hbad) (cwV 2 hC.2.2.2.2 (gi_V mM_X1_137 mV_X1_of mS_X1_of mI_MissRegistryModel mC_X1_of) rfl rfl rfl (by decide +kernel) hR) ⟨fun a1 U g mk q => ⟨q.1, q.2.1, ⟨q.2.2.1.1, va_K.moved (u := U) (U := U.calling g mk a1) (Vm.Alike.refl U.vm) q.2.2.1.2⟩, q.2.2.2⟩, va_recv hK hP (ci := 1) (q0 := 0) rfl rfl, fun U hU hW => ⟨rfl, by rw [hU], ⟨by rw [hU]; exact hP, va_K.moved hW.alike hK⟩, hD.weaken (fun _ _ _ _ => trivial)⟩⟩ rfl rfl hl rfl (lv_room hr) hdg hz) hS (fun q _ h => hF q h) hF (fun r u t H1 locs1 ht hvm hw hB hz1 hk1 hS1 => ?_)
  obtain ⟨hP1, hK1, hD1⟩ := hB
  rw [ht] at hP1
  have hw : r = 0 := hw
  rw [hw]
  exact kk H1 locs1 hP1 (hD1.weaken (fun _ q9 _ h => hF q9.1 h)) hS1
set_option maxHeartbeats 4000000 in
set_option maxRecDepth 100000 in
theorem c_X1_luckOf (l : Launch) (sz : Nat) {D : va_G} {z : ClassId × ClassId} {a : Nat → Nat} {th : Int32} {n w : Nat} {gn lk pu fa he nv of mp mi : Nat → Int32} {k : Nat} {nt fu re : Int32} (i : Nat) (hi : i < n) (hn : n ≤ 10) : Met l yX1_luckOf (ws_ yX1_luckOf cX1_luckOf 2 (some .int)) ({ frames := 3, cells := 0, slots := 0, locals := 65 } : Room) (va_Pc [.ref (a 0), .int (nI i)] (fun U => U.heap.size = sz ∧ mI D z a th n w gn lk pu fa he nv of mp mi k nt fu re U ∧ va_D (fun _ => True) (mW z a th n w gn lk pu fa he nv of mp mi k nt fu re))) (va_Qi (fun (r : Int32) (_ : Unit) => r = lk i) (fun _ t9 => va_P D vwCl (mW z a 0 n w gn lk pu fa he nv of mp mi k nt fu re) t9.heap ∧ kK D z t9 ∧ va_D (va_A (mW z a th n w gn lk pu fa he nv of mp mi k nt fu re) sz) (mW z a 0 n w gn lk pu fa he nv of mp mi k nt fu re)) (va_A (mW z a th n w gn lk pu fa he nv of mp mi k nt fu re) sz)) 0 0 (va_A (mW z a th n w gn lk pu fa he nv of mp mi k nt fu re) sz) := by
  refine Met.ofW (cc := cX1_luckOf) (maxL := 2) (ret := (some .int)) (by decide) rfl ?_
  intro p e s m args below meth c s₁ B hml hv
  obtain ⟨rfl, hsz, ⟨hP, hK⟩, hD0⟩ := hv
  have hx := B.exec
  have hb := B.bytes
  have hr := B.returns
  have hts := atoms_spec (ws := ws_ yX1_luckOf cX1_luckOf 2 (some .int)) B.pre
  have hts : ∀ w ∈ lw_all, w.before _ s = true := fun w h => hts w (List.mem_cons_of_mem _ h)
  have hown : s.vm.findClass RX1 = some m.cls := findClass_of_methodNamed B.named
  have hlocks := B.notSynchronized
  have hC : CallFix p m c cX1_luckOf 2 s _ lw_all RX1 := ⟨hx, hb, hml, hown, hts⟩
  subst hsz
  have hD := hD0.self (sz := s.heap.size)
  generalize hAe : va_A (mW z a th n w gn lk pu fa he nv of mp mi k nt fu re) s.heap.size = A at hD ⊢
  have hA : ∀ q : Nat, s.heap.size ≤ q → A q := fun q h => by rw [← hAe]; exact Or.inr h
  have hS : va_S A s.heap s.heap [] := va_S.rf
  have hl := lv_entry ([.ref (a 0), .int (nI i)]) (n := 2) (Nat.le_of_ble_eq_true rfl)
  rw [lg_entry_eq]
  generalize (lg_sl ([.ref (a 0), .int (nI i)]) ++ List.replicate (2 - (lg_sl ([.ref (a 0), .int (nI i)])).length) Slot.unset).toArray = ls at hl ⊢
  have hl : lv_has ls 2 [(0, .ref (a 0)), (1, .int (nI i))] := hl
  refine lv_aload_n hx hb dX1_luckOf_0 rfl (lv_at hl 0 rfl) ?_
  refine lv_iload_n hx hb dX1_luckOf_1 rfl (lv_at hl 1 rfl) ?_
  refine lv_aload_n hx hb dX1_luckOf_2 rfl (lv_at hl 0 rfl) ?_
  refine mg_lk hC hK hP dX1_luckOf_3 ?_
  refine k_X1_of_lk hC hK hP hD hS hA hl.1 ⟨Nat.le_of_ble_eq_true rfl, Nat.le_of_ble_eq_true rfl⟩ ⟨Nat.zero_le _, Nat.zero_le _⟩ (Nat.le_of_ble_eq_true rfl) rfl (by first | assumption | omega) (by first | assumption | omega) dX1_luckOf_6 (fun H locs hP hD hS => ?_)
  exact W.iret (v := lk i) hx hb hr (fun t ht hW => ⟨⟨lk i, (), rfl, rfl, by rw [ht]; exact hP, va_K.moved hW.alike hK, hD⟩, hS.F ht⟩) hS.2.2 dX1_luckOf_9
set_option maxHeartbeats 4000000 in
set_option maxRecDepth 100000 in
theorem c_X1_luckOf_a (l : Launch) (sz : Nat) {D : va_G} {z : ClassId × ClassId} {a : Nat → Nat} {th : Int32} {n w : Nat} {gn lk pu fa he nv of mp mi : Nat → Int32} {k : Nat} {nt fu re : Int32} (x : Int32) (hn : n ≤ 10) (hbad : sp_isP n x = 0) : Met l yX1_luckOf (ws_ yX1_luckOf cX1_luckOf 2 (some .int)) ({ frames := 3, cells := 0, slots := 0, locals := 65 } : Room) (va_Pc [.ref (a 0), .int x] (fun U => U.heap.size = sz ∧ mI D z a th n w gn lk pu fa he nv of mp mi k nt fu re U ∧ va_D (fun _ => True) (mW z a th n w gn lk pu fa he nv of mp mi k nt fu re))) (va_Qi (fun (r : Int32) (_ : Unit) => r = 0) (fun _ t9 => va_P D vwCl (mW z a 1 n w gn lk pu fa he nv of mp mi k nt fu re) t9.heap ∧ kK D z t9 ∧ va_D (va_A (mW z a th n w gn lk pu fa he nv of mp mi k nt fu re) sz) (mW z a 1 n w gn lk pu fa he nv of mp mi k nt fu re)) (va_A (mW z a th n w gn lk pu fa he nv of mp mi k nt fu re) sz)) 0 0 (va_A (mW z a th n w gn lk pu fa he nv of mp mi k nt fu re) sz) := by
  refine Met.ofW (cc := cX1_luckOf) (maxL := 2) (ret := (some .int)) (by decide) rfl ?_
  intro p e s m args below meth c s₁ B hml hv
  obtain ⟨rfl, hsz, ⟨hP, hK⟩, hD0⟩ := hv
  have hx := B.exec
  have hb := B.bytes
  have hr := B.returns
  have hts := atoms_spec (ws := ws_ yX1_luckOf cX1_luckOf 2 (some .int)) B.pre
  have hts : ∀ w ∈ lw_all, w.before _ s = true := fun w h => hts w (List.mem_cons_of_mem _ h)
  have hown : s.vm.findClass RX1 = some m.cls := findClass_of_methodNamed B.named
  have hlocks := B.notSynchronized
  have hC : CallFix p m c cX1_luckOf 2 s _ lw_all RX1 := ⟨hx, hb, hml, hown, hts⟩
  subst hsz
  have hD := hD0.self (sz := s.heap.size)
  generalize hAe : va_A (mW z a th n w gn lk pu fa he nv of mp mi k nt fu re) s.heap.size = A at hD ⊢
  have hA : ∀ q : Nat, s.heap.size ≤ q → A q := fun q h => by rw [← hAe]; exact Or.inr h
  have hS : va_S A s.heap s.heap [] := va_S.rf
  have hl := lv_entry ([.ref (a 0), .int x]) (n := 2) (Nat.le_of_ble_eq_true rfl)
  rw [lg_entry_eq]
  generalize (lg_sl ([.ref (a 0), .int x]) ++ List.replicate (2 - (lg_sl ([.ref (a 0), .int x])).length) Slot.unset).toArray = ls at hl ⊢
  have hl : lv_has ls 2 [(0, .ref (a 0)), (1, .int x)] := hl
  refine lv_aload_n hx hb dX1_luckOf_0 rfl (lv_at hl 0 rfl) ?_
  refine lv_iload_n hx hb dX1_luckOf_1 rfl (lv_at hl 1 rfl) ?_
  refine lv_aload_n hx hb dX1_luckOf_2 rfl (lv_at hl 0 rfl) ?_
  refine mg_lk hC hK hP dX1_luckOf_3 ?_
  refine k_X1_of_lk_a hC hK hP hD hS hA hl.1 ⟨Nat.le_of_ble_eq_true rfl, Nat.le_of_ble_eq_true rfl⟩ ⟨Nat.zero_le _, Nat.zero_le _⟩ (Nat.le_of_ble_eq_true rfl)  (by first | assumption | omega) (by first | assumption | omega) dX1_luckOf_6 (fun H locs hP hD hS => ?_)
  exact W.iret (v := 0) hx hb hr (fun t ht hW => ⟨⟨0, (), rfl, rfl, by rw [ht]; exact hP, va_K.moved hW.alike hK, hD⟩, hS.F ht⟩) hS.2.2 dX1_luckOf_9
set_option maxHeartbeats 4000000 in
set_option maxRecDepth 100000 in
theorem c_X1_of_pu (l : Launch) (sz : Nat) {D : va_G} {z : ClassId × ClassId} {a : Nat → Nat} {th : Int32} {n w : Nat} {gn lk pu fa he nv of mp mi : Nat → Int32} {k : Nat} {nt fu re : Int32} (i : Nat) (hi : i < n) (hn : n ≤ 10) : Met l yX1_of (ws_ yX1_of cX1_of 3 (some .int)) ({ frames := 2, cells := 0, slots := 0, locals := 43 } : Room) (va_Pc [.ref (a 0), .int (nI i), .ref (a 3)] (fun U => U.heap.size = sz ∧ mI D z a th n w gn lk pu fa he nv of mp mi k nt fu re U ∧ va_D (fun _ => True) (mW z a th n w gn lk pu fa he nv of mp mi k nt fu re))) (va_Qi (fun (r : Int32) (_ : Unit) => r = pu i) (fun _ t9 => va_P D vwCl (mW z a 0 n w gn lk pu fa he nv of mp mi k nt fu re) t9.heap ∧ kK D z t9 ∧ va_D (va_A (mW z a th n w gn lk pu fa he nv of mp mi k nt fu re) sz) (mW z a 0 n w gn lk pu fa he nv of mp mi k nt fu re)) (va_A (mW z a th n w gn lk pu fa he nv of mp mi k nt fu re) sz)) 0 0 (va_A (mW z a th n w gn lk pu fa he nv of mp mi k nt fu re) sz) := by
  refine Met.ofW (cc := cX1_of) (maxL := 3) (ret := (some .int)) (by decide) rfl ?_
  intro p e s m args below meth c s₁ B hml hv
  obtain ⟨rfl, hsz, ⟨hP, hK⟩, hD0⟩ := hv
  have hx := B.exec
  have hb := B.bytes
  have hr := B.returns
  have hts := atoms_spec (ws := ws_ yX1_of cX1_of 3 (some .int)) B.pre
  have hts : ∀ w ∈ lw_all, w.before _ s = true := fun w h => hts w (List.mem_cons_of_mem _ h)
  have hown : s.vm.findClass RX1 = some m.cls := findClass_of_methodNamed B.named
  have hlocks := B.notSynchronized
  have hC : CallFix p m c cX1_of 3 s _ lw_all RX1 := ⟨hx, hb, hml, hown, hts⟩
  subst hsz
  have hD := hD0.self (sz := s.heap.size)
  generalize hAe : va_A (mW z a th n w gn lk pu fa he nv of mp mi k nt fu re) s.heap.size = A at hD ⊢
  have hA : ∀ q : Nat, s.heap.size ≤ q → A q := fun q h => by rw [← hAe]; exact Or.inr h
  have hS : va_S A s.heap s.heap [] := va_S.rf
  have hl := lv_entry ([.ref (a 0), .int (nI i), .ref (a 3)]) (n := 3) (Nat.le_of_ble_eq_true rfl)
  rw [lg_entry_eq]
  generalize (lg_sl ([.ref (a 0), .int (nI i), .ref (a 3)]) ++ List.replicate (3 - (lg_sl ([.ref (a 0), .int (nI i), .ref (a 3)])).length) Slot.unset).toArray = ls at hl ⊢
  have hl : lv_has ls 3 [(0, .ref (a 0)), (1, .int (nI i)), (2, .ref (a 3))] := hl
  refine lv_aload_n hx hb dX1_of_0 rfl (lv_at hl 0 rfl) ?_
  refine lv_iconst (v := 0) hx hb dX1_of_1 (by decide) ?_
  refine mp_th hC hK hP hD hS dX1_of_2 (fun H locs hP hD hS => ?_)
  refine lv_aload_n hx hb dX1_of_5 rfl (lv_at hl 0 rfl) ?_
  refine lv_iload_n hx hb dX1_of_6 rfl (lv_at hl 1 rfl) ?_
  refine k_X1_isPerson hC hK hP hl.1 ⟨Nat.le_of_ble_eq_true rfl, Nat.le_of_ble_eq_true rfl⟩ ⟨Nat.zero_le _, Nat.zero_le _⟩ (Nat.le_of_ble_eq_true rfl)  (by first | assumption | omega) dX1_of_7 ?_
  refine lv_if_eq (tgt := 19) hx hb dX1_of_10 (by decide) (fun c_10 => ?_) (fun c_10 => ?_)
  · exact absurd c_10 (by rw [isP_in (by omega) hi]; decide)
  · refine lv_aload_n hx hb dX1_of_13 rfl (lv_at hl 2 rfl) ?_
    refine lv_iload_n hx hb dX1_of_14 rfl (lv_at hl 1 rfl) ?_
    refine ml_pu hC hK hP i rfl (by omega) dX1_of_15 ?_
    refine lv_goto (tgt := 24) hx hb dX1_of_16 (by decide) ?_
    exact W.iret (v := pu i) hx hb hr (fun t ht hW => ⟨⟨pu i, (), rfl, rfl, by rw [ht]; exact hP, va_K.moved hW.alike hK, hD⟩, hS.F ht⟩) hS.2.2 dX1_of_24
set_option maxRecDepth 100000 in
theorem k_X1_of_pu {p : Program} {l : Launch} {e : Env} {R : Room} {s : State} {m : MethodId} {args : Array Value} {below : List Frame} {meth : Method} {c : Code} {H : Heap} {locs : List Loc} {cells slots : Nat} {Q : State → Prop} {D : va_G} {z : ClassId × ClassId} {a : Nat → Nat} {th : Int32} {n w : Nat} {gn lk pu fa he nv of mp mi : Nat → Int32} {k : Nat} {nt fu re : Int32} {cc : ByteArray} {nL pc : Nat} {ls : Array Slot} {rest : List Value} {A : Nat → Prop} {H0 : Heap} (hC : CallFix p m c cc nL s args lw_all RX1) (hK : kK D z s) (hP : va_P D vwCl (mW z a th n w gn lk pu fa he nv of mp mi k nt fu re) H) (hD : va_D A (mW z a th n w gn lk pu fa he nv of mp mi k nt fu re)) (hS : va_S A H0 H locs) (hA : ∀ q : Nat, H0.size ≤ q → A q) (hl : ls.size = nL) (hR : 3 ≤ R.frames ∧ 65 ≤ R.locals) (hz : cells ≤ R.cells ∧ slots ≤ R.slots) (hr : (rest.map fun v => v.category).sum ≤ 8) {i : Nat} {x0 : Int32} (hx0 : x0 = nI i) (hi : i < n) (hn : n ≤ 10) (hdg : decode cc pc = .ok (.invokevirtual 137, 3)) (kk : ∀ (H1 : Heap) (locs1 : List Loc), va_P D vwCl (mW z a 0 n w gn lk pu fa he nv of mp mi k nt fu re) H1 → va_D A (mW z a 0 n w gn lk pu fa he nv of mp mi k nt fu re) → va_S A H0 H1 locs1 → W p l e R s m args below meth c H1 locs1 cells slots Q (F0 m (pc + 3) ls (.int (pu i) :: rest))) : W p l e R s m args below meth c H locs cells slots Q (F0 m pc ls (.ref (a 3) :: .int x0 :: .ref (a 0) :: rest)) := by
  subst hx0
  have hF := va_free (wc := mW z a th n w gn lk pu fa he nv of mp mi k nt fu re) hD hS hA [0, 1, 2, 3, 4, 5, 6, 7, 8, 9] rfl
  refine va_calli (va_runV (As := [.int (nI i), .ref (a 3)]) (rest := rest) hC (c_X1_of_pu l H.size i hi hn) (cwV 2 hC.2.2.2.2 (gi_V mM_X1_137 mV_X1_of mS_X1_of mI_MissRegistryModel mC_X1_of) rfl rfl rfl (by decide +kernel) hR) ⟨fun a1 U g mk q => ⟨q.1, q.2.1, ⟨q.2.2.1.1, va_K.moved (u := U) (U := U.calling g mk a1) (Vm.Alike.refl U.vm) q.2.2.1.2⟩, q.2.2.2⟩, va_recv hK hP (ci := 1) (q0 := 0) rfl rfl, fun U hU hW => ⟨rfl, by rw [hU], ⟨by rw [hU]; exact hP, va_K.moved hW.alike hK⟩, hD.weaken (fun _ _ _ _ => trivial)⟩⟩ rfl rfl hl rfl (lv_room hr) hdg hz) hS (fun q _ h => hF q h) hF (fun r u t H1 locs1 ht hvm hw hB hz1 hk1 hS1 => ?_)
  obtain ⟨hP1, hK1, hD1⟩ := hB
  rw [ht] at hP1
  have hw : r = pu i := hw
  rw [hw]
  exact kk H1 locs1 hP1 (hD1.weaken (fun _ q9 _ h => hF q9.1 h)) hS1
set_option maxHeartbeats 4000000 in
set_option maxRecDepth 100000 in
theorem c_X1_of_pu_a (l : Launch) (sz : Nat) {D : va_G} {z : ClassId × ClassId} {a : Nat → Nat} {th : Int32} {n w : Nat} {gn lk pu fa he nv of mp mi : Nat → Int32} {k : Nat} {nt fu re : Int32} (x : Int32) (hn : n ≤ 10) (hbad : sp_isP n x = 0) : Met l yX1_of (ws_ yX1_of cX1_of 3 (some .int)) ({ frames := 2, cells := 0, slots := 0, locals := 43 } : Room) (va_Pc [.ref (a 0), .int x, .ref (a 3)] (fun U => U.heap.size = sz ∧ mI D z a th n w gn lk pu fa he nv of mp mi k nt fu re U ∧ va_D (fun _ => True) (mW z a th n w gn lk pu fa he nv of mp mi k nt fu re))) (va_Qi (fun (r : Int32) (_ : Unit) => r = 0) (fun _ t9 => va_P D vwCl (mW z a 1 n w gn lk pu fa he nv of mp mi k nt fu re) t9.heap ∧ kK D z t9 ∧ va_D (va_A (mW z a th n w gn lk pu fa he nv of mp mi k nt fu re) sz) (mW z a 1 n w gn lk pu fa he nv of mp mi k nt fu re)) (va_A (mW z a th n w gn lk pu fa he nv of mp mi k nt fu re) sz)) 0 0 (va_A (mW z a th n w gn lk pu fa he nv of mp mi k nt fu re) sz) := by
  refine Met.ofW (cc := cX1_of) (maxL := 3) (ret := (some .int)) (by decide) rfl ?_
  intro p e s m args below meth c s₁ B hml hv
  obtain ⟨rfl, hsz, ⟨hP, hK⟩, hD0⟩ := hv
  have hx := B.exec
  have hb := B.bytes
  have hr := B.returns
  have hts := atoms_spec (ws := ws_ yX1_of cX1_of 3 (some .int)) B.pre
  have hts : ∀ w ∈ lw_all, w.before _ s = true := fun w h => hts w (List.mem_cons_of_mem _ h)
  have hown : s.vm.findClass RX1 = some m.cls := findClass_of_methodNamed B.named
  have hlocks := B.notSynchronized
  have hC : CallFix p m c cX1_of 3 s _ lw_all RX1 := ⟨hx, hb, hml, hown, hts⟩
  subst hsz
  have hD := hD0.self (sz := s.heap.size)
  generalize hAe : va_A (mW z a th n w gn lk pu fa he nv of mp mi k nt fu re) s.heap.size = A at hD ⊢
  have hA : ∀ q : Nat, s.heap.size ≤ q → A q := fun q h => by rw [← hAe]; exact Or.inr h
  have hS : va_S A s.heap s.heap [] := va_S.rf
  have hl := lv_entry ([.ref (a 0), .int x, .ref (a 3)]) (n := 3) (Nat.le_of_ble_eq_true rfl)
  rw [lg_entry_eq]
  generalize (lg_sl ([.ref (a 0), .int x, .ref (a 3)]) ++ List.replicate (3 - (lg_sl ([.ref (a 0), .int x, .ref (a 3)])).length) Slot.unset).toArray = ls at hl ⊢
  have hl : lv_has ls 3 [(0, .ref (a 0)), (1, .int x), (2, .ref (a 3))] := hl
  refine lv_aload_n hx hb dX1_of_0 rfl (lv_at hl 0 rfl) ?_
  refine lv_iconst (v := 0) hx hb dX1_of_1 (by decide) ?_
  refine mp_th hC hK hP hD hS dX1_of_2 (fun H locs hP hD hS => ?_)
  refine lv_aload_n hx hb dX1_of_5 rfl (lv_at hl 0 rfl) ?_
  refine lv_iload_n hx hb dX1_of_6 rfl (lv_at hl 1 rfl) ?_
  refine k_X1_isPerson hC hK hP hl.1 ⟨Nat.le_of_ble_eq_true rfl, Nat.le_of_ble_eq_true rfl⟩ ⟨Nat.zero_le _, Nat.zero_le _⟩ (Nat.le_of_ble_eq_true rfl)  (by first | assumption | omega) dX1_of_7 ?_
  refine lv_if_eq (tgt := 19) hx hb dX1_of_10 (by decide) (fun c_10 => ?_) (fun c_10 => ?_)
  · refine lv_aload_n hx hb dX1_of_19 rfl (lv_at hl 0 rfl) ?_
    refine lv_iconst (v := 1) hx hb dX1_of_20 (by decide) ?_
    refine k_X1_fail hC hK hP hD hS hA hl.1 ⟨Nat.le_of_ble_eq_true rfl, Nat.le_of_ble_eq_true rfl⟩ ⟨Nat.zero_le _, Nat.zero_le _⟩ (Nat.le_of_ble_eq_true rfl)   dX1_of_21 (fun H locs hP hD hS => ?_)
    exact W.iret (v := 0) hx hb hr (fun t ht hW => ⟨⟨0, (), rfl, rfl, by rw [ht]; exact hP, va_K.moved hW.alike hK, hD⟩, hS.F ht⟩) hS.2.2 dX1_of_24
  · exact absurd hbad c_10
set_option maxRecDepth 100000 in
theorem k_X1_of_pu_a {p : Program} {l : Launch} {e : Env} {R : Room} {s : State} {m : MethodId} {args : Array Value} {below : List Frame} {meth : Method} {c : Code} {H : Heap} {locs : List Loc} {cells slots : Nat} {Q : State → Prop} {D : va_G} {z : ClassId × ClassId} {a : Nat → Nat} {th : Int32} {n w : Nat} {gn lk pu fa he nv of mp mi : Nat → Int32} {k : Nat} {nt fu re : Int32} {cc : ByteArray} {nL pc : Nat} {ls : Array Slot} {rest : List Value} {A : Nat → Prop} {H0 : Heap} (hC : CallFix p m c cc nL s args lw_all RX1) (hK : kK D z s) (hP : va_P D vwCl (mW z a th n w gn lk pu fa he nv of mp mi k nt fu re) H) (hD : va_D A (mW z a th n w gn lk pu fa he nv of mp mi k nt fu re)) (hS : va_S A H0 H locs) (hA : ∀ q : Nat, H0.size ≤ q → A q) (hl : ls.size = nL) (hR : 3 ≤ R.frames ∧ 65 ≤ R.locals) (hz : cells ≤ R.cells ∧ slots ≤ R.slots) (hr : (rest.map fun v => v.category).sum ≤ 8) {x : Int32}  (hn : n ≤ 10) (hbad : sp_isP n x = 0) (hdg : decode cc pc = .ok (.invokevirtual 137, 3)) (kk : ∀ (H1 : Heap) (locs1 : List Loc), va_P D vwCl (mW z a 1 n w gn lk pu fa he nv of mp mi k nt fu re) H1 → va_D A (mW z a 1 n w gn lk pu fa he nv of mp mi k nt fu re) → va_S A H0 H1 locs1 → W p l e R s m args below meth c H1 locs1 cells slots Q (F0 m (pc + 3) ls (.int 0 :: rest))) : W p l e R s m args below meth c H locs cells slots Q (F0 m pc ls (.ref (a 3) :: .int x :: .ref (a 0) :: rest)) := by
  have hF := va_free (wc := mW z a th n w gn lk pu fa he nv of mp mi k nt fu re) hD hS hA [0, 1, 2, 3, 4, 5, 6, 7, 8, 9] rfl
  refine va_calli (va_runV (As := [.int x, .ref (a 3)]) (rest := rest) hC (c_X1_of_pu_a l H.size x hn hbad) (cwV 2 hC.2.2.2.2 (gi_V mM_X1_137 mV_X1_of mS_X1_of mI_MissRegistryModel mC_X1_of) rfl rfl rfl (by decide +kernel) hR) ⟨fun a1 U g mk q => ⟨q.1, q.2.1, ⟨q.2.2.1.1, va_K.moved (u := U) (U := U.calling g mk a1) (Vm.Alike.refl U.vm) q.2.2.1.2⟩, q.2.2.2⟩, va_recv hK hP (ci := 1) (q0 := 0) rfl rfl, fun U hU hW => ⟨rfl, by rw [hU], ⟨by rw [hU]; exact hP, va_K.moved hW.alike hK⟩, hD.weaken (fun _ _ _ _ => trivial)⟩⟩ rfl rfl hl rfl (lv_room hr) hdg hz) hS (fun q _ h => hF q h) hF (fun r u t H1 locs1 ht hvm hw hB hz1 hk1 hS1 => ?_)
  obtain ⟨hP1, hK1, hD1⟩ := hB
  rw [ht] at hP1
  have hw : r = 0 := hw
  rw [hw]
  exact kk H1 locs1 hP1 (hD1.weaken (fun _ q9 _ h => hF q9.1 h)) hS1
set_option maxHeartbeats 4000000 in
set_option maxRecDepth 100000 in
theorem c_X1_purseOf (l : Launch) (sz : Nat) {D : va_G} {z : ClassId × ClassId} {a : Nat → Nat} {th : Int32} {n w : Nat} {gn lk pu fa he nv of mp mi : Nat → Int32} {k : Nat} {nt fu re : Int32} (i : Nat) (hi : i < n) (hn : n ≤ 10) : Met l yX1_purseOf (ws_ yX1_purseOf cX1_purseOf 2 (some .int)) ({ frames := 3, cells := 0, slots := 0, locals := 65 } : Room) (va_Pc [.ref (a 0), .int (nI i)] (fun U => U.heap.size = sz ∧ mI D z a th n w gn lk pu fa he nv of mp mi k nt fu re U ∧ va_D (fun _ => True) (mW z a th n w gn lk pu fa he nv of mp mi k nt fu re))) (va_Qi (fun (r : Int32) (_ : Unit) => r = pu i) (fun _ t9 => va_P D vwCl (mW z a 0 n w gn lk pu fa he nv of mp mi k nt fu re) t9.heap ∧ kK D z t9 ∧ va_D (va_A (mW z a th n w gn lk pu fa he nv of mp mi k nt fu re) sz) (mW z a 0 n w gn lk pu fa he nv of mp mi k nt fu re)) (va_A (mW z a th n w gn lk pu fa he nv of mp mi k nt fu re) sz)) 0 0 (va_A (mW z a th n w gn lk pu fa he nv of mp mi k nt fu re) sz) := by
  refine Met.ofW (cc := cX1_purseOf) (maxL := 2) (ret := (some .int)) (by decide) rfl ?_
  intro p e s m args below meth c s₁ B hml hv
  obtain ⟨rfl, hsz, ⟨hP, hK⟩, hD0⟩ := hv
  have hx := B.exec
  have hb := B.bytes
  have hr := B.returns
  have hts := atoms_spec (ws := ws_ yX1_purseOf cX1_purseOf 2 (some .int)) B.pre
  have hts : ∀ w ∈ lw_all, w.before _ s = true := fun w h => hts w (List.mem_cons_of_mem _ h)
  have hown : s.vm.findClass RX1 = some m.cls := findClass_of_methodNamed B.named
  have hlocks := B.notSynchronized
  have hC : CallFix p m c cX1_purseOf 2 s _ lw_all RX1 := ⟨hx, hb, hml, hown, hts⟩
  subst hsz
  have hD := hD0.self (sz := s.heap.size)
  generalize hAe : va_A (mW z a th n w gn lk pu fa he nv of mp mi k nt fu re) s.heap.size = A at hD ⊢
  have hA : ∀ q : Nat, s.heap.size ≤ q → A q := fun q h => by rw [← hAe]; exact Or.inr h
  have hS : va_S A s.heap s.heap [] := va_S.rf
  have hl := lv_entry ([.ref (a 0), .int (nI i)]) (n := 2) (Nat.le_of_ble_eq_true rfl)
  rw [lg_entry_eq]
  generalize (lg_sl ([.ref (a 0), .int (nI i)]) ++ List.replicate (2 - (lg_sl ([.ref (a 0), .int (nI i)])).length) Slot.unset).toArray = ls at hl ⊢
  have hl : lv_has ls 2 [(0, .ref (a 0)), (1, .int (nI i))] := hl
  refine lv_aload_n hx hb dX1_purseOf_0 rfl (lv_at hl 0 rfl) ?_
  refine lv_iload_n hx hb dX1_purseOf_1 rfl (lv_at hl 1 rfl) ?_
  refine lv_aload_n hx hb dX1_purseOf_2 rfl (lv_at hl 0 rfl) ?_
  refine mg_pu hC hK hP dX1_purseOf_3 ?_
  refine k_X1_of_pu hC hK hP hD hS hA hl.1 ⟨Nat.le_of_ble_eq_true rfl, Nat.le_of_ble_eq_true rfl⟩ ⟨Nat.zero_le _, Nat.zero_le _⟩ (Nat.le_of_ble_eq_true rfl) rfl (by first | assumption | omega) (by first | assumption | omega) dX1_purseOf_6 (fun H locs hP hD hS => ?_)
  exact W.iret (v := pu i) hx hb hr (fun t ht hW => ⟨⟨pu i, (), rfl, rfl, by rw [ht]; exact hP, va_K.moved hW.alike hK, hD⟩, hS.F ht⟩) hS.2.2 dX1_purseOf_9
set_option maxHeartbeats 4000000 in
set_option maxRecDepth 100000 in
theorem c_X1_purseOf_a (l : Launch) (sz : Nat) {D : va_G} {z : ClassId × ClassId} {a : Nat → Nat} {th : Int32} {n w : Nat} {gn lk pu fa he nv of mp mi : Nat → Int32} {k : Nat} {nt fu re : Int32} (x : Int32) (hn : n ≤ 10) (hbad : sp_isP n x = 0) : Met l yX1_purseOf (ws_ yX1_purseOf cX1_purseOf 2 (some .int)) ({ frames := 3, cells := 0, slots := 0, locals := 65 } : Room) (va_Pc [.ref (a 0), .int x] (fun U => U.heap.size = sz ∧ mI D z a th n w gn lk pu fa he nv of mp mi k nt fu re U ∧ va_D (fun _ => True) (mW z a th n w gn lk pu fa he nv of mp mi k nt fu re))) (va_Qi (fun (r : Int32) (_ : Unit) => r = 0) (fun _ t9 => va_P D vwCl (mW z a 1 n w gn lk pu fa he nv of mp mi k nt fu re) t9.heap ∧ kK D z t9 ∧ va_D (va_A (mW z a th n w gn lk pu fa he nv of mp mi k nt fu re) sz) (mW z a 1 n w gn lk pu fa he nv of mp mi k nt fu re)) (va_A (mW z a th n w gn lk pu fa he nv of mp mi k nt fu re) sz)) 0 0 (va_A (mW z a th n w gn lk pu fa he nv of mp mi k nt fu re) sz) := by
  refine Met.ofW (cc := cX1_purseOf) (maxL := 2) (ret := (some .int)) (by decide) rfl ?_
  intro p e s m args below meth c s₁ B hml hv
  obtain ⟨rfl, hsz, ⟨hP, hK⟩, hD0⟩ := hv
  have hx := B.exec
  have hb := B.bytes
  have hr := B.returns
  have hts := atoms_spec (ws := ws_ yX1_purseOf cX1_purseOf 2 (some .int)) B.pre
  have hts : ∀ w ∈ lw_all, w.before _ s = true := fun w h => hts w (List.mem_cons_of_mem _ h)
  have hown : s.vm.findClass RX1 = some m.cls := findClass_of_methodNamed B.named
  have hlocks := B.notSynchronized
  have hC : CallFix p m c cX1_purseOf 2 s _ lw_all RX1 := ⟨hx, hb, hml, hown, hts⟩
  subst hsz
  have hD := hD0.self (sz := s.heap.size)
  generalize hAe : va_A (mW z a th n w gn lk pu fa he nv of mp mi k nt fu re) s.heap.size = A at hD ⊢
  have hA : ∀ q : Nat, s.heap.size ≤ q → A q := fun q h => by rw [← hAe]; exact Or.inr h
  have hS : va_S A s.heap s.heap [] := va_S.rf
  have hl := lv_entry ([.ref (a 0), .int x]) (n := 2) (Nat.le_of_ble_eq_true rfl)
  rw [lg_entry_eq]
  generalize (lg_sl ([.ref (a 0), .int x]) ++ List.replicate (2 - (lg_sl ([.ref (a 0), .int x])).length) Slot.unset).toArray = ls at hl ⊢
  have hl : lv_has ls 2 [(0, .ref (a 0)), (1, .int x)] := hl
  refine lv_aload_n hx hb dX1_purseOf_0 rfl (lv_at hl 0 rfl) ?_
  refine lv_iload_n hx hb dX1_purseOf_1 rfl (lv_at hl 1 rfl) ?_
  refine lv_aload_n hx hb dX1_purseOf_2 rfl (lv_at hl 0 rfl) ?_
  refine mg_pu hC hK hP dX1_purseOf_3 ?_
  refine k_X1_of_pu_a hC hK hP hD hS hA hl.1 ⟨Nat.le_of_ble_eq_true rfl, Nat.le_of_ble_eq_true rfl⟩ ⟨Nat.zero_le _, Nat.zero_le _⟩ (Nat.le_of_ble_eq_true rfl)  (by first | assumption | omega) (by first | assumption | omega) dX1_purseOf_6 (fun H locs hP hD hS => ?_)
  exact W.iret (v := 0) hx hb hr (fun t ht hW => ⟨⟨0, (), rfl, rfl, by rw [ht]; exact hP, va_K.moved hW.alike hK, hD⟩, hS.F ht⟩) hS.2.2 dX1_purseOf_9
set_option maxHeartbeats 4000000 in
set_option maxRecDepth 100000 in
theorem c_X1_of_fa (l : Launch) (sz : Nat) {D : va_G} {z : ClassId × ClassId} {a : Nat → Nat} {th : Int32} {n w : Nat} {gn lk pu fa he nv of mp mi : Nat → Int32} {k : Nat} {nt fu re : Int32} (i : Nat) (hi : i < n) (hn : n ≤ 10) : Met l yX1_of (ws_ yX1_of cX1_of 3 (some .int)) ({ frames := 2, cells := 0, slots := 0, locals := 43 } : Room) (va_Pc [.ref (a 0), .int (nI i), .ref (a 4)] (fun U => U.heap.size = sz ∧ mI D z a th n w gn lk pu fa he nv of mp mi k nt fu re U ∧ va_D (fun _ => True) (mW z a th n w gn lk pu fa he nv of mp mi k nt fu re))) (va_Qi (fun (r : Int32) (_ : Unit) => r = fa i) (fun _ t9 => va_P D vwCl (mW z a 0 n w gn lk pu fa he nv of mp mi k nt fu re) t9.heap ∧ kK D z t9 ∧ va_D (va_A (mW z a th n w gn lk pu fa he nv of mp mi k nt fu re) sz) (mW z a 0 n w gn lk pu fa he nv of mp mi k nt fu re)) (va_A (mW z a th n w gn lk pu fa he nv of mp mi k nt fu re) sz)) 0 0 (va_A (mW z a th n w gn lk pu fa he nv of mp mi k nt fu re) sz) := by
  refine Met.ofW (cc := cX1_of) (maxL := 3) (ret := (some .int)) (by decide) rfl ?_
  intro p e s m args below meth c s₁ B hml hv
  obtain ⟨rfl, hsz, ⟨hP, hK⟩, hD0⟩ := hv
  have hx := B.exec
  have hb := B.bytes
  have hr := B.returns
  have hts := atoms_spec (ws := ws_ yX1_of cX1_of 3 (some .int)) B.pre
  have hts : ∀ w ∈ lw_all, w.before _ s = true := fun w h => hts w (List.mem_cons_of_mem _ h)
  have hown : s.vm.findClass RX1 = some m.cls := findClass_of_methodNamed B.named
  have hlocks := B.notSynchronized
  have hC : CallFix p m c cX1_of 3 s _ lw_all RX1 := ⟨hx, hb, hml, hown, hts⟩
  subst hsz
  have hD := hD0.self (sz := s.heap.size)
  generalize hAe : va_A (mW z a th n w gn lk pu fa he nv of mp mi k nt fu re) s.heap.size = A at hD ⊢
  have hA : ∀ q : Nat, s.heap.size ≤ q → A q := fun q h => by rw [← hAe]; exact Or.inr h
  have hS : va_S A s.heap s.heap [] := va_S.rf
  have hl := lv_entry ([.ref (a 0), .int (nI i), .ref (a 4)]) (n := 3) (Nat.le_of_ble_eq_true rfl)
  rw [lg_entry_eq]
  generalize (lg_sl ([.ref (a 0), .int (nI i), .ref (a 4)]) ++ List.replicate (3 - (lg_sl ([.ref (a 0), .int (nI i), .ref (a 4)])).length) Slot.unset).toArray = ls at hl ⊢
  have hl : lv_has ls 3 [(0, .ref (a 0)), (1, .int (nI i)), (2, .ref (a 4))] := hl
  refine lv_aload_n hx hb dX1_of_0 rfl (lv_at hl 0 rfl) ?_
  refine lv_iconst (v := 0) hx hb dX1_of_1 (by decide) ?_
  refine mp_th hC hK hP hD hS dX1_of_2 (fun H locs hP hD hS => ?_)
  refine lv_aload_n hx hb dX1_of_5 rfl (lv_at hl 0 rfl) ?_
  refine lv_iload_n hx hb dX1_of_6 rfl (lv_at hl 1 rfl) ?_
  refine k_X1_isPerson hC hK hP hl.1 ⟨Nat.le_of_ble_eq_true rfl, Nat.le_of_ble_eq_true rfl⟩ ⟨Nat.zero_le _, Nat.zero_le _⟩ (Nat.le_of_ble_eq_true rfl)  (by first | assumption | omega) dX1_of_7 ?_
  refine lv_if_eq (tgt := 19) hx hb dX1_of_10 (by decide) (fun c_10 => ?_) (fun c_10 => ?_)
  · exact absurd c_10 (by rw [isP_in (by omega) hi]; decide)
  · refine lv_aload_n hx hb dX1_of_13 rfl (lv_at hl 2 rfl) ?_
    refine lv_iload_n hx hb dX1_of_14 rfl (lv_at hl 1 rfl) ?_
    refine ml_fa hC hK hP i rfl (by omega) dX1_of_15 ?_
    refine lv_goto (tgt := 24) hx hb dX1_of_16 (by decide) ?_
    exact W.iret (v := fa i) hx hb hr (fun t ht hW => ⟨⟨fa i, (), rfl, rfl, by rw [ht]; exact hP, va_K.moved hW.alike hK, hD⟩, hS.F ht⟩) hS.2.2 dX1_of_24
set_option maxRecDepth 100000 in
theorem k_X1_of_fa {p : Program} {l : Launch} {e : Env} {R : Room} {s : State} {m : MethodId} {args : Array Value} {below : List Frame} {meth : Method} {c : Code} {H : Heap} {locs : List Loc} {cells slots : Nat} {Q : State → Prop} {D : va_G} {z : ClassId × ClassId} {a : Nat → Nat} {th : Int32} {n w : Nat} {gn lk pu fa he nv of mp mi : Nat → Int32} {k : Nat} {nt fu re : Int32} {cc : ByteArray} {nL pc : Nat} {ls : Array Slot} {rest : List Value} {A : Nat → Prop} {H0 : Heap} (hC : CallFix p m c cc nL s args lw_all RX1) (hK : kK D z s) (hP : va_P D vwCl (mW z a th n w gn lk pu fa he nv of mp mi k nt fu re) H) (hD : va_D A (mW z a th n w gn lk pu fa he nv of mp mi k nt fu re)) (hS : va_S A H0 H locs) (hA : ∀ q : Nat, H0.size ≤ q → A q) (hl : ls.size = nL) (hR : 3 ≤ R.frames ∧ 65 ≤ R.locals) (hz : cells ≤ R.cells ∧ slots ≤ R.slots) (hr : (rest.map fun v => v.category).sum ≤ 8) {i : Nat} {x0 : Int32} (hx0 : x0 = nI i) (hi : i < n) (hn : n ≤ 10) (hdg : decode cc pc = .ok (.invokevirtual 137, 3)) (kk : ∀ (H1 : Heap) (locs1 : List Loc), va_P D vwCl (mW z a 0 n w gn lk pu fa he nv of mp mi k nt fu re) H1 → va_D A (mW z a 0 n w gn lk pu fa he nv of mp mi k nt fu re) → va_S A H0 H1 locs1 → W p l e R s m args below meth c H1 locs1 cells slots Q (F0 m (pc + 3) ls (.int (fa i) :: rest))) : W p l e R s m args below meth c H locs cells slots Q (F0 m pc ls (.ref (a 4) :: .int x0 :: .ref (a 0) :: rest)) := by
  subst hx0
  have hF := va_free (wc := mW z a th n w gn lk pu fa he nv of mp mi k nt fu re) hD hS hA [0, 1, 2, 3, 4, 5, 6, 7, 8, 9] rfl
  refine va_calli (va_runV (As := [.int (nI i), .ref (a 4)]) (rest := rest) hC (c_X1_of_fa l H.size i hi hn) (cwV 2 hC.2.2.2.2 (gi_V mM_X1_137 mV_X1_of mS_X1_of mI_MissRegistryModel mC_X1_of) rfl rfl rfl (by decide +kernel) hR) ⟨fun a1 U g mk q => ⟨q.1, q.2.1, ⟨q.2.2.1.1, va_K.moved (u := U) (U := U.calling g mk a1) (Vm.Alike.refl U.vm) q.2.2.1.2⟩, q.2.2.2⟩, va_recv hK hP (ci := 1) (q0 := 0) rfl rfl, fun U hU hW => ⟨rfl, by rw [hU], ⟨by rw [hU]; exact hP, va_K.moved hW.alike hK⟩, hD.weaken (fun _ _ _ _ => trivial)⟩⟩ rfl rfl hl rfl (lv_room hr) hdg hz) hS (fun q _ h => hF q h) hF (fun r u t H1 locs1 ht hvm hw hB hz1 hk1 hS1 => ?_)
  obtain ⟨hP1, hK1, hD1⟩ := hB
  rw [ht] at hP1
  have hw : r = fa i := hw
  rw [hw]
  exact kk H1 locs1 hP1 (hD1.weaken (fun _ q9 _ h => hF q9.1 h)) hS1
set_option maxHeartbeats 4000000 in
set_option maxRecDepth 100000 in
theorem c_X1_of_fa_a (l : Launch) (sz : Nat) {D : va_G} {z : ClassId × ClassId} {a : Nat → Nat} {th : Int32} {n w : Nat} {gn lk pu fa he nv of mp mi : Nat → Int32} {k : Nat} {nt fu re : Int32} (x : Int32) (hn : n ≤ 10) (hbad : sp_isP n x = 0) : Met l yX1_of (ws_ yX1_of cX1_of 3 (some .int)) ({ frames := 2, cells := 0, slots := 0, locals := 43 } : Room) (va_Pc [.ref (a 0), .int x, .ref (a 4)] (fun U => U.heap.size = sz ∧ mI D z a th n w gn lk pu fa he nv of mp mi k nt fu re U ∧ va_D (fun _ => True) (mW z a th n w gn lk pu fa he nv of mp mi k nt fu re))) (va_Qi (fun (r : Int32) (_ : Unit) => r = 0) (fun _ t9 => va_P D vwCl (mW z a 1 n w gn lk pu fa he nv of mp mi k nt fu re) t9.heap ∧ kK D z t9 ∧ va_D (va_A (mW z a th n w gn lk pu fa he nv of mp mi k nt fu re) sz) (mW z a 1 n w gn lk pu fa he nv of mp mi k nt fu re)) (va_A (mW z a th n w gn lk pu fa he nv of mp mi k nt fu re) sz)) 0 0 (va_A (mW z a th n w gn lk pu fa he nv of mp mi k nt fu re) sz) := by
  refine Met.ofW (cc := cX1_of) (maxL := 3) (ret := (some .int)) (by decide) rfl ?_
  intro p e s m args below meth c s₁ B hml hv
  obtain ⟨rfl, hsz, ⟨hP, hK⟩, hD0⟩ := hv
  have hx := B.exec
  have hb := B.bytes
  have hr := B.returns
  have hts := atoms_spec (ws := ws_ yX1_of cX1_of 3 (some .int)) B.pre
  have hts : ∀ w ∈ lw_all, w.before _ s = true := fun w h => hts w (List.mem_cons_of_mem _ h)
  have hown : s.vm.findClass RX1 = some m.cls := findClass_of_methodNamed B.named
  have hlocks := B.notSynchronized
  have hC : CallFix p m c cX1_of 3 s _ lw_all RX1 := ⟨hx, hb, hml, hown, hts⟩
  subst hsz
  have hD := hD0.self (sz := s.heap.size)
  generalize hAe : va_A (mW z a th n w gn lk pu fa he nv of mp mi k nt fu re) s.heap.size = A at hD ⊢
  have hA : ∀ q : Nat, s.heap.size ≤ q → A q := fun q h => by rw [← hAe]; exact Or.inr h
  have hS : va_S A s.heap s.heap [] := va_S.rf
  have hl := lv_entry ([.ref (a 0), .int x, .ref (a 4)]) (n := 3) (Nat.le_of_ble_eq_true rfl)
  rw [lg_entry_eq]
  generalize (lg_sl ([.ref (a 0), .int x, .ref (a 4)]) ++ List.replicate (3 - (lg_sl ([.ref (a 0), .int x, .ref (a 4)])).length) Slot.unset).toArray = ls at hl ⊢
  have hl : lv_has ls 3 [(0, .ref (a 0)), (1, .int x), (2, .ref (a 4))] := hl
  refine lv_aload_n hx hb dX1_of_0 rfl (lv_at hl 0 rfl) ?_
  refine lv_iconst (v := 0) hx hb dX1_of_1 (by decide) ?_
  refine mp_th hC hK hP hD hS dX1_of_2 (fun H locs hP hD hS => ?_)
  refine lv_aload_n hx hb dX1_of_5 rfl (lv_at hl 0 rfl) ?_
  refine lv_iload_n hx hb dX1_of_6 rfl (lv_at hl 1 rfl) ?_
  refine k_X1_isPerson hC hK hP hl.1 ⟨Nat.le_of_ble_eq_true rfl, Nat.le_of_ble_eq_true rfl⟩ ⟨Nat.zero_le _, Nat.zero_le _⟩ (Nat.le_of_ble_eq_true rfl)  (by first | assumption | omega) dX1_of_7 ?_
  refine lv_if_eq (tgt := 19) hx hb dX1_of_10 (by decide) (fun c_10 => ?_) (fun c_10 => ?_)
  · refine lv_aload_n hx hb dX1_of_19 rfl (lv_at hl 0 rfl) ?_
    refine lv_iconst (v := 1) hx hb dX1_of_20 (by decide) ?_
    refine k_X1_fail hC hK hP hD hS hA hl.1 ⟨Nat.le_of_ble_eq_true rfl, Nat.le_of_ble_eq_true rfl⟩ ⟨Nat.zero_le _, Nat.zero_le _⟩ (Nat.le_of_ble_eq_true rfl)   dX1_of_21 (fun H locs hP hD hS => ?_)
    exact W.iret (v := 0) hx hb hr (fun t ht hW => ⟨⟨0, (), rfl, rfl, by rw [ht]; exact hP, va_K.moved hW.alike hK, hD⟩, hS.F ht⟩) hS.2.2 dX1_of_24
  · exact absurd hbad c_10
set_option maxRecDepth 100000 in
theorem k_X1_of_fa_a {p : Program} {l : Launch} {e : Env} {R : Room} {s : State} {m : MethodId} {args : Array Value} {below : List Frame} {meth : Method} {c : Code} {H : Heap} {locs : List Loc} {cells slots : Nat} {Q : State → Prop} {D : va_G} {z : ClassId × ClassId} {a : Nat → Nat} {th : Int32} {n w : Nat} {gn lk pu fa he nv of mp mi : Nat → Int32} {k : Nat} {nt fu re : Int32} {cc : ByteArray} {nL pc : Nat} {ls : Array Slot} {rest : List Value} {A : Nat → Prop} {H0 : Heap} (hC : CallFix p m c cc nL s args lw_all RX1) (hK : kK D z s) (hP : va_P D vwCl (mW z a th n w gn lk pu fa he nv of mp mi k nt fu re) H) (hD : va_D A (mW z a th n w gn lk pu fa he nv of mp mi k nt fu re)) (hS : va_S A H0 H locs) (hA : ∀ q : Nat, H0.size ≤ q → A q) (hl : ls.size = nL) (hR : 3 ≤ R.frames ∧ 65 ≤ R.locals) (hz : cells ≤ R.cells ∧ slots ≤ R.slots) (hr : (rest.map fun v => v.category).sum ≤ 8) {x : Int32}  (hn : n ≤ 10) (hbad : sp_isP n x = 0) (hdg : decode cc pc = .ok (.invokevirtual 137, 3)) (kk : ∀ (H1 : Heap) (locs1 : List Loc), va_P D vwCl (mW z a 1 n w gn lk pu fa he nv of mp mi k nt fu re) H1 → va_D A (mW z a 1 n w gn lk pu fa he nv of mp mi k nt fu re) → va_S A H0 H1 locs1 → W p l e R s m args below meth c H1 locs1 cells slots Q (F0 m (pc + 3) ls (.int 0 :: rest))) : W p l e R s m args below meth c H locs cells slots Q (F0 m pc ls (.ref (a 4) :: .int x :: .ref (a 0) :: rest)) := by
  have hF := va_free (wc := mW z a th n w gn lk pu fa he nv of mp mi k nt fu re) hD hS hA [0, 1, 2, 3, 4, 5, 6, 7, 8, 9] rfl
  refine va_calli (va_runV (As := [.int x, .ref (a 4)]) (rest := rest) hC (c_X1_of_fa_a l H.size x hn hbad) (cwV 2 hC.2.2.2.2 (gi_V mM_X1_137 mV_X1_of mS_X1_of mI_MissRegistryModel mC_X1_of) rfl rfl rfl (by decide +kernel) hR) ⟨fun a1 U g mk q => ⟨q.1, q.2.1, ⟨q.2.2.1.1, va_K.moved (u := U) (U := U.calling g mk a1) (Vm.Alike.refl U.vm) q.2.2.1.2⟩, q.2.2.2⟩, va_recv hK hP (ci := 1) (q0 := 0) rfl rfl, fun U hU hW => ⟨rfl, by rw [hU], ⟨by rw [hU]; exact hP, va_K.moved hW.alike hK⟩, hD.weaken (fun _ _ _ _ => trivial)⟩⟩ rfl rfl hl rfl (lv_room hr) hdg hz) hS (fun q _ h => hF q h) hF (fun r u t H1 locs1 ht hvm hw hB hz1 hk1 hS1 => ?_)
  obtain ⟨hP1, hK1, hD1⟩ := hB
  rw [ht] at hP1
  have hw : r = 0 := hw
  rw [hw]
  exact kk H1 locs1 hP1 (hD1.weaken (fun _ q9 _ h => hF q9.1 h)) hS1
set_option maxHeartbeats 4000000 in
set_option maxRecDepth 100000 in
theorem c_X1_fatesOf (l : Launch) (sz : Nat) {D : va_G} {z : ClassId × ClassId} {a : Nat → Nat} {th : Int32} {n w : Nat} {gn lk pu fa he nv of mp mi : Nat → Int32} {k : Nat} {nt fu re : Int32} (i : Nat) (hi : i < n) (hn : n ≤ 10) : Met l yX1_fatesOf (ws_ yX1_fatesOf cX1_fatesOf 2 (some .int)) ({ frames := 3, cells := 0, slots := 0, locals := 65 } : Room) (va_Pc [.ref (a 0), .int (nI i)] (fun U => U.heap.size = sz ∧ mI D z a th n w gn lk pu fa he nv of mp mi k nt fu re U ∧ va_D (fun _ => True) (mW z a th n w gn lk pu fa he nv of mp mi k nt fu re))) (va_Qi (fun (r : Int32) (_ : Unit) => r = fa i) (fun _ t9 => va_P D vwCl (mW z a 0 n w gn lk pu fa he nv of mp mi k nt fu re) t9.heap ∧ kK D z t9 ∧ va_D (va_A (mW z a th n w gn lk pu fa he nv of mp mi k nt fu re) sz) (mW z a 0 n w gn lk pu fa he nv of mp mi k nt fu re)) (va_A (mW z a th n w gn lk pu fa he nv of mp mi k nt fu re) sz)) 0 0 (va_A (mW z a th n w gn lk pu fa he nv of mp mi k nt fu re) sz) := by
  refine Met.ofW (cc := cX1_fatesOf) (maxL := 2) (ret := (some .int)) (by decide) rfl ?_
  intro p e s m args below meth c s₁ B hml hv
  obtain ⟨rfl, hsz, ⟨hP, hK⟩, hD0⟩ := hv
  have hx := B.exec
  have hb := B.bytes
  have hr := B.returns
  have hts := atoms_spec (ws := ws_ yX1_fatesOf cX1_fatesOf 2 (some .int)) B.pre
  have hts : ∀ w ∈ lw_all, w.before _ s = true := fun w h => hts w (List.mem_cons_of_mem _ h)
  have hown : s.vm.findClass RX1 = some m.cls := findClass_of_methodNamed B.named
  have hlocks := B.notSynchronized
  have hC : CallFix p m c cX1_fatesOf 2 s _ lw_all RX1 := ⟨hx, hb, hml, hown, hts⟩
  subst hsz
  have hD := hD0.self (sz := s.heap.size)
  generalize hAe : va_A (mW z a th n w gn lk pu fa he nv of mp mi k nt fu re) s.heap.size = A at hD ⊢
  have hA : ∀ q : Nat, s.heap.size ≤ q → A q := fun q h => by rw [← hAe]; exact Or.inr h
  have hS : va_S A s.heap s.heap [] := va_S.rf
  have hl := lv_entry ([.ref (a 0), .int (nI i)]) (n := 2) (Nat.le_of_ble_eq_true rfl)
  rw [lg_entry_eq]
  generalize (lg_sl ([.ref (a 0), .int (nI i)]) ++ List.replicate (2 - (lg_sl ([.ref (a 0), .int (nI i)])).length) Slot.unset).toArray = ls at hl ⊢
  have hl : lv_has ls 2 [(0, .ref (a 0)), (1, .int (nI i))] := hl
  refine lv_aload_n hx hb dX1_fatesOf_0 rfl (lv_at hl 0 rfl) ?_
  refine lv_iload_n hx hb dX1_fatesOf_1 rfl (lv_at hl 1 rfl) ?_
  refine lv_aload_n hx hb dX1_fatesOf_2 rfl (lv_at hl 0 rfl) ?_
  refine mg_fa hC hK hP dX1_fatesOf_3 ?_
  refine k_X1_of_fa hC hK hP hD hS hA hl.1 ⟨Nat.le_of_ble_eq_true rfl, Nat.le_of_ble_eq_true rfl⟩ ⟨Nat.zero_le _, Nat.zero_le _⟩ (Nat.le_of_ble_eq_true rfl) rfl (by first | assumption | omega) (by first | assumption | omega) dX1_fatesOf_6 (fun H locs hP hD hS => ?_)
  exact W.iret (v := fa i) hx hb hr (fun t ht hW => ⟨⟨fa i, (), rfl, rfl, by rw [ht]; exact hP, va_K.moved hW.alike hK, hD⟩, hS.F ht⟩) hS.2.2 dX1_fatesOf_9
set_option maxHeartbeats 4000000 in
set_option maxRecDepth 100000 in
theorem c_X1_fatesOf_a (l : Launch) (sz : Nat) {D : va_G} {z : ClassId × ClassId} {a : Nat → Nat} {th : Int32} {n w : Nat} {gn lk pu fa he nv of mp mi : Nat → Int32} {k : Nat} {nt fu re : Int32} (x : Int32) (hn : n ≤ 10) (hbad : sp_isP n x = 0) : Met l yX1_fatesOf (ws_ yX1_fatesOf cX1_fatesOf 2 (some .int)) ({ frames := 3, cells := 0, slots := 0, locals := 65 } : Room) (va_Pc [.ref (a 0), .int x] (fun U => U.heap.size = sz ∧ mI D z a th n w gn lk pu fa he nv of mp mi k nt fu re U ∧ va_D (fun _ => True) (mW z a th n w gn lk pu fa he nv of mp mi k nt fu re))) (va_Qi (fun (r : Int32) (_ : Unit) => r = 0) (fun _ t9 => va_P D vwCl (mW z a 1 n w gn lk pu fa he nv of mp mi k nt fu re) t9.heap ∧ kK D z t9 ∧ va_D (va_A (mW z a th n w gn lk pu fa he nv of mp mi k nt fu re) sz) (mW z a 1 n w gn lk pu fa he nv of mp mi k nt fu re)) (va_A (mW z a th n w gn lk pu fa he nv of mp mi k nt fu re) sz)) 0 0 (va_A (mW z a th n w gn lk pu fa he nv of mp mi k nt fu re) sz) := by
  refine Met.ofW (cc := cX1_fatesOf) (maxL := 2) (ret := (some .int)) (by decide) rfl ?_
  intro p e s m args below meth c s₁ B hml hv
  obtain ⟨rfl, hsz, ⟨hP, hK⟩, hD0⟩ := hv
  have hx := B.exec
  have hb := B.bytes
  have hr := B.returns
  have hts := atoms_spec (ws := ws_ yX1_fatesOf cX1_fatesOf 2 (some .int)) B.pre
  have hts : ∀ w ∈ lw_all, w.before _ s = true := fun w h => hts w (List.mem_cons_of_mem _ h)
  have hown : s.vm.findClass RX1 = some m.cls := findClass_of_methodNamed B.named
  have hlocks := B.notSynchronized
  have hC : CallFix p m c cX1_fatesOf 2 s _ lw_all RX1 := ⟨hx, hb, hml, hown, hts⟩
  subst hsz
  have hD := hD0.self (sz := s.heap.size)
  generalize hAe : va_A (mW z a th n w gn lk pu fa he nv of mp mi k nt fu re) s.heap.size = A at hD ⊢
  have hA : ∀ q : Nat, s.heap.size ≤ q → A q := fun q h => by rw [← hAe]; exact Or.inr h
  have hS : va_S A s.heap s.heap [] := va_S.rf
  have hl := lv_entry ([.ref (a 0), .int x]) (n := 2) (Nat.le_of_ble_eq_true rfl)
  rw [lg_entry_eq]
  generalize (lg_sl ([.ref (a 0), .int x]) ++ List.replicate (2 - (lg_sl ([.ref (a 0), .int x])).length) Slot.unset).toArray = ls at hl ⊢
  have hl : lv_has ls 2 [(0, .ref (a 0)), (1, .int x)] := hl
  refine lv_aload_n hx hb dX1_fatesOf_0 rfl (lv_at hl 0 rfl) ?_
  refine lv_iload_n hx hb dX1_fatesOf_1 rfl (lv_at hl 1 rfl) ?_
  refine lv_aload_n hx hb dX1_fatesOf_2 rfl (lv_at hl 0 rfl) ?_
  refine mg_fa hC hK hP dX1_fatesOf_3 ?_
  refine k_X1_of_fa_a hC hK hP hD hS hA hl.1 ⟨Nat.le_of_ble_eq_true rfl, Nat.le_of_ble_eq_true rfl⟩ ⟨Nat.zero_le _, Nat.zero_le _⟩ (Nat.le_of_ble_eq_true rfl)  (by first | assumption | omega) (by first | assumption | omega) dX1_fatesOf_6 (fun H locs hP hD hS => ?_)
  exact W.iret (v := 0) hx hb hr (fun t ht hW => ⟨⟨0, (), rfl, rfl, by rw [ht]; exact hP, va_K.moved hW.alike hK, hD⟩, hS.F ht⟩) hS.2.2 dX1_fatesOf_9
set_option maxHeartbeats 4000000 in
set_option maxRecDepth 100000 in
theorem c_X1_of_he (l : Launch) (sz : Nat) {D : va_G} {z : ClassId × ClassId} {a : Nat → Nat} {th : Int32} {n w : Nat} {gn lk pu fa he nv of mp mi : Nat → Int32} {k : Nat} {nt fu re : Int32} (i : Nat) (hi : i < n) (hn : n ≤ 10) : Met l yX1_of (ws_ yX1_of cX1_of 3 (some .int)) ({ frames := 2, cells := 0, slots := 0, locals := 43 } : Room) (va_Pc [.ref (a 0), .int (nI i), .ref (a 5)] (fun U => U.heap.size = sz ∧ mI D z a th n w gn lk pu fa he nv of mp mi k nt fu re U ∧ va_D (fun _ => True) (mW z a th n w gn lk pu fa he nv of mp mi k nt fu re))) (va_Qi (fun (r : Int32) (_ : Unit) => r = he i) (fun _ t9 => va_P D vwCl (mW z a 0 n w gn lk pu fa he nv of mp mi k nt fu re) t9.heap ∧ kK D z t9 ∧ va_D (va_A (mW z a th n w gn lk pu fa he nv of mp mi k nt fu re) sz) (mW z a 0 n w gn lk pu fa he nv of mp mi k nt fu re)) (va_A (mW z a th n w gn lk pu fa he nv of mp mi k nt fu re) sz)) 0 0 (va_A (mW z a th n w gn lk pu fa he nv of mp mi k nt fu re) sz) := by
  refine Met.ofW (cc := cX1_of) (maxL := 3) (ret := (some .int)) (by decide) rfl ?_
  intro p e s m args below meth c s₁ B hml hv
  obtain ⟨rfl, hsz, ⟨hP, hK⟩, hD0⟩ := hv
  have hx := B.exec
  have hb := B.bytes
  have hr := B.returns
  have hts := atoms_spec (ws := ws_ yX1_of cX1_of 3 (some .int)) B.pre
  have hts : ∀ w ∈ lw_all, w.before _ s = true := fun w h => hts w (List.mem_cons_of_mem _ h)
  have hown : s.vm.findClass RX1 = some m.cls := findClass_of_methodNamed B.named
  have hlocks := B.notSynchronized
  have hC : CallFix p m c cX1_of 3 s _ lw_all RX1 := ⟨hx, hb, hml, hown, hts⟩
  subst hsz
  have hD := hD0.self (sz := s.heap.size)
  generalize hAe : va_A (mW z a th n w gn lk pu fa he nv of mp mi k nt fu re) s.heap.size = A at hD ⊢
  have hA : ∀ q : Nat, s.heap.size ≤ q → A q := fun q h => by rw [← hAe]; exact Or.inr h
  have hS : va_S A s.heap s.heap [] := va_S.rf
  have hl := lv_entry ([.ref (a 0), .int (nI i), .ref (a 5)]) (n := 3) (Nat.le_of_ble_eq_true rfl)
  rw [lg_entry_eq]
  generalize (lg_sl ([.ref (a 0), .int (nI i), .ref (a 5)]) ++ List.replicate (3 - (lg_sl ([.ref (a 0), .int (nI i), .ref (a 5)])).length) Slot.unset).toArray = ls at hl ⊢
  have hl : lv_has ls 3 [(0, .ref (a 0)), (1, .int (nI i)), (2, .ref (a 5))] := hl
  refine lv_aload_n hx hb dX1_of_0 rfl (lv_at hl 0 rfl) ?_
  refine lv_iconst (v := 0) hx hb dX1_of_1 (by decide) ?_
  refine mp_th hC hK hP hD hS dX1_of_2 (fun H locs hP hD hS => ?_)
  refine lv_aload_n hx hb dX1_of_5 rfl (lv_at hl 0 rfl) ?_
  refine lv_iload_n hx hb dX1_of_6 rfl (lv_at hl 1 rfl) ?_
  refine k_X1_isPerson hC hK hP hl.1 ⟨Nat.le_of_ble_eq_true rfl, Nat.le_of_ble_eq_true rfl⟩ ⟨Nat.zero_le _, Nat.zero_le _⟩ (Nat.le_of_ble_eq_true rfl)  (by first | assumption | omega) dX1_of_7 ?_
  refine lv_if_eq (tgt := 19) hx hb dX1_of_10 (by decide) (fun c_10 => ?_) (fun c_10 => ?_)
  · exact absurd c_10 (by rw [isP_in (by omega) hi]; decide)
  · refine lv_aload_n hx hb dX1_of_13 rfl (lv_at hl 2 rfl) ?_
    refine lv_iload_n hx hb dX1_of_14 rfl (lv_at hl 1 rfl) ?_
    refine ml_he hC hK hP i rfl (by omega) dX1_of_15 ?_
    refine lv_goto (tgt := 24) hx hb dX1_of_16 (by decide) ?_
    exact W.iret (v := he i) hx hb hr (fun t ht hW => ⟨⟨he i, (), rfl, rfl, by rw [ht]; exact hP, va_K.moved hW.alike hK, hD⟩, hS.F ht⟩) hS.2.2 dX1_of_24
set_option maxRecDepth 100000 in
theorem k_X1_of_he {p : Program} {l : Launch} {e : Env} {R : Room} {s : State} {m : MethodId} {args : Array Value} {below : List Frame} {meth : Method} {c : Code} {H : Heap} {locs : List Loc} {cells slots : Nat} {Q : State → Prop} {D : va_G} {z : ClassId × ClassId} {a : Nat → Nat} {th : Int32} {n w : Nat} {gn lk pu fa he nv of mp mi : Nat → Int32} {k : Nat} {nt fu re : Int32} {cc : ByteArray} {nL pc : Nat} {ls : Array Slot} {rest : List Value} {A : Nat → Prop} {H0 : Heap} (hC : CallFix p m c cc nL s args lw_all RX1) (hK : kK D z s) (hP : va_P D vwCl (mW z a th n w gn lk pu fa he nv of mp mi k nt fu re) H) (hD : va_D A (mW z a th n w gn lk pu fa he nv of mp mi k nt fu re)) (hS : va_S A H0 H locs) (hA : ∀ q : Nat, H0.size ≤ q → A q) (hl : ls.size = nL) (hR : 3 ≤ R.frames ∧ 65 ≤ R.locals) (hz : cells ≤ R.cells ∧ slots ≤ R.slots) (hr : (rest.map fun v => v.category).sum ≤ 8) {i : Nat} {x0 : Int32} (hx0 : x0 = nI i) (hi : i < n) (hn : n ≤ 10) (hdg : decode cc pc = .ok (.invokevirtual 137, 3)) (kk : ∀ (H1 : Heap) (locs1 : List Loc), va_P D vwCl (mW z a 0 n w gn lk pu fa he nv of mp mi k nt fu re) H1 → va_D A (mW z a 0 n w gn lk pu fa he nv of mp mi k nt fu re) → va_S A H0 H1 locs1 → W p l e R s m args below meth c H1 locs1 cells slots Q (F0 m (pc + 3) ls (.int (he i) :: rest))) : W p l e R s m args below meth c H locs cells slots Q (F0 m pc ls (.ref (a 5) :: .int x0 :: .ref (a 0) :: rest)) := by
  subst hx0
  have hF := va_free (wc := mW z a th n w gn lk pu fa he nv of mp mi k nt fu re) hD hS hA [0, 1, 2, 3, 4, 5, 6, 7, 8, 9] rfl
  refine va_calli (va_runV (As := [.int (nI i), .ref (a 5)]) (rest := rest) hC (c_X1_of_he l H.size i hi hn) (cwV 2 hC.2.2.2.2 (gi_V mM_X1_137 mV_X1_of mS_X1_of mI_MissRegistryModel mC_X1_of) rfl rfl rfl (by decide +kernel) hR) ⟨fun a1 U g mk q => ⟨q.1, q.2.1, ⟨q.2.2.1.1, va_K.moved (u := U) (U := U.calling g mk a1) (Vm.Alike.refl U.vm) q.2.2.1.2⟩, q.2.2.2⟩, va_recv hK hP (ci := 1) (q0 := 0) rfl rfl, fun U hU hW => ⟨rfl, by rw [hU], ⟨by rw [hU]; exact hP, va_K.moved hW.alike hK⟩, hD.weaken (fun _ _ _ _ => trivial)⟩⟩ rfl rfl hl rfl (lv_room hr) hdg hz) hS (fun q _ h => hF q h) hF (fun r u t H1 locs1 ht hvm hw hB hz1 hk1 hS1 => ?_)
  obtain ⟨hP1, hK1, hD1⟩ := hB
  rw [ht] at hP1
  have hw : r = he i := hw
  rw [hw]
  exact kk H1 locs1 hP1 (hD1.weaken (fun _ q9 _ h => hF q9.1 h)) hS1
set_option maxHeartbeats 4000000 in
set_option maxRecDepth 100000 in
theorem c_X1_of_he_a (l : Launch) (sz : Nat) {D : va_G} {z : ClassId × ClassId} {a : Nat → Nat} {th : Int32} {n w : Nat} {gn lk pu fa he nv of mp mi : Nat → Int32} {k : Nat} {nt fu re : Int32} (x : Int32) (hn : n ≤ 10) (hbad : sp_isP n x = 0) : Met l yX1_of (ws_ yX1_of cX1_of 3 (some .int)) ({ frames := 2, cells := 0, slots := 0, locals := 43 } : Room) (va_Pc [.ref (a 0), .int x, .ref (a 5)] (fun U => U.heap.size = sz ∧ mI D z a th n w gn lk pu fa he nv of mp mi k nt fu re U ∧ va_D (fun _ => True) (mW z a th n w gn lk pu fa he nv of mp mi k nt fu re))) (va_Qi (fun (r : Int32) (_ : Unit) => r = 0) (fun _ t9 => va_P D vwCl (mW z a 1 n w gn lk pu fa he nv of mp mi k nt fu re) t9.heap ∧ kK D z t9 ∧ va_D (va_A (mW z a th n w gn lk pu fa he nv of mp mi k nt fu re) sz) (mW z a 1 n w gn lk pu fa he nv of mp mi k nt fu re)) (va_A (mW z a th n w gn lk pu fa he nv of mp mi k nt fu re) sz)) 0 0 (va_A (mW z a th n w gn lk pu fa he nv of mp mi k nt fu re) sz) := by
  refine Met.ofW (cc := cX1_of) (maxL := 3) (ret := (some .int)) (by decide) rfl ?_
  intro p e s m args below meth c s₁ B hml hv
  obtain ⟨rfl, hsz, ⟨hP, hK⟩, hD0⟩ := hv
  have hx := B.exec
  have hb := B.bytes
  have hr := B.returns
  have hts := atoms_spec (ws := ws_ yX1_of cX1_of 3 (some .int)) B.pre
  have hts : ∀ w ∈ lw_all, w.before _ s = true := fun w h => hts w (List.mem_cons_of_mem _ h)
  have hown : s.vm.findClass RX1 = some m.cls := findClass_of_methodNamed B.named
  have hlocks := B.notSynchronized
  have hC : CallFix p m c cX1_of 3 s _ lw_all RX1 := ⟨hx, hb, hml, hown, hts⟩
  subst hsz
  have hD := hD0.self (sz := s.heap.size)
  generalize hAe : va_A (mW z a th n w gn lk pu fa he nv of mp mi k nt fu re) s.heap.size = A at hD ⊢
  have hA : ∀ q : Nat, s.heap.size ≤ q → A q := fun q h => by rw [← hAe]; exact Or.inr h
  have hS : va_S A s.heap s.heap [] := va_S.rf
  have hl := lv_entry ([.ref (a 0), .int x, .ref (a 5)]) (n := 3) (Nat.le_of_ble_eq_true rfl)
  rw [lg_entry_eq]
  generalize (lg_sl ([.ref (a 0), .int x, .ref (a 5)]) ++ List.replicate (3 - (lg_sl ([.ref (a 0), .int x, .ref (a 5)])).length) Slot.unset).toArray = ls at hl ⊢
  have hl : lv_has ls 3 [(0, .ref (a 0)), (1, .int x), (2, .ref (a 5))] := hl
  refine lv_aload_n hx hb dX1_of_0 rfl (lv_at hl 0 rfl) ?_
  refine lv_iconst (v := 0) hx hb dX1_of_1 (by decide) ?_
  refine mp_th hC hK hP hD hS dX1_of_2 (fun H locs hP hD hS => ?_)
  refine lv_aload_n hx hb dX1_of_5 rfl (lv_at hl 0 rfl) ?_
  refine lv_iload_n hx hb dX1_of_6 rfl (lv_at hl 1 rfl) ?_
  refine k_X1_isPerson hC hK hP hl.1 ⟨Nat.le_of_ble_eq_true rfl, Nat.le_of_ble_eq_true rfl⟩ ⟨Nat.zero_le _, Nat.zero_le _⟩ (Nat.le_of_ble_eq_true rfl)  (by first | assumption | omega) dX1_of_7 ?_
  refine lv_if_eq (tgt := 19) hx hb dX1_of_10 (by decide) (fun c_10 => ?_) (fun c_10 => ?_)
  · refine lv_aload_n hx hb dX1_of_19 rfl (lv_at hl 0 rfl) ?_
    refine lv_iconst (v := 1) hx hb dX1_of_20 (by decide) ?_
    refine k_X1_fail hC hK hP hD hS hA hl.1 ⟨Nat.le_of_ble_eq_true rfl, Nat.le_of_ble_eq_true rfl⟩ ⟨Nat.zero_le _, Nat.zero_le _⟩ (Nat.le_of_ble_eq_true rfl)   dX1_of_21 (fun H locs hP hD hS => ?_)
    exact W.iret (v := 0) hx hb hr (fun t ht hW => ⟨⟨0, (), rfl, rfl, by rw [ht]; exact hP, va_K.moved hW.alike hK, hD⟩, hS.F ht⟩) hS.2.2 dX1_of_24
  · exact absurd hbad c_10
set_option maxRecDepth 100000 in
theorem k_X1_of_he_a {p : Program} {l : Launch} {e : Env} {R : Room} {s : State} {m : MethodId} {args : Array Value} {below : List Frame} {meth : Method} {c : Code} {H : Heap} {locs : List Loc} {cells slots : Nat} {Q : State → Prop} {D : va_G} {z : ClassId × ClassId} {a : Nat → Nat} {th : Int32} {n w : Nat} {gn lk pu fa he nv of mp mi : Nat → Int32} {k : Nat} {nt fu re : Int32} {cc : ByteArray} {nL pc : Nat} {ls : Array Slot} {rest : List Value} {A : Nat → Prop} {H0 : Heap} (hC : CallFix p m c cc nL s args lw_all RX1) (hK : kK D z s) (hP : va_P D vwCl (mW z a th n w gn lk pu fa he nv of mp mi k nt fu re) H) (hD : va_D A (mW z a th n w gn lk pu fa he nv of mp mi k nt fu re)) (hS : va_S A H0 H locs) (hA : ∀ q : Nat, H0.size ≤ q → A q) (hl : ls.size = nL) (hR : 3 ≤ R.frames ∧ 65 ≤ R.locals) (hz : cells ≤ R.cells ∧ slots ≤ R.slots) (hr : (rest.map fun v => v.category).sum ≤ 8) {x : Int32}  (hn : n ≤ 10) (hbad : sp_isP n x = 0) (hdg : decode cc pc = .ok (.invokevirtual 137, 3)) (kk : ∀ (H1 : Heap) (locs1 : List Loc), va_P D vwCl (mW z a 1 n w gn lk pu fa he nv of mp mi k nt fu re) H1 → va_D A (mW z a 1 n w gn lk pu fa he nv of mp mi k nt fu re) → va_S A H0 H1 locs1 → W p l e R s m args below meth c H1 locs1 cells slots Q (F0 m (pc + 3) ls (.int 0 :: rest))) : W p l e R s m args below meth c H locs cells slots Q (F0 m pc ls (.ref (a 5) :: .int x :: .ref (a 0) :: rest)) := by
  have hF := va_free (wc := mW z a th n w gn lk pu fa he nv of mp mi k nt fu re) hD hS hA [0, 1, 2, 3, 4, 5, 6, 7, 8, 9] rfl
  refine va_calli (va_runV (As := [.int x, .ref (a 5)]) (rest := rest) hC (c_X1_of_he_a l H.size x hn hbad) (cwV 2 hC.2.2.2.2 (gi_V mM_X1_137 mV_X1_of mS_X1_of mI_MissRegistryModel mC_X1_of) rfl rfl rfl (by decide +kernel) hR) ⟨fun a1 U g mk q => ⟨q.1, q.2.1, ⟨q.2.2.1.1, va_K.moved (u := U) (U := U.calling g mk a1) (Vm.Alike.refl U.vm) q.2.2.1.2⟩, q.2.2.2⟩, va_recv hK hP (ci := 1) (q0 := 0) rfl rfl, fun U hU hW => ⟨rfl, by rw [hU], ⟨by rw [hU]; exact hP, va_K.moved hW.alike hK⟩, hD.weaken (fun _ _ _ _ => trivial)⟩⟩ rfl rfl hl rfl (lv_room hr) hdg hz) hS (fun q _ h => hF q h) hF (fun r u t H1 locs1 ht hvm hw hB hz1 hk1 hS1 => ?_)
  obtain ⟨hP1, hK1, hD1⟩ := hB
  rw [ht] at hP1
  have hw : r = 0 := hw
  rw [hw]
  exact kk H1 locs1 hP1 (hD1.weaken (fun _ q9 _ h => hF q9.1 h)) hS1
set_option maxHeartbeats 4000000 in
set_option maxRecDepth 100000 in
theorem c_X1_heirOf (l : Launch) (sz : Nat) {D : va_G} {z : ClassId × ClassId} {a : Nat → Nat} {th : Int32} {n w : Nat} {gn lk pu fa he nv of mp mi : Nat → Int32} {k : Nat} {nt fu re : Int32} (i : Nat) (hi : i < n) (hn : n ≤ 10) : Met l yX1_heirOf (ws_ yX1_heirOf cX1_heirOf 2 (some .int)) ({ frames := 3, cells := 0, slots := 0, locals := 65 } : Room) (va_Pc [.ref (a 0), .int (nI i)] (fun U => U.heap.size = sz ∧ mI D z a th n w gn lk pu fa he nv of mp mi k nt fu re U ∧ va_D (fun _ => True) (mW z a th n w gn lk pu fa he nv of mp mi k nt fu re))) (va_Qi (fun (r : Int32) (_ : Unit) => r = he i) (fun _ t9 => va_P D vwCl (mW z a 0 n w gn lk pu fa he nv of mp mi k nt fu re) t9.heap ∧ kK D z t9 ∧ va_D (va_A (mW z a th n w gn lk pu fa he nv of mp mi k nt fu re) sz) (mW z a 0 n w gn lk pu fa he nv of mp mi k nt fu re)) (va_A (mW z a th n w gn lk pu fa he nv of mp mi k nt fu re) sz)) 0 0 (va_A (mW z a th n w gn lk pu fa he nv of mp mi k nt fu re) sz) := by
  refine Met.ofW (cc := cX1_heirOf) (maxL := 2) (ret := (some .int)) (by decide) rfl ?_
  intro p e s m args below meth c s₁ B hml hv
  obtain ⟨rfl, hsz, ⟨hP, hK⟩, hD0⟩ := hv
  have hx := B.exec
  have hb := B.bytes
  have hr := B.returns
  have hts := atoms_spec (ws := ws_ yX1_heirOf cX1_heirOf 2 (some .int)) B.pre
  have hts : ∀ w ∈ lw_all, w.before _ s = true := fun w h => hts w (List.mem_cons_of_mem _ h)
  have hown : s.vm.findClass RX1 = some m.cls := findClass_of_methodNamed B.named
  have hlocks := B.notSynchronized
  have hC : CallFix p m c cX1_heirOf 2 s _ lw_all RX1 := ⟨hx, hb, hml, hown, hts⟩
  subst hsz
  have hD := hD0.self (sz := s.heap.size)
  generalize hAe : va_A (mW z a th n w gn lk pu fa he nv of mp mi k nt fu re) s.heap.size = A at hD ⊢
  have hA : ∀ q : Nat, s.heap.size ≤ q → A q := fun q h => by rw [← hAe]; exact Or.inr h
  have hS : va_S A s.heap s.heap [] := va_S.rf
  have hl := lv_entry ([.ref (a 0), .int (nI i)]) (n := 2) (Nat.le_of_ble_eq_true rfl)
  rw [lg_entry_eq]
  generalize (lg_sl ([.ref (a 0), .int (nI i)]) ++ List.replicate (2 - (lg_sl ([.ref (a 0), .int (nI i)])).length) Slot.unset).toArray = ls at hl ⊢
  have hl : lv_has ls 2 [(0, .ref (a 0)), (1, .int (nI i))] := hl
  refine lv_aload_n hx hb dX1_heirOf_0 rfl (lv_at hl 0 rfl) ?_
  refine lv_iload_n hx hb dX1_heirOf_1 rfl (lv_at hl 1 rfl) ?_
  refine lv_aload_n hx hb dX1_heirOf_2 rfl (lv_at hl 0 rfl) ?_
  refine mg_he hC hK hP dX1_heirOf_3 ?_
  refine k_X1_of_he hC hK hP hD hS hA hl.1 ⟨Nat.le_of_ble_eq_true rfl, Nat.le_of_ble_eq_true rfl⟩ ⟨Nat.zero_le _, Nat.zero_le _⟩ (Nat.le_of_ble_eq_true rfl) rfl (by first | assumption | omega) (by first | assumption | omega) dX1_heirOf_6 (fun H locs hP hD hS => ?_)
  exact W.iret (v := he i) hx hb hr (fun t ht hW => ⟨⟨he i, (), rfl, rfl, by rw [ht]; exact hP, va_K.moved hW.alike hK, hD⟩, hS.F ht⟩) hS.2.2 dX1_heirOf_9
set_option maxHeartbeats 4000000 in
set_option maxRecDepth 100000 in
theorem c_X1_heirOf_a (l : Launch) (sz : Nat) {D : va_G} {z : ClassId × ClassId} {a : Nat → Nat} {th : Int32} {n w : Nat} {gn lk pu fa he nv of mp mi : Nat → Int32} {k : Nat} {nt fu re : Int32} (x : Int32) (hn : n ≤ 10) (hbad : sp_isP n x = 0) : Met l yX1_heirOf (ws_ yX1_heirOf cX1_heirOf 2 (some .int)) ({ frames := 3, cells := 0, slots := 0, locals := 65 } : Room) (va_Pc [.ref (a 0), .int x] (fun U => U.heap.size = sz ∧ mI D z a th n w gn lk pu fa he nv of mp mi k nt fu re U ∧ va_D (fun _ => True) (mW z a th n w gn lk pu fa he nv of mp mi k nt fu re))) (va_Qi (fun (r : Int32) (_ : Unit) => r = 0) (fun _ t9 => va_P D vwCl (mW z a 1 n w gn lk pu fa he nv of mp mi k nt fu re) t9.heap ∧ kK D z t9 ∧ va_D (va_A (mW z a th n w gn lk pu fa he nv of mp mi k nt fu re) sz) (mW z a 1 n w gn lk pu fa he nv of mp mi k nt fu re)) (va_A (mW z a th n w gn lk pu fa he nv of mp mi k nt fu re) sz)) 0 0 (va_A (mW z a th n w gn lk pu fa he nv of mp mi k nt fu re) sz) := by
  refine Met.ofW (cc := cX1_heirOf) (maxL := 2) (ret := (some .int)) (by decide) rfl ?_
  intro p e s m args below meth c s₁ B hml hv
  obtain ⟨rfl, hsz, ⟨hP, hK⟩, hD0⟩ := hv
  have hx := B.exec
  have hb := B.bytes
  have hr := B.returns
  have hts := atoms_spec (ws := ws_ yX1_heirOf cX1_heirOf 2 (some .int)) B.pre
  have hts : ∀ w ∈ lw_all, w.before _ s = true := fun w h => hts w (List.mem_cons_of_mem _ h)
  have hown : s.vm.findClass RX1 = some m.cls := findClass_of_methodNamed B.named
  have hlocks := B.notSynchronized
  have hC : CallFix p m c cX1_heirOf 2 s _ lw_all RX1 := ⟨hx, hb, hml, hown, hts⟩
  subst hsz
  have hD := hD0.self (sz := s.heap.size)
  generalize hAe : va_A (mW z a th n w gn lk pu fa he nv of mp mi k nt fu re) s.heap.size = A at hD ⊢
  have hA : ∀ q : Nat, s.heap.size ≤ q → A q := fun q h => by rw [← hAe]; exact Or.inr h
  have hS : va_S A s.heap s.heap [] := va_S.rf
  have hl := lv_entry ([.ref (a 0), .int x]) (n := 2) (Nat.le_of_ble_eq_true rfl)
  rw [lg_entry_eq]
  generalize (lg_sl ([.ref (a 0), .int x]) ++ List.replicate (2 - (lg_sl ([.ref (a 0), .int x])).length) Slot.unset).toArray = ls at hl ⊢
  have hl : lv_has ls 2 [(0, .ref (a 0)), (1, .int x)] := hl
  refine lv_aload_n hx hb dX1_heirOf_0 rfl (lv_at hl 0 rfl) ?_
  refine lv_iload_n hx hb dX1_heirOf_1 rfl (lv_at hl 1 rfl) ?_
  refine lv_aload_n hx hb dX1_heirOf_2 rfl (lv_at hl 0 rfl) ?_
  refine mg_he hC hK hP dX1_heirOf_3 ?_
  refine k_X1_of_he_a hC hK hP hD hS hA hl.1 ⟨Nat.le_of_ble_eq_true rfl, Nat.le_of_ble_eq_true rfl⟩ ⟨Nat.zero_le _, Nat.zero_le _⟩ (Nat.le_of_ble_eq_true rfl)  (by first | assumption | omega) (by first | assumption | omega) dX1_heirOf_6 (fun H locs hP hD hS => ?_)
  exact W.iret (v := 0) hx hb hr (fun t ht hW => ⟨⟨0, (), rfl, rfl, by rw [ht]; exact hP, va_K.moved hW.alike hK, hD⟩, hS.F ht⟩) hS.2.2 dX1_heirOf_9
set_option maxHeartbeats 4000000 in
set_option maxRecDepth 100000 in
theorem c_X1_lastHeirOf (l : Launch) (sz : Nat) {D : va_G} {z : ClassId × ClassId} {a : Nat → Nat} {th : Int32} {n w : Nat} {gn lk pu fa he nv of mp mi : Nat → Int32} {k : Nat} {nt fu re : Int32} (i : Nat) (hi : i < n) (hn : n ≤ 10) (hH : hR he n) : Met l yX1_lastHeirOf (ws_ yX1_lastHeirOf cX1_lastHeirOf 2 (some .int)) ({ frames := 2, cells := 0, slots := 0, locals := 43 } : Room) (va_Pc [.ref (a 0), .int (nI i)] (fun U => U.heap.size = sz ∧ mI D z a th n w gn lk pu fa he nv of mp mi k nt fu re U ∧ va_D (fun _ => True) (mW z a th n w gn lk pu fa he nv of mp mi k nt fu re))) (va_Qi (fun (r : Int32) (_ : Unit) => r = mq_last he gn i (n + 1) i) (fun _ t9 => va_P D vwCl (mW z a 0 n w gn lk pu fa he nv of mp mi k nt fu re) t9.heap ∧ kK D z t9 ∧ va_D (va_A (mW z a th n w gn lk pu fa he nv of mp mi k nt fu re) sz) (mW z a 0 n w gn lk pu fa he nv of mp mi k nt fu re)) (va_A (mW z a th n w gn lk pu fa he nv of mp mi k nt fu re) sz)) 0 0 (va_A (mW z a th n w gn lk pu fa he nv of mp mi k nt fu re) sz) := by
  refine Met.ofW (cc := cX1_lastHeirOf) (maxL := 2) (ret := (some .int)) (by decide) rfl ?_
  intro p e s m args below meth c s₁ B hml hv
  obtain ⟨rfl, hsz, ⟨hP, hK⟩, hD0⟩ := hv
  have hx := B.exec
  have hb := B.bytes
  have hr := B.returns
  have hts := atoms_spec (ws := ws_ yX1_lastHeirOf cX1_lastHeirOf 2 (some .int)) B.pre
  have hts : ∀ w ∈ lw_all, w.before _ s = true := fun w h => hts w (List.mem_cons_of_mem _ h)
  have hown : s.vm.findClass RX1 = some m.cls := findClass_of_methodNamed B.named
  have hlocks := B.notSynchronized
  have hC : CallFix p m c cX1_lastHeirOf 2 s _ lw_all RX1 := ⟨hx, hb, hml, hown, hts⟩
  subst hsz
  have hD := hD0.self (sz := s.heap.size)
  generalize hAe : va_A (mW z a th n w gn lk pu fa he nv of mp mi k nt fu re) s.heap.size = A at hD ⊢
  have hA : ∀ q : Nat, s.heap.size ≤ q → A q := fun q h => by rw [← hAe]; exact Or.inr h
  have hS : va_S A s.heap s.heap [] := va_S.rf
  have hl := lv_entry ([.ref (a 0), .int (nI i)]) (n := 2) (Nat.le_of_ble_eq_true rfl)
  rw [lg_entry_eq]
  generalize (lg_sl ([.ref (a 0), .int (nI i)]) ++ List.replicate (2 - (lg_sl ([.ref (a 0), .int (nI i)])).length) Slot.unset).toArray = ls at hl ⊢
  have hl : lv_has ls 2 [(0, .ref (a 0)), (1, .int (nI i))] := hl
  refine lv_aload_n hx hb dX1_lastHeirOf_0 rfl (lv_at hl 0 rfl) ?_
  refine lv_iconst (v := 0) hx hb dX1_lastHeirOf_1 (by decide) ?_
  refine mp_th hC hK hP hD hS dX1_lastHeirOf_2 (fun H locs hP hD hS => ?_)
  refine lv_aload_n hx hb dX1_lastHeirOf_5 rfl (lv_at hl 0 rfl) ?_
  refine lv_iload_n hx hb dX1_lastHeirOf_6 rfl (lv_at hl 1 rfl) ?_
  refine k_X1_isPerson hC hK hP hl.1 ⟨Nat.le_of_ble_eq_true rfl, Nat.le_of_ble_eq_true rfl⟩ ⟨Nat.zero_le _, Nat.zero_le _⟩ (Nat.le_of_ble_eq_true rfl)  (by first | assumption | omega) dX1_lastHeirOf_7 ?_
  refine lv_if_eq (tgt := 21) hx hb dX1_lastHeirOf_10 (by decide) (fun c_10 => ?_) (fun c_10 => ?_)
  · exact absurd c_10 (by rw [isP_in (by omega) hi]; decide)
  · refine lv_aload_n hx hb dX1_lastHeirOf_13 rfl (lv_at hl 0 rfl) ?_
    refine lv_iload_n hx hb dX1_lastHeirOf_14 rfl (lv_at hl 1 rfl) ?_
    refine k_X1_last hC hK hP hl.1 ⟨Nat.le_of_ble_eq_true rfl, Nat.le_of_ble_eq_true rfl⟩ ⟨Nat.zero_le _, Nat.zero_le _⟩ (Nat.le_of_ble_eq_true rfl) rfl (by first | assumption | omega) (by first | assumption | omega) (by first | assumption | omega) dX1_lastHeirOf_15 ?_
    refine lv_goto (tgt := 26) hx hb dX1_lastHeirOf_18 (by decide) ?_
    exact W.iret (v := mq_last he gn i (n + 1) i) hx hb hr (fun t ht hW => ⟨⟨mq_last he gn i (n + 1) i, (), rfl, rfl, by rw [ht]; exact hP, va_K.moved hW.alike hK, hD⟩, hS.F ht⟩) hS.2.2 dX1_lastHeirOf_26
set_option maxHeartbeats 4000000 in
set_option maxRecDepth 100000 in
theorem c_X1_lastHeirOf_a (l : Launch) (sz : Nat) {D : va_G} {z : ClassId × ClassId} {a : Nat → Nat} {th : Int32} {n w : Nat} {gn lk pu fa he nv of mp mi : Nat → Int32} {k : Nat} {nt fu re : Int32} (x : Int32) (hn : n ≤ 10) (hbad : sp_isP n x = 0) : Met l yX1_lastHeirOf (ws_ yX1_lastHeirOf cX1_lastHeirOf 2 (some .int)) ({ frames := 2, cells := 0, slots := 0, locals := 43 } : Room) (va_Pc [.ref (a 0), .int x] (fun U => U.heap.size = sz ∧ mI D z a th n w gn lk pu fa he nv of mp mi k nt fu re U ∧ va_D (fun _ => True) (mW z a th n w gn lk pu fa he nv of mp mi k nt fu re))) (va_Qi (fun (r : Int32) (_ : Unit) => r = 0) (fun _ t9 => va_P D vwCl (mW z a 1 n w gn lk pu fa he nv of mp mi k nt fu re) t9.heap ∧ kK D z t9 ∧ va_D (va_A (mW z a th n w gn lk pu fa he nv of mp mi k nt fu re) sz) (mW z a 1 n w gn lk pu fa he nv of mp mi k nt fu re)) (va_A (mW z a th n w gn lk pu fa he nv of mp mi k nt fu re) sz)) 0 0 (va_A (mW z a th n w gn lk pu fa he nv of mp mi k nt fu re) sz) := by
  refine Met.ofW (cc := cX1_lastHeirOf) (maxL := 2) (ret := (some .int)) (by decide) rfl ?_
  intro p e s m args below meth c s₁ B hml hv
  obtain ⟨rfl, hsz, ⟨hP, hK⟩, hD0⟩ := hv
  have hx := B.exec
  have hb := B.bytes
  have hr := B.returns
  have hts := atoms_spec (ws := ws_ yX1_lastHeirOf cX1_lastHeirOf 2 (some .int)) B.pre
  have hts : ∀ w ∈ lw_all, w.before _ s = true := fun w h => hts w (List.mem_cons_of_mem _ h)
  have hown : s.vm.findClass RX1 = some m.cls := findClass_of_methodNamed B.named
  have hlocks := B.notSynchronized
  have hC : CallFix p m c cX1_lastHeirOf 2 s _ lw_all RX1 := ⟨hx, hb, hml, hown, hts⟩
  subst hsz
  have hD := hD0.self (sz := s.heap.size)
  generalize hAe : va_A (mW z a th n w gn lk pu fa he nv of mp mi k nt fu re) s.heap.size = A at hD ⊢
  have hA : ∀ q : Nat, s.heap.size ≤ q → A q := fun q h => by rw [← hAe]; exact Or.inr h
  have hS : va_S A s.heap s.heap [] := va_S.rf
  have hl := lv_entry ([.ref (a 0), .int x]) (n := 2) (Nat.le_of_ble_eq_true rfl)
  rw [lg_entry_eq]
  generalize (lg_sl ([.ref (a 0), .int x]) ++ List.replicate (2 - (lg_sl ([.ref (a 0), .int x])).length) Slot.unset).toArray = ls at hl ⊢
  have hl : lv_has ls 2 [(0, .ref (a 0)), (1, .int x)] := hl
  refine lv_aload_n hx hb dX1_lastHeirOf_0 rfl (lv_at hl 0 rfl) ?_
  refine lv_iconst (v := 0) hx hb dX1_lastHeirOf_1 (by decide) ?_
  refine mp_th hC hK hP hD hS dX1_lastHeirOf_2 (fun H locs hP hD hS => ?_)
  refine lv_aload_n hx hb dX1_lastHeirOf_5 rfl (lv_at hl 0 rfl) ?_
  refine lv_iload_n hx hb dX1_lastHeirOf_6 rfl (lv_at hl 1 rfl) ?_
  refine k_X1_isPerson hC hK hP hl.1 ⟨Nat.le_of_ble_eq_true rfl, Nat.le_of_ble_eq_true rfl⟩ ⟨Nat.zero_le _, Nat.zero_le _⟩ (Nat.le_of_ble_eq_true rfl)  (by first | assumption | omega) dX1_lastHeirOf_7 ?_
  refine lv_if_eq (tgt := 21) hx hb dX1_lastHeirOf_10 (by decide) (fun c_10 => ?_) (fun c_10 => ?_)
  · refine lv_aload_n hx hb dX1_lastHeirOf_21 rfl (lv_at hl 0 rfl) ?_
    refine lv_iconst (v := 1) hx hb dX1_lastHeirOf_22 (by decide) ?_
    refine k_X1_fail hC hK hP hD hS hA hl.1 ⟨Nat.le_of_ble_eq_true rfl, Nat.le_of_ble_eq_true rfl⟩ ⟨Nat.zero_le _, Nat.zero_le _⟩ (Nat.le_of_ble_eq_true rfl)   dX1_lastHeirOf_23 (fun H locs hP hD hS => ?_)
    exact W.iret (v := 0) hx hb hr (fun t ht hW => ⟨⟨0, (), rfl, rfl, by rw [ht]; exact hP, va_K.moved hW.alike hK, hD⟩, hS.F ht⟩) hS.2.2 dX1_lastHeirOf_26
  · exact absurd hbad c_10
set_option maxHeartbeats 4000000 in
set_option maxRecDepth 100000 in
theorem c_X1_priceFor (l : Launch) (sz : Nat) {D : va_G} {z : ClassId × ClassId} {a : Nat → Nat} {th : Int32} {n w : Nat} {gn lk pu fa he nv of mp mi : Nat → Int32} {k : Nat} {nt fu re : Int32} (i : Nat) (hi : i < n) (hn : n ≤ 10) : Met l yX1_priceFor (ws_ yX1_priceFor cX1_priceFor 2 (some .int)) ({ frames := 2, cells := 0, slots := 0, locals := 43 } : Room) (va_Pc [.ref (a 0), .int (nI i)] (fun U => U.heap.size = sz ∧ mI D z a th n w gn lk pu fa he nv of mp mi k nt fu re U ∧ va_D (fun _ => True) (mW z a th n w gn lk pu fa he nv of mp mi k nt fu re))) (va_Qi (fun (r : Int32) (_ : Unit) => r = sp_price (lk i)) (fun _ t9 => va_P D vwCl (mW z a 0 n w gn lk pu fa he nv of mp mi k nt fu re) t9.heap ∧ kK D z t9 ∧ va_D (va_A (mW z a th n w gn lk pu fa he nv of mp mi k nt fu re) sz) (mW z a 0 n w gn lk pu fa he nv of mp mi k nt fu re)) (va_A (mW z a th n w gn lk pu fa he nv of mp mi k nt fu re) sz)) 0 0 (va_A (mW z a th n w gn lk pu fa he nv of mp mi k nt fu re) sz) := by
  refine Met.ofW (cc := cX1_priceFor) (maxL := 2) (ret := (some .int)) (by decide) rfl ?_
  intro p e s m args below meth c s₁ B hml hv
  obtain ⟨rfl, hsz, ⟨hP, hK⟩, hD0⟩ := hv
  have hx := B.exec
  have hb := B.bytes
  have hr := B.returns
  have hts := atoms_spec (ws := ws_ yX1_priceFor cX1_priceFor 2 (some .int)) B.pre
  have hts : ∀ w ∈ lw_all, w.before _ s = true := fun w h => hts w (List.mem_cons_of_mem _ h)
  have hown : s.vm.findClass RX1 = some m.cls := findClass_of_methodNamed B.named
  have hlocks := B.notSynchronized
  have hC : CallFix p m c cX1_priceFor 2 s _ lw_all RX1 := ⟨hx, hb, hml, hown, hts⟩
  subst hsz
  have hD := hD0.self (sz := s.heap.size)
  generalize hAe : va_A (mW z a th n w gn lk pu fa he nv of mp mi k nt fu re) s.heap.size = A at hD ⊢
  have hA : ∀ q : Nat, s.heap.size ≤ q → A q := fun q h => by rw [← hAe]; exact Or.inr h
  have hS : va_S A s.heap s.heap [] := va_S.rf
  have hl := lv_entry ([.ref (a 0), .int (nI i)]) (n := 2) (Nat.le_of_ble_eq_true rfl)
  rw [lg_entry_eq]
  generalize (lg_sl ([.ref (a 0), .int (nI i)]) ++ List.replicate (2 - (lg_sl ([.ref (a 0), .int (nI i)])).length) Slot.unset).toArray = ls at hl ⊢
  have hl : lv_has ls 2 [(0, .ref (a 0)), (1, .int (nI i))] := hl
  refine lv_aload_n hx hb dX1_priceFor_0 rfl (lv_at hl 0 rfl) ?_
  refine lv_iconst (v := 0) hx hb dX1_priceFor_1 (by decide) ?_
  refine mp_th hC hK hP hD hS dX1_priceFor_2 (fun H locs hP hD hS => ?_)
  refine lv_aload_n hx hb dX1_priceFor_5 rfl (lv_at hl 0 rfl) ?_
  refine lv_iload_n hx hb dX1_priceFor_6 rfl (lv_at hl 1 rfl) ?_
  refine k_X1_isPerson hC hK hP hl.1 ⟨Nat.le_of_ble_eq_true rfl, Nat.le_of_ble_eq_true rfl⟩ ⟨Nat.zero_le _, Nat.zero_le _⟩ (Nat.le_of_ble_eq_true rfl)  (by first | assumption | omega) dX1_priceFor_7 ?_
  refine lv_if_eq (tgt := 21) hx hb dX1_priceFor_10 (by decide) (fun c_10 => ?_) (fun c_10 => ?_)
  · exact absurd c_10 (by rw [isP_in (by omega) hi]; decide)
  · refine lv_aload_n hx hb dX1_priceFor_13 rfl (lv_at hl 0 rfl) ?_
    refine lv_iload_n hx hb dX1_priceFor_14 rfl (lv_at hl 1 rfl) ?_
    refine k_X1_price hC hK hP hl.1 ⟨Nat.le_of_ble_eq_true rfl, Nat.le_of_ble_eq_true rfl⟩ ⟨Nat.zero_le _, Nat.zero_le _⟩ (Nat.le_of_ble_eq_true rfl) rfl (by first | assumption | omega) dX1_priceFor_15 ?_
    refine lv_goto (tgt := 26) hx hb dX1_priceFor_18 (by decide) ?_
    exact W.iret (v := sp_price (lk i)) hx hb hr (fun t ht hW => ⟨⟨sp_price (lk i), (), rfl, rfl, by rw [ht]; exact hP, va_K.moved hW.alike hK, hD⟩, hS.F ht⟩) hS.2.2 dX1_priceFor_26
set_option maxHeartbeats 4000000 in
set_option maxRecDepth 100000 in
theorem c_X1_priceFor_a (l : Launch) (sz : Nat) {D : va_G} {z : ClassId × ClassId} {a : Nat → Nat} {th : Int32} {n w : Nat} {gn lk pu fa he nv of mp mi : Nat → Int32} {k : Nat} {nt fu re : Int32} (x : Int32) (hn : n ≤ 10) (hbad : sp_isP n x = 0) : Met l yX1_priceFor (ws_ yX1_priceFor cX1_priceFor 2 (some .int)) ({ frames := 2, cells := 0, slots := 0, locals := 43 } : Room) (va_Pc [.ref (a 0), .int x] (fun U => U.heap.size = sz ∧ mI D z a th n w gn lk pu fa he nv of mp mi k nt fu re U ∧ va_D (fun _ => True) (mW z a th n w gn lk pu fa he nv of mp mi k nt fu re))) (va_Qi (fun (r : Int32) (_ : Unit) => r = 0) (fun _ t9 => va_P D vwCl (mW z a 1 n w gn lk pu fa he nv of mp mi k nt fu re) t9.heap ∧ kK D z t9 ∧ va_D (va_A (mW z a th n w gn lk pu fa he nv of mp mi k nt fu re) sz) (mW z a 1 n w gn lk pu fa he nv of mp mi k nt fu re)) (va_A (mW z a th n w gn lk pu fa he nv of mp mi k nt fu re) sz)) 0 0 (va_A (mW z a th n w gn lk pu fa he nv of mp mi k nt fu re) sz) := by
  refine Met.ofW (cc := cX1_priceFor) (maxL := 2) (ret := (some .int)) (by decide) rfl ?_
  intro p e s m args below meth c s₁ B hml hv
  obtain ⟨rfl, hsz, ⟨hP, hK⟩, hD0⟩ := hv
  have hx := B.exec
  have hb := B.bytes
  have hr := B.returns
  have hts := atoms_spec (ws := ws_ yX1_priceFor cX1_priceFor 2 (some .int)) B.pre
  have hts : ∀ w ∈ lw_all, w.before _ s = true := fun w h => hts w (List.mem_cons_of_mem _ h)
  have hown : s.vm.findClass RX1 = some m.cls := findClass_of_methodNamed B.named
  have hlocks := B.notSynchronized
  have hC : CallFix p m c cX1_priceFor 2 s _ lw_all RX1 := ⟨hx, hb, hml, hown, hts⟩
  subst hsz
  have hD := hD0.self (sz := s.heap.size)
  generalize hAe : va_A (mW z a th n w gn lk pu fa he nv of mp mi k nt fu re) s.heap.size = A at hD ⊢
  have hA : ∀ q : Nat, s.heap.size ≤ q → A q := fun q h => by rw [← hAe]; exact Or.inr h
  have hS : va_S A s.heap s.heap [] := va_S.rf
  have hl := lv_entry ([.ref (a 0), .int x]) (n := 2) (Nat.le_of_ble_eq_true rfl)
  rw [lg_entry_eq]
  generalize (lg_sl ([.ref (a 0), .int x]) ++ List.replicate (2 - (lg_sl ([.ref (a 0), .int x])).length) Slot.unset).toArray = ls at hl ⊢
  have hl : lv_has ls 2 [(0, .ref (a 0)), (1, .int x)] := hl
  refine lv_aload_n hx hb dX1_priceFor_0 rfl (lv_at hl 0 rfl) ?_
  refine lv_iconst (v := 0) hx hb dX1_priceFor_1 (by decide) ?_
  refine mp_th hC hK hP hD hS dX1_priceFor_2 (fun H locs hP hD hS => ?_)
  refine lv_aload_n hx hb dX1_priceFor_5 rfl (lv_at hl 0 rfl) ?_
  refine lv_iload_n hx hb dX1_priceFor_6 rfl (lv_at hl 1 rfl) ?_
  refine k_X1_isPerson hC hK hP hl.1 ⟨Nat.le_of_ble_eq_true rfl, Nat.le_of_ble_eq_true rfl⟩ ⟨Nat.zero_le _, Nat.zero_le _⟩ (Nat.le_of_ble_eq_true rfl)  (by first | assumption | omega) dX1_priceFor_7 ?_
  refine lv_if_eq (tgt := 21) hx hb dX1_priceFor_10 (by decide) (fun c_10 => ?_) (fun c_10 => ?_)
  · refine lv_aload_n hx hb dX1_priceFor_21 rfl (lv_at hl 0 rfl) ?_
    refine lv_iconst (v := 1) hx hb dX1_priceFor_22 (by decide) ?_
    refine k_X1_fail hC hK hP hD hS hA hl.1 ⟨Nat.le_of_ble_eq_true rfl, Nat.le_of_ble_eq_true rfl⟩ ⟨Nat.zero_le _, Nat.zero_le _⟩ (Nat.le_of_ble_eq_true rfl)   dX1_priceFor_23 (fun H locs hP hD hS => ?_)
    exact W.iret (v := 0) hx hb hr (fun t ht hW => ⟨⟨0, (), rfl, rfl, by rw [ht]; exact hP, va_K.moved hW.alike hK, hD⟩, hS.F ht⟩) hS.2.2 dX1_priceFor_26
  · exact absurd hbad c_10
set_option maxHeartbeats 4000000 in
set_option maxRecDepth 100000 in
theorem c_X1_missesOf (l : Launch) (sz : Nat) {D : va_G} {z : ClassId × ClassId} {a : Nat → Nat} {th : Int32} {n w : Nat} {gn lk pu fa he nv of mp mi : Nat → Int32} {k : Nat} {nt fu re : Int32} (i : Nat) (hi : i < n) (hn : n ≤ 10) (hk : k ≤ 60) : Met l yX1_missesOf (ws_ yX1_missesOf cX1_missesOf 2 (some .int)) ({ frames := 2, cells := 0, slots := 0, locals := 43 } : Room) (va_Pc [.ref (a 0), .int (nI i)] (fun U => U.heap.size = sz ∧ mI D z a th n w gn lk pu fa he nv of mp mi k nt fu re U ∧ va_D (fun _ => True) (mW z a th n w gn lk pu fa he nv of mp mi k nt fu re))) (va_Qi (fun (r : Int32) (_ : Unit) => r = sp_many mp (nI i) k) (fun _ t9 => va_P D vwCl (mW z a 0 n w gn lk pu fa he nv of mp mi k nt fu re) t9.heap ∧ kK D z t9 ∧ va_D (va_A (mW z a th n w gn lk pu fa he nv of mp mi k nt fu re) sz) (mW z a 0 n w gn lk pu fa he nv of mp mi k nt fu re)) (va_A (mW z a th n w gn lk pu fa he nv of mp mi k nt fu re) sz)) 0 0 (va_A (mW z a th n w gn lk pu fa he nv of mp mi k nt fu re) sz) := by
  refine Met.ofW (cc := cX1_missesOf) (maxL := 2) (ret := (some .int)) (by decide) rfl ?_
  intro p e s m args below meth c s₁ B hml hv
  obtain ⟨rfl, hsz, ⟨hP, hK⟩, hD0⟩ := hv
  have hx := B.exec
  have hb := B.bytes
  have hr := B.returns
  have hts := atoms_spec (ws := ws_ yX1_missesOf cX1_missesOf 2 (some .int)) B.pre
  have hts : ∀ w ∈ lw_all, w.before _ s = true := fun w h => hts w (List.mem_cons_of_mem _ h)
  have hown : s.vm.findClass RX1 = some m.cls := findClass_of_methodNamed B.named
  have hlocks := B.notSynchronized
  have hC : CallFix p m c cX1_missesOf 2 s _ lw_all RX1 := ⟨hx, hb, hml, hown, hts⟩
  subst hsz
  have hD := hD0.self (sz := s.heap.size)
  generalize hAe : va_A (mW z a th n w gn lk pu fa he nv of mp mi k nt fu re) s.heap.size = A at hD ⊢
  have hA : ∀ q : Nat, s.heap.size ≤ q → A q := fun q h => by rw [← hAe]; exact Or.inr h
  have hS : va_S A s.heap s.heap [] := va_S.rf
  have hl := lv_entry ([.ref (a 0), .int (nI i)]) (n := 2) (Nat.le_of_ble_eq_true rfl)
  rw [lg_entry_eq]
  generalize (lg_sl ([.ref (a 0), .int (nI i)]) ++ List.replicate (2 - (lg_sl ([.ref (a 0), .int (nI i)])).length) Slot.unset).toArray = ls at hl ⊢
  have hl : lv_has ls 2 [(0, .ref (a 0)), (1, .int (nI i))] := hl
  refine lv_aload_n hx hb dX1_missesOf_0 rfl (lv_at hl 0 rfl) ?_
  refine lv_iconst (v := 0) hx hb dX1_missesOf_1 (by decide) ?_
  refine mp_th hC hK hP hD hS dX1_missesOf_2 (fun H locs hP hD hS => ?_)
  refine lv_aload_n hx hb dX1_missesOf_5 rfl (lv_at hl 0 rfl) ?_
  refine lv_iload_n hx hb dX1_missesOf_6 rfl (lv_at hl 1 rfl) ?_
  refine k_X1_isPerson hC hK hP hl.1 ⟨Nat.le_of_ble_eq_true rfl, Nat.le_of_ble_eq_true rfl⟩ ⟨Nat.zero_le _, Nat.zero_le _⟩ (Nat.le_of_ble_eq_true rfl)  (by first | assumption | omega) dX1_missesOf_7 ?_
  refine lv_if_eq (tgt := 21) hx hb dX1_missesOf_10 (by decide) (fun c_10 => ?_) (fun c_10 => ?_)
  · exact absurd c_10 (by rw [isP_in (by omega) hi]; decide)
  · refine lv_aload_n hx hb dX1_missesOf_13 rfl (lv_at hl 0 rfl) ?_
    refine lv_iload_n hx hb dX1_missesOf_14 rfl (lv_at hl 1 rfl) ?_
    refine k_X1_many hC hK hP hl.1 ⟨Nat.le_of_ble_eq_true rfl, Nat.le_of_ble_eq_true rfl⟩ ⟨Nat.zero_le _, Nat.zero_le _⟩ (Nat.le_of_ble_eq_true rfl) rfl (by first | assumption | omega) dX1_missesOf_15 ?_
    refine lv_goto (tgt := 26) hx hb dX1_missesOf_18 (by decide) ?_
    exact W.iret (v := sp_many mp (nI i) k) hx hb hr (fun t ht hW => ⟨⟨sp_many mp (nI i) k, (), rfl, rfl, by rw [ht]; exact hP, va_K.moved hW.alike hK, hD⟩, hS.F ht⟩) hS.2.2 dX1_missesOf_26
set_option maxHeartbeats 4000000 in
set_option maxRecDepth 100000 in
theorem c_X1_missesOf_a (l : Launch) (sz : Nat) {D : va_G} {z : ClassId × ClassId} {a : Nat → Nat} {th : Int32} {n w : Nat} {gn lk pu fa he nv of mp mi : Nat → Int32} {k : Nat} {nt fu re : Int32} (x : Int32) (hn : n ≤ 10) (hbad : sp_isP n x = 0) : Met l yX1_missesOf (ws_ yX1_missesOf cX1_missesOf 2 (some .int)) ({ frames := 2, cells := 0, slots := 0, locals := 43 } : Room) (va_Pc [.ref (a 0), .int x] (fun U => U.heap.size = sz ∧ mI D z a th n w gn lk pu fa he nv of mp mi k nt fu re U ∧ va_D (fun _ => True) (mW z a th n w gn lk pu fa he nv of mp mi k nt fu re))) (va_Qi (fun (r : Int32) (_ : Unit) => r = 0) (fun _ t9 => va_P D vwCl (mW z a 1 n w gn lk pu fa he nv of mp mi k nt fu re) t9.heap ∧ kK D z t9 ∧ va_D (va_A (mW z a th n w gn lk pu fa he nv of mp mi k nt fu re) sz) (mW z a 1 n w gn lk pu fa he nv of mp mi k nt fu re)) (va_A (mW z a th n w gn lk pu fa he nv of mp mi k nt fu re) sz)) 0 0 (va_A (mW z a th n w gn lk pu fa he nv of mp mi k nt fu re) sz) := by
  refine Met.ofW (cc := cX1_missesOf) (maxL := 2) (ret := (some .int)) (by decide) rfl ?_
  intro p e s m args below meth c s₁ B hml hv
  obtain ⟨rfl, hsz, ⟨hP, hK⟩, hD0⟩ := hv
  have hx := B.exec
  have hb := B.bytes
  have hr := B.returns
  have hts := atoms_spec (ws := ws_ yX1_missesOf cX1_missesOf 2 (some .int)) B.pre
  have hts : ∀ w ∈ lw_all, w.before _ s = true := fun w h => hts w (List.mem_cons_of_mem _ h)
  have hown : s.vm.findClass RX1 = some m.cls := findClass_of_methodNamed B.named
  have hlocks := B.notSynchronized
  have hC : CallFix p m c cX1_missesOf 2 s _ lw_all RX1 := ⟨hx, hb, hml, hown, hts⟩
  subst hsz
  have hD := hD0.self (sz := s.heap.size)
  generalize hAe : va_A (mW z a th n w gn lk pu fa he nv of mp mi k nt fu re) s.heap.size = A at hD ⊢
  have hA : ∀ q : Nat, s.heap.size ≤ q → A q := fun q h => by rw [← hAe]; exact Or.inr h
  have hS : va_S A s.heap s.heap [] := va_S.rf
  have hl := lv_entry ([.ref (a 0), .int x]) (n := 2) (Nat.le_of_ble_eq_true rfl)
  rw [lg_entry_eq]
  generalize (lg_sl ([.ref (a 0), .int x]) ++ List.replicate (2 - (lg_sl ([.ref (a 0), .int x])).length) Slot.unset).toArray = ls at hl ⊢
  have hl : lv_has ls 2 [(0, .ref (a 0)), (1, .int x)] := hl
  refine lv_aload_n hx hb dX1_missesOf_0 rfl (lv_at hl 0 rfl) ?_
  refine lv_iconst (v := 0) hx hb dX1_missesOf_1 (by decide) ?_
  refine mp_th hC hK hP hD hS dX1_missesOf_2 (fun H locs hP hD hS => ?_)
  refine lv_aload_n hx hb dX1_missesOf_5 rfl (lv_at hl 0 rfl) ?_
  refine lv_iload_n hx hb dX1_missesOf_6 rfl (lv_at hl 1 rfl) ?_
  refine k_X1_isPerson hC hK hP hl.1 ⟨Nat.le_of_ble_eq_true rfl, Nat.le_of_ble_eq_true rfl⟩ ⟨Nat.zero_le _, Nat.zero_le _⟩ (Nat.le_of_ble_eq_true rfl)  (by first | assumption | omega) dX1_missesOf_7 ?_
  refine lv_if_eq (tgt := 21) hx hb dX1_missesOf_10 (by decide) (fun c_10 => ?_) (fun c_10 => ?_)
  · refine lv_aload_n hx hb dX1_missesOf_21 rfl (lv_at hl 0 rfl) ?_
    refine lv_iconst (v := 1) hx hb dX1_missesOf_22 (by decide) ?_
    refine k_X1_fail hC hK hP hD hS hA hl.1 ⟨Nat.le_of_ble_eq_true rfl, Nat.le_of_ble_eq_true rfl⟩ ⟨Nat.zero_le _, Nat.zero_le _⟩ (Nat.le_of_ble_eq_true rfl)   dX1_missesOf_23 (fun H locs hP hD hS => ?_)
    exact W.iret (v := 0) hx hb hr (fun t ht hW => ⟨⟨0, (), rfl, rfl, by rw [ht]; exact hP, va_K.moved hW.alike hK, hD⟩, hS.F ht⟩) hS.2.2 dX1_missesOf_26
  · exact absurd hbad c_10
set_option maxHeartbeats 4000000 in
set_option maxRecDepth 100000 in
theorem c_X1_closestOf (l : Launch) (sz : Nat) {D : va_G} {z : ClassId × ClassId} {a : Nat → Nat} {th : Int32} {n w : Nat} {gn lk pu fa he nv of mp mi : Nat → Int32} {k : Nat} {nt fu re : Int32} (i : Nat) (hi : i < n) (hn : n ≤ 10) (hk : k ≤ 60) : Met l yX1_closestOf (ws_ yX1_closestOf cX1_closestOf 2 (some .int)) ({ frames := 2, cells := 0, slots := 0, locals := 43 } : Room) (va_Pc [.ref (a 0), .int (nI i)] (fun U => U.heap.size = sz ∧ mI D z a th n w gn lk pu fa he nv of mp mi k nt fu re U ∧ va_D (fun _ => True) (mW z a th n w gn lk pu fa he nv of mp mi k nt fu re))) (va_Qi (fun (r : Int32) (_ : Unit) => r = sp_close mp mi (nI i) k) (fun _ t9 => va_P D vwCl (mW z a 0 n w gn lk pu fa he nv of mp mi k nt fu re) t9.heap ∧ kK D z t9 ∧ va_D (va_A (mW z a th n w gn lk pu fa he nv of mp mi k nt fu re) sz) (mW z a 0 n w gn lk pu fa he nv of mp mi k nt fu re)) (va_A (mW z a th n w gn lk pu fa he nv of mp mi k nt fu re) sz)) 0 0 (va_A (mW z a th n w gn lk pu fa he nv of mp mi k nt fu re) sz) := by
  refine Met.ofW (cc := cX1_closestOf) (maxL := 2) (ret := (some .int)) (by decide) rfl ?_
  intro p e s m args below meth c s₁ B hml hv
  obtain ⟨rfl, hsz, ⟨hP, hK⟩, hD0⟩ := hv
  have hx := B.exec
  have hb := B.bytes
  have hr := B.returns
  have hts := atoms_spec (ws := ws_ yX1_closestOf cX1_closestOf 2 (some .int)) B.pre
  have hts : ∀ w ∈ lw_all, w.before _ s = true := fun w h => hts w (List.mem_cons_of_mem _ h)
  have hown : s.vm.findClass RX1 = some m.cls := findClass_of_methodNamed B.named
  have hlocks := B.notSynchronized
  have hC : CallFix p m c cX1_closestOf 2 s _ lw_all RX1 := ⟨hx, hb, hml, hown, hts⟩
  subst hsz
  have hD := hD0.self (sz := s.heap.size)
  generalize hAe : va_A (mW z a th n w gn lk pu fa he nv of mp mi k nt fu re) s.heap.size = A at hD ⊢
  have hA : ∀ q : Nat, s.heap.size ≤ q → A q := fun q h => by rw [← hAe]; exact Or.inr h
  have hS : va_S A s.heap s.heap [] := va_S.rf
  have hl := lv_entry ([.ref (a 0), .int (nI i)]) (n := 2) (Nat.le_of_ble_eq_true rfl)
  rw [lg_entry_eq]
  generalize (lg_sl ([.ref (a 0), .int (nI i)]) ++ List.replicate (2 - (lg_sl ([.ref (a 0), .int (nI i)])).length) Slot.unset).toArray = ls at hl ⊢
  have hl : lv_has ls 2 [(0, .ref (a 0)), (1, .int (nI i))] := hl
  refine lv_aload_n hx hb dX1_closestOf_0 rfl (lv_at hl 0 rfl) ?_
  refine lv_iconst (v := 0) hx hb dX1_closestOf_1 (by decide) ?_
  refine mp_th hC hK hP hD hS dX1_closestOf_2 (fun H locs hP hD hS => ?_)
  refine lv_aload_n hx hb dX1_closestOf_5 rfl (lv_at hl 0 rfl) ?_
  refine lv_iload_n hx hb dX1_closestOf_6 rfl (lv_at hl 1 rfl) ?_
  refine k_X1_isPerson hC hK hP hl.1 ⟨Nat.le_of_ble_eq_true rfl, Nat.le_of_ble_eq_true rfl⟩ ⟨Nat.zero_le _, Nat.zero_le _⟩ (Nat.le_of_ble_eq_true rfl)  (by first | assumption | omega) dX1_closestOf_7 ?_
  refine lv_if_eq (tgt := 21) hx hb dX1_closestOf_10 (by decide) (fun c_10 => ?_) (fun c_10 => ?_)
  · exact absurd c_10 (by rw [isP_in (by omega) hi]; decide)
  · refine lv_aload_n hx hb dX1_closestOf_13 rfl (lv_at hl 0 rfl) ?_
    refine lv_iload_n hx hb dX1_closestOf_14 rfl (lv_at hl 1 rfl) ?_
    refine k_X1_closest hC hK hP hl.1 ⟨Nat.le_of_ble_eq_true rfl, Nat.le_of_ble_eq_true rfl⟩ ⟨Nat.zero_le _, Nat.zero_le _⟩ (Nat.le_of_ble_eq_true rfl) rfl (by first | assumption | omega) dX1_closestOf_15 ?_
    refine lv_goto (tgt := 26) hx hb dX1_closestOf_18 (by decide) ?_
    exact W.iret (v := sp_close mp mi (nI i) k) hx hb hr (fun t ht hW => ⟨⟨sp_close mp mi (nI i) k, (), rfl, rfl, by rw [ht]; exact hP, va_K.moved hW.alike hK, hD⟩, hS.F ht⟩) hS.2.2 dX1_closestOf_26
set_option maxHeartbeats 4000000 in
set_option maxRecDepth 100000 in
theorem c_X1_closestOf_a (l : Launch) (sz : Nat) {D : va_G} {z : ClassId × ClassId} {a : Nat → Nat} {th : Int32} {n w : Nat} {gn lk pu fa he nv of mp mi : Nat → Int32} {k : Nat} {nt fu re : Int32} (x : Int32) (hn : n ≤ 10) (hbad : sp_isP n x = 0) : Met l yX1_closestOf (ws_ yX1_closestOf cX1_closestOf 2 (some .int)) ({ frames := 2, cells := 0, slots := 0, locals := 43 } : Room) (va_Pc [.ref (a 0), .int x] (fun U => U.heap.size = sz ∧ mI D z a th n w gn lk pu fa he nv of mp mi k nt fu re U ∧ va_D (fun _ => True) (mW z a th n w gn lk pu fa he nv of mp mi k nt fu re))) (va_Qi (fun (r : Int32) (_ : Unit) => r = 0) (fun _ t9 => va_P D vwCl (mW z a 1 n w gn lk pu fa he nv of mp mi k nt fu re) t9.heap ∧ kK D z t9 ∧ va_D (va_A (mW z a th n w gn lk pu fa he nv of mp mi k nt fu re) sz) (mW z a 1 n w gn lk pu fa he nv of mp mi k nt fu re)) (va_A (mW z a th n w gn lk pu fa he nv of mp mi k nt fu re) sz)) 0 0 (va_A (mW z a th n w gn lk pu fa he nv of mp mi k nt fu re) sz) := by
  refine Met.ofW (cc := cX1_closestOf) (maxL := 2) (ret := (some .int)) (by decide) rfl ?_
  intro p e s m args below meth c s₁ B hml hv
  obtain ⟨rfl, hsz, ⟨hP, hK⟩, hD0⟩ := hv
  have hx := B.exec
  have hb := B.bytes
  have hr := B.returns
  have hts := atoms_spec (ws := ws_ yX1_closestOf cX1_closestOf 2 (some .int)) B.pre
  have hts : ∀ w ∈ lw_all, w.before _ s = true := fun w h => hts w (List.mem_cons_of_mem _ h)
  have hown : s.vm.findClass RX1 = some m.cls := findClass_of_methodNamed B.named
  have hlocks := B.notSynchronized
  have hC : CallFix p m c cX1_closestOf 2 s _ lw_all RX1 := ⟨hx, hb, hml, hown, hts⟩
  subst hsz
  have hD := hD0.self (sz := s.heap.size)
  generalize hAe : va_A (mW z a th n w gn lk pu fa he nv of mp mi k nt fu re) s.heap.size = A at hD ⊢
  have hA : ∀ q : Nat, s.heap.size ≤ q → A q := fun q h => by rw [← hAe]; exact Or.inr h
  have hS : va_S A s.heap s.heap [] := va_S.rf
  have hl := lv_entry ([.ref (a 0), .int x]) (n := 2) (Nat.le_of_ble_eq_true rfl)
  rw [lg_entry_eq]
  generalize (lg_sl ([.ref (a 0), .int x]) ++ List.replicate (2 - (lg_sl ([.ref (a 0), .int x])).length) Slot.unset).toArray = ls at hl ⊢
  have hl : lv_has ls 2 [(0, .ref (a 0)), (1, .int x)] := hl
  refine lv_aload_n hx hb dX1_closestOf_0 rfl (lv_at hl 0 rfl) ?_
  refine lv_iconst (v := 0) hx hb dX1_closestOf_1 (by decide) ?_
  refine mp_th hC hK hP hD hS dX1_closestOf_2 (fun H locs hP hD hS => ?_)
  refine lv_aload_n hx hb dX1_closestOf_5 rfl (lv_at hl 0 rfl) ?_
  refine lv_iload_n hx hb dX1_closestOf_6 rfl (lv_at hl 1 rfl) ?_
  refine k_X1_isPerson hC hK hP hl.1 ⟨Nat.le_of_ble_eq_true rfl, Nat.le_of_ble_eq_true rfl⟩ ⟨Nat.zero_le _, Nat.zero_le _⟩ (Nat.le_of_ble_eq_true rfl)  (by first | assumption | omega) dX1_closestOf_7 ?_
  refine lv_if_eq (tgt := 21) hx hb dX1_closestOf_10 (by decide) (fun c_10 => ?_) (fun c_10 => ?_)
  · refine lv_aload_n hx hb dX1_closestOf_21 rfl (lv_at hl 0 rfl) ?_
    refine lv_iconst (v := 1) hx hb dX1_closestOf_22 (by decide) ?_
    refine k_X1_fail hC hK hP hD hS hA hl.1 ⟨Nat.le_of_ble_eq_true rfl, Nat.le_of_ble_eq_true rfl⟩ ⟨Nat.zero_le _, Nat.zero_le _⟩ (Nat.le_of_ble_eq_true rfl)   dX1_closestOf_23 (fun H locs hP hD hS => ?_)
    exact W.iret (v := 0) hx hb hr (fun t ht hW => ⟨⟨0, (), rfl, rfl, by rw [ht]; exact hP, va_K.moved hW.alike hK, hD⟩, hS.F ht⟩) hS.2.2 dX1_closestOf_26
  · exact absurd hbad c_10
set_option maxHeartbeats 4000000 in
set_option maxRecDepth 100000 in
theorem c_X1_nerveOf (l : Launch) (sz : Nat) {D : va_G} {z : ClassId × ClassId} {a : Nat → Nat} {th : Int32} {n w : Nat} {gn lk pu fa he nv of mp mi : Nat → Int32} {k : Nat} {nt fu re : Int32} (i : Nat) (hi : i < w) (hw : w ≤ 6) : Met l yX1_nerveOf (ws_ yX1_nerveOf cX1_nerveOf 2 (some .int)) ({ frames := 2, cells := 0, slots := 0, locals := 43 } : Room) (va_Pc [.ref (a 0), .int (nI i)] (fun U => U.heap.size = sz ∧ mI D z a th n w gn lk pu fa he nv of mp mi k nt fu re U ∧ va_D (fun _ => True) (mW z a th n w gn lk pu fa he nv of mp mi k nt fu re))) (va_Qi (fun (r : Int32) (_ : Unit) => r = nv i) (fun _ t9 => va_P D vwCl (mW z a 0 n w gn lk pu fa he nv of mp mi k nt fu re) t9.heap ∧ kK D z t9 ∧ va_D (va_A (mW z a th n w gn lk pu fa he nv of mp mi k nt fu re) sz) (mW z a 0 n w gn lk pu fa he nv of mp mi k nt fu re)) (va_A (mW z a th n w gn lk pu fa he nv of mp mi k nt fu re) sz)) 0 0 (va_A (mW z a th n w gn lk pu fa he nv of mp mi k nt fu re) sz) := by
  refine Met.ofW (cc := cX1_nerveOf) (maxL := 2) (ret := (some .int)) (by decide) rfl ?_
  intro p e s m args below meth c s₁ B hml hv
  obtain ⟨rfl, hsz, ⟨hP, hK⟩, hD0⟩ := hv
  have hx := B.exec
  have hb := B.bytes
  have hr := B.returns
  have hts := atoms_spec (ws := ws_ yX1_nerveOf cX1_nerveOf 2 (some .int)) B.pre
  have hts : ∀ w ∈ lw_all, w.before _ s = true := fun w h => hts w (List.mem_cons_of_mem _ h)
  have hown : s.vm.findClass RX1 = some m.cls := findClass_of_methodNamed B.named
  have hlocks := B.notSynchronized
  have hC : CallFix p m c cX1_nerveOf 2 s _ lw_all RX1 := ⟨hx, hb, hml, hown, hts⟩
  subst hsz
  have hD := hD0.self (sz := s.heap.size)
  generalize hAe : va_A (mW z a th n w gn lk pu fa he nv of mp mi k nt fu re) s.heap.size = A at hD ⊢
  have hA : ∀ q : Nat, s.heap.size ≤ q → A q := fun q h => by rw [← hAe]; exact Or.inr h
  have hS : va_S A s.heap s.heap [] := va_S.rf
  have hl := lv_entry ([.ref (a 0), .int (nI i)]) (n := 2) (Nat.le_of_ble_eq_true rfl)
  rw [lg_entry_eq]
  generalize (lg_sl ([.ref (a 0), .int (nI i)]) ++ List.replicate (2 - (lg_sl ([.ref (a 0), .int (nI i)])).length) Slot.unset).toArray = ls at hl ⊢
  have hl : lv_has ls 2 [(0, .ref (a 0)), (1, .int (nI i))] := hl
  refine lv_aload_n hx hb dX1_nerveOf_0 rfl (lv_at hl 0 rfl) ?_
  refine lv_iconst (v := 0) hx hb dX1_nerveOf_1 (by decide) ?_
  refine mp_th hC hK hP hD hS dX1_nerveOf_2 (fun H locs hP hD hS => ?_)
  refine lv_aload_n hx hb dX1_nerveOf_5 rfl (lv_at hl 0 rfl) ?_
  refine lv_iload_n hx hb dX1_nerveOf_6 rfl (lv_at hl 1 rfl) ?_
  refine k_X1_isWitness hC hK hP hl.1 ⟨Nat.le_of_ble_eq_true rfl, Nat.le_of_ble_eq_true rfl⟩ ⟨Nat.zero_le _, Nat.zero_le _⟩ (Nat.le_of_ble_eq_true rfl)  (by first | assumption | omega) dX1_nerveOf_7 ?_
  refine lv_if_eq (tgt := 22) hx hb dX1_nerveOf_10 (by decide) (fun c_10 => ?_) (fun c_10 => ?_)
  · exact absurd c_10 (by rw [isP_in (by omega) hi]; decide)
  · refine lv_aload_n hx hb dX1_nerveOf_13 rfl (lv_at hl 0 rfl) ?_
    refine mg_nv hC hK hP dX1_nerveOf_14 ?_
    refine lv_iload_n hx hb dX1_nerveOf_17 rfl (lv_at hl 1 rfl) ?_
    refine ml_nv hC hK hP i rfl (by omega) dX1_nerveOf_18 ?_
    refine lv_goto (tgt := 27) hx hb dX1_nerveOf_19 (by decide) ?_
    exact W.iret (v := nv i) hx hb hr (fun t ht hW => ⟨⟨nv i, (), rfl, rfl, by rw [ht]; exact hP, va_K.moved hW.alike hK, hD⟩, hS.F ht⟩) hS.2.2 dX1_nerveOf_27
set_option maxHeartbeats 4000000 in
set_option maxRecDepth 100000 in
theorem c_X1_nerveOf_a (l : Launch) (sz : Nat) {D : va_G} {z : ClassId × ClassId} {a : Nat → Nat} {th : Int32} {n w : Nat} {gn lk pu fa he nv of mp mi : Nat → Int32} {k : Nat} {nt fu re : Int32} (x : Int32) (hw : w ≤ 6) (hbad : sp_isP w x = 0) : Met l yX1_nerveOf (ws_ yX1_nerveOf cX1_nerveOf 2 (some .int)) ({ frames := 2, cells := 0, slots := 0, locals := 43 } : Room) (va_Pc [.ref (a 0), .int x] (fun U => U.heap.size = sz ∧ mI D z a th n w gn lk pu fa he nv of mp mi k nt fu re U ∧ va_D (fun _ => True) (mW z a th n w gn lk pu fa he nv of mp mi k nt fu re))) (va_Qi (fun (r : Int32) (_ : Unit) => r = 0) (fun _ t9 => va_P D vwCl (mW z a 1 n w gn lk pu fa he nv of mp mi k nt fu re) t9.heap ∧ kK D z t9 ∧ va_D (va_A (mW z a th n w gn lk pu fa he nv of mp mi k nt fu re) sz) (mW z a 1 n w gn lk pu fa he nv of mp mi k nt fu re)) (va_A (mW z a th n w gn lk pu fa he nv of mp mi k nt fu re) sz)) 0 0 (va_A (mW z a th n w gn lk pu fa he nv of mp mi k nt fu re) sz) := by
  refine Met.ofW (cc := cX1_nerveOf) (maxL := 2) (ret := (some .int)) (by decide) rfl ?_
  intro p e s m args below meth c s₁ B hml hv
  obtain ⟨rfl, hsz, ⟨hP, hK⟩, hD0⟩ := hv
  have hx := B.exec
  have hb := B.bytes
  have hr := B.returns
  have hts := atoms_spec (ws := ws_ yX1_nerveOf cX1_nerveOf 2 (some .int)) B.pre
  have hts : ∀ w ∈ lw_all, w.before _ s = true := fun w h => hts w (List.mem_cons_of_mem _ h)
  have hown : s.vm.findClass RX1 = some m.cls := findClass_of_methodNamed B.named
  have hlocks := B.notSynchronized
  have hC : CallFix p m c cX1_nerveOf 2 s _ lw_all RX1 := ⟨hx, hb, hml, hown, hts⟩
  subst hsz
  have hD := hD0.self (sz := s.heap.size)
  generalize hAe : va_A (mW z a th n w gn lk pu fa he nv of mp mi k nt fu re) s.heap.size = A at hD ⊢
  have hA : ∀ q : Nat, s.heap.size ≤ q → A q := fun q h => by rw [← hAe]; exact Or.inr h
  have hS : va_S A s.heap s.heap [] := va_S.rf
  have hl := lv_entry ([.ref (a 0), .int x]) (n := 2) (Nat.le_of_ble_eq_true rfl)
  rw [lg_entry_eq]
  generalize (lg_sl ([.ref (a 0), .int x]) ++ List.replicate (2 - (lg_sl ([.ref (a 0), .int x])).length) Slot.unset).toArray = ls at hl ⊢
  have hl : lv_has ls 2 [(0, .ref (a 0)), (1, .int x)] := hl
  refine lv_aload_n hx hb dX1_nerveOf_0 rfl (lv_at hl 0 rfl) ?_
  refine lv_iconst (v := 0) hx hb dX1_nerveOf_1 (by decide) ?_
  refine mp_th hC hK hP hD hS dX1_nerveOf_2 (fun H locs hP hD hS => ?_)
  refine lv_aload_n hx hb dX1_nerveOf_5 rfl (lv_at hl 0 rfl) ?_
  refine lv_iload_n hx hb dX1_nerveOf_6 rfl (lv_at hl 1 rfl) ?_
  refine k_X1_isWitness hC hK hP hl.1 ⟨Nat.le_of_ble_eq_true rfl, Nat.le_of_ble_eq_true rfl⟩ ⟨Nat.zero_le _, Nat.zero_le _⟩ (Nat.le_of_ble_eq_true rfl)  (by first | assumption | omega) dX1_nerveOf_7 ?_
  refine lv_if_eq (tgt := 22) hx hb dX1_nerveOf_10 (by decide) (fun c_10 => ?_) (fun c_10 => ?_)
  · refine lv_aload_n hx hb dX1_nerveOf_22 rfl (lv_at hl 0 rfl) ?_
    refine lv_iconst (v := 1) hx hb dX1_nerveOf_23 (by decide) ?_
    refine k_X1_fail hC hK hP hD hS hA hl.1 ⟨Nat.le_of_ble_eq_true rfl, Nat.le_of_ble_eq_true rfl⟩ ⟨Nat.zero_le _, Nat.zero_le _⟩ (Nat.le_of_ble_eq_true rfl)   dX1_nerveOf_24 (fun H locs hP hD hS => ?_)
    exact W.iret (v := 0) hx hb hr (fun t ht hW => ⟨⟨0, (), rfl, rfl, by rw [ht]; exact hP, va_K.moved hW.alike hK, hD⟩, hS.F ht⟩) hS.2.2 dX1_nerveOf_27
  · exact absurd hbad c_10
set_option maxHeartbeats 4000000 in
set_option maxRecDepth 100000 in
theorem c_X1_isOnDuty (l : Launch) (sz : Nat) {D : va_G} {z : ClassId × ClassId} {a : Nat → Nat} {th : Int32} {n w : Nat} {gn lk pu fa he nv of mp mi : Nat → Int32} {k : Nat} {nt fu re : Int32} (i : Nat) (hi : i < w) (hw : w ≤ 6) : Met l yX1_isOnDuty (ws_ yX1_isOnDuty cX1_isOnDuty 2 (some .boolean)) ({ frames := 2, cells := 0, slots := 0, locals := 43 } : Room) (va_Pc [.ref (a 0), .int (nI i)] (fun U => U.heap.size = sz ∧ mI D z a th n w gn lk pu fa he nv of mp mi k nt fu re U ∧ va_D (fun _ => True) (mW z a th n w gn lk pu fa he nv of mp mi k nt fu re))) (va_Qi (fun (r : Int32) (_ : Unit) => r = sp_not (of i)) (fun _ t9 => va_P D vwCl (mW z a 0 n w gn lk pu fa he nv of mp mi k nt fu re) t9.heap ∧ kK D z t9 ∧ va_D (va_A (mW z a th n w gn lk pu fa he nv of mp mi k nt fu re) sz) (mW z a 0 n w gn lk pu fa he nv of mp mi k nt fu re)) (va_A (mW z a th n w gn lk pu fa he nv of mp mi k nt fu re) sz)) 0 0 (va_A (mW z a th n w gn lk pu fa he nv of mp mi k nt fu re) sz) := by
  refine Met.ofW (cc := cX1_isOnDuty) (maxL := 2) (ret := (some .boolean)) (by decide) rfl ?_
  intro p e s m args below meth c s₁ B hml hv
  obtain ⟨rfl, hsz, ⟨hP, hK⟩, hD0⟩ := hv
  have hx := B.exec
  have hb := B.bytes
  have hr := B.returns
  have hts := atoms_spec (ws := ws_ yX1_isOnDuty cX1_isOnDuty 2 (some .boolean)) B.pre
  have hts : ∀ w ∈ lw_all, w.before _ s = true := fun w h => hts w (List.mem_cons_of_mem _ h)
  have hown : s.vm.findClass RX1 = some m.cls := findClass_of_methodNamed B.named
  have hlocks := B.notSynchronized
  have hC : CallFix p m c cX1_isOnDuty 2 s _ lw_all RX1 := ⟨hx, hb, hml, hown, hts⟩
  subst hsz
  have hD := hD0.self (sz := s.heap.size)
  generalize hAe : va_A (mW z a th n w gn lk pu fa he nv of mp mi k nt fu re) s.heap.size = A at hD ⊢
  have hA : ∀ q : Nat, s.heap.size ≤ q → A q := fun q h => by rw [← hAe]; exact Or.inr h
  have hS : va_S A s.heap s.heap [] := va_S.rf
  have hl := lv_entry ([.ref (a 0), .int (nI i)]) (n := 2) (Nat.le_of_ble_eq_true rfl)
  rw [lg_entry_eq]
  generalize (lg_sl ([.ref (a 0), .int (nI i)]) ++ List.replicate (2 - (lg_sl ([.ref (a 0), .int (nI i)])).length) Slot.unset).toArray = ls at hl ⊢
  have hl : lv_has ls 2 [(0, .ref (a 0)), (1, .int (nI i))] := hl
  refine lv_aload_n hx hb dX1_isOnDuty_0 rfl (lv_at hl 0 rfl) ?_
  refine lv_aload_n hx hb dX1_isOnDuty_1 rfl (lv_at hl 0 rfl) ?_
  refine lv_iload_n hx hb dX1_isOnDuty_2 rfl (lv_at hl 1 rfl) ?_
  refine k_X1_isWitness hC hK hP hl.1 ⟨Nat.le_of_ble_eq_true rfl, Nat.le_of_ble_eq_true rfl⟩ ⟨Nat.zero_le _, Nat.zero_le _⟩ (Nat.le_of_ble_eq_true rfl)  (by first | assumption | omega) dX1_isOnDuty_3 ?_
  refine lv_if_eq (tgt := 13) hx hb dX1_isOnDuty_6 (by decide) (fun c_6 => ?_) (fun c_6 => ?_)
  · exact absurd c_6 (by rw [isP_in (by omega) hi]; decide)
  · refine lv_iconst (v := 0) hx hb dX1_isOnDuty_9 (by decide) ?_
    refine lv_goto (tgt := 14) hx hb dX1_isOnDuty_10 (by decide) ?_
    refine mp_th hC hK hP hD hS dX1_isOnDuty_14 (fun H locs hP hD hS => ?_)
    refine lv_aload_n hx hb dX1_isOnDuty_17 rfl (lv_at hl 0 rfl) ?_
    refine mg_th hC hK hP dX1_isOnDuty_18 ?_
    refine lv_if_ne (tgt := 37) hx hb dX1_isOnDuty_21 (by decide) (fun c_21 => ?_) (fun c_21 => ?_)
    · exact absurd rfl c_21
    · refine lv_aload_n hx hb dX1_isOnDuty_24 rfl (lv_at hl 0 rfl) ?_
      refine mg_of hC hK hP dX1_isOnDuty_25 ?_
      refine lv_iload_n hx hb dX1_isOnDuty_28 rfl (lv_at hl 1 rfl) ?_
      refine ml_of hC hK hP i rfl (by omega) dX1_isOnDuty_29 ?_
      refine lv_if_ne (tgt := 37) hx hb dX1_isOnDuty_30 (by decide) (fun c_30 => ?_) (fun c_30 => ?_)
      · refine lv_iconst (v := 0) hx hb dX1_isOnDuty_37 (by decide) ?_
        exact W.zret (v := 0) hx hb hr (by decide) (fun t ht hW => ⟨⟨0, (), rfl, (by simp [sp_not, c_30]), by rw [ht]; exact hP, va_K.moved hW.alike hK, hD⟩, hS.F ht⟩) hS.2.2 dX1_isOnDuty_38
      · refine lv_iconst (v := 1) hx hb dX1_isOnDuty_33 (by decide) ?_
        refine lv_goto (tgt := 38) hx hb dX1_isOnDuty_34 (by decide) ?_
        exact W.zret (v := 1) hx hb hr (by decide) (fun t ht hW => ⟨⟨1, (), rfl, (by simp [sp_not, c_30]), by rw [ht]; exact hP, va_K.moved hW.alike hK, hD⟩, hS.F ht⟩) hS.2.2 dX1_isOnDuty_38
set_option maxHeartbeats 4000000 in
set_option maxRecDepth 100000 in
theorem c_X1_isOnDuty_a (l : Launch) (sz : Nat) {D : va_G} {z : ClassId × ClassId} {a : Nat → Nat} {th : Int32} {n w : Nat} {gn lk pu fa he nv of mp mi : Nat → Int32} {k : Nat} {nt fu re : Int32} (x : Int32) (hw : w ≤ 6) (hbad : sp_isP w x = 0) : Met l yX1_isOnDuty (ws_ yX1_isOnDuty cX1_isOnDuty 2 (some .boolean)) ({ frames := 2, cells := 0, slots := 0, locals := 43 } : Room) (va_Pc [.ref (a 0), .int x] (fun U => U.heap.size = sz ∧ mI D z a th n w gn lk pu fa he nv of mp mi k nt fu re U ∧ va_D (fun _ => True) (mW z a th n w gn lk pu fa he nv of mp mi k nt fu re))) (va_Qi (fun (r : Int32) (_ : Unit) => r = 0) (fun _ t9 => va_P D vwCl (mW z a 1 n w gn lk pu fa he nv of mp mi k nt fu re) t9.heap ∧ kK D z t9 ∧ va_D (va_A (mW z a th n w gn lk pu fa he nv of mp mi k nt fu re) sz) (mW z a 1 n w gn lk pu fa he nv of mp mi k nt fu re)) (va_A (mW z a th n w gn lk pu fa he nv of mp mi k nt fu re) sz)) 0 0 (va_A (mW z a th n w gn lk pu fa he nv of mp mi k nt fu re) sz) := by
  refine Met.ofW (cc := cX1_isOnDuty) (maxL := 2) (ret := (some .boolean)) (by decide) rfl ?_
  intro p e s m args below meth c s₁ B hml hv
  obtain ⟨rfl, hsz, ⟨hP, hK⟩, hD0⟩ := hv
  have hx := B.exec
  have hb := B.bytes
  have hr := B.returns
  have hts := atoms_spec (ws := ws_ yX1_isOnDuty cX1_isOnDuty 2 (some .boolean)) B.pre
  have hts : ∀ w ∈ lw_all, w.before _ s = true := fun w h => hts w (List.mem_cons_of_mem _ h)
  have hown : s.vm.findClass RX1 = some m.cls := findClass_of_methodNamed B.named
  have hlocks := B.notSynchronized
  have hC : CallFix p m c cX1_isOnDuty 2 s _ lw_all RX1 := ⟨hx, hb, hml, hown, hts⟩
  subst hsz
  have hD := hD0.self (sz := s.heap.size)
  generalize hAe : va_A (mW z a th n w gn lk pu fa he nv of mp mi k nt fu re) s.heap.size = A at hD ⊢
  have hA : ∀ q : Nat, s.heap.size ≤ q → A q := fun q h => by rw [← hAe]; exact Or.inr h
  have hS : va_S A s.heap s.heap [] := va_S.rf
  have hl := lv_entry ([.ref (a 0), .int x]) (n := 2) (Nat.le_of_ble_eq_true rfl)
  rw [lg_entry_eq]
  generalize (lg_sl ([.ref (a 0), .int x]) ++ List.replicate (2 - (lg_sl ([.ref (a 0), .int x])).length) Slot.unset).toArray = ls at hl ⊢
  have hl : lv_has ls 2 [(0, .ref (a 0)), (1, .int x)] := hl
  refine lv_aload_n hx hb dX1_isOnDuty_0 rfl (lv_at hl 0 rfl) ?_
  refine lv_aload_n hx hb dX1_isOnDuty_1 rfl (lv_at hl 0 rfl) ?_
  refine lv_iload_n hx hb dX1_isOnDuty_2 rfl (lv_at hl 1 rfl) ?_
  refine k_X1_isWitness hC hK hP hl.1 ⟨Nat.le_of_ble_eq_true rfl, Nat.le_of_ble_eq_true rfl⟩ ⟨Nat.zero_le _, Nat.zero_le _⟩ (Nat.le_of_ble_eq_true rfl)  (by first | assumption | omega) dX1_isOnDuty_3 ?_
  refine lv_if_eq (tgt := 13) hx hb dX1_isOnDuty_6 (by decide) (fun c_6 => ?_) (fun c_6 => ?_)
  · refine lv_iconst (v := 1) hx hb dX1_isOnDuty_13 (by decide) ?_
    refine mp_th hC hK hP hD hS dX1_isOnDuty_14 (fun H locs hP hD hS => ?_)
    refine lv_aload_n hx hb dX1_isOnDuty_17 rfl (lv_at hl 0 rfl) ?_
    refine mg_th hC hK hP dX1_isOnDuty_18 ?_
    refine lv_if_ne (tgt := 37) hx hb dX1_isOnDuty_21 (by decide) (fun c_21 => ?_) (fun c_21 => ?_)
    · refine lv_iconst (v := 0) hx hb dX1_isOnDuty_37 (by decide) ?_
      exact W.zret (v := 0) hx hb hr (by decide) (fun t ht hW => ⟨⟨0, (), rfl, rfl, by rw [ht]; exact hP, va_K.moved hW.alike hK, hD⟩, hS.F ht⟩) hS.2.2 dX1_isOnDuty_38
    · exact absurd c_21 (by decide)
  · exact absurd hbad c_6
set_option maxHeartbeats 4000000 in
set_option maxRecDepth 100000 in
theorem c_X1_wouldTell (l : Launch) (sz : Nat) {D : va_G} {z : ClassId × ClassId} {a : Nat → Nat} {th : Int32} {n w : Nat} {gn lk pu fa he nv of mp mi : Nat → Int32} {k : Nat} {nt fu re : Int32} (i : Nat) (hi : i < w) (hw : w ≤ 6) (y : Int32) (h1 : ¬ y < 1) (h2 : y ≤ 60) : Met l yX1_wouldTell (ws_ yX1_wouldTell cX1_wouldTell 3 (some .int)) ({ frames := 2, cells := 0, slots := 0, locals := 43 } : Room) (va_Pc [.ref (a 0), .int (nI i), .int y] (fun U => U.heap.size = sz ∧ mI D z a th n w gn lk pu fa he nv of mp mi k nt fu re U ∧ va_D (fun _ => True) (mW z a th n w gn lk pu fa he nv of mp mi k nt fu re))) (va_Qi (fun (r : Int32) (_ : Unit) => r = sp_tale (nv i) y) (fun _ t9 => va_P D vwCl (mW z a 0 n w gn lk pu fa he nv of mp mi k nt fu re) t9.heap ∧ kK D z t9 ∧ va_D (va_A (mW z a th n w gn lk pu fa he nv of mp mi k nt fu re) sz) (mW z a 0 n w gn lk pu fa he nv of mp mi k nt fu re)) (va_A (mW z a th n w gn lk pu fa he nv of mp mi k nt fu re) sz)) 0 0 (va_A (mW z a th n w gn lk pu fa he nv of mp mi k nt fu re) sz) := by
  refine Met.ofW (cc := cX1_wouldTell) (maxL := 3) (ret := (some .int)) (by decide) rfl ?_
  intro p e s m args below meth c s₁ B hml hv
  obtain ⟨rfl, hsz, ⟨hP, hK⟩, hD0⟩ := hv
  have hx := B.exec
  have hb := B.bytes
  have hr := B.returns
  have hts := atoms_spec (ws := ws_ yX1_wouldTell cX1_wouldTell 3 (some .int)) B.pre
  have hts : ∀ w ∈ lw_all, w.before _ s = true := fun w h => hts w (List.mem_cons_of_mem _ h)
  have hown : s.vm.findClass RX1 = some m.cls := findClass_of_methodNamed B.named
  have hlocks := B.notSynchronized
  have hC : CallFix p m c cX1_wouldTell 3 s _ lw_all RX1 := ⟨hx, hb, hml, hown, hts⟩
  subst hsz
  have hD := hD0.self (sz := s.heap.size)
  generalize hAe : va_A (mW z a th n w gn lk pu fa he nv of mp mi k nt fu re) s.heap.size = A at hD ⊢
  have hA : ∀ q : Nat, s.heap.size ≤ q → A q := fun q h => by rw [← hAe]; exact Or.inr h
  have hS : va_S A s.heap s.heap [] := va_S.rf
  have hl := lv_entry ([.ref (a 0), .int (nI i), .int y]) (n := 3) (Nat.le_of_ble_eq_true rfl)
  rw [lg_entry_eq]
  generalize (lg_sl ([.ref (a 0), .int (nI i), .int y]) ++ List.replicate (3 - (lg_sl ([.ref (a 0), .int (nI i), .int y])).length) Slot.unset).toArray = ls at hl ⊢
  have hl : lv_has ls 3 [(0, .ref (a 0)), (1, .int (nI i)), (2, .int y)] := hl
  refine lv_aload_n hx hb dX1_wouldTell_0 rfl (lv_at hl 0 rfl) ?_
  refine lv_iconst (v := 0) hx hb dX1_wouldTell_1 (by decide) ?_
  refine mp_th hC hK hP hD hS dX1_wouldTell_2 (fun H locs hP hD hS => ?_)
  refine lv_aload_n hx hb dX1_wouldTell_5 rfl (lv_at hl 0 rfl) ?_
  refine lv_iload_n hx hb dX1_wouldTell_6 rfl (lv_at hl 1 rfl) ?_
  refine k_X1_isWitness hC hK hP hl.1 ⟨Nat.le_of_ble_eq_true rfl, Nat.le_of_ble_eq_true rfl⟩ ⟨Nat.zero_le _, Nat.zero_le _⟩ (Nat.le_of_ble_eq_true rfl)  (by first | assumption | omega) dX1_wouldTell_7 ?_
  refine lv_if_ne (tgt := 19) hx hb dX1_wouldTell_10 (by decide) (fun c_10 => ?_) (fun c_10 => ?_)
  · refine lv_iload_n hx hb dX1_wouldTell_19 rfl (lv_at hl 2 rfl) ?_
    refine lv_iconst (v := 1) hx hb dX1_wouldTell_20 (by decide) ?_
    refine lv_bipush (v := 60) hx hb dX1_wouldTell_21 (by decide) ?_
    refine k_X1_isIn hC hl.1 ⟨Nat.le_of_ble_eq_true rfl, Nat.le_of_ble_eq_true rfl⟩ ⟨Nat.zero_le _, Nat.zero_le _⟩ (Nat.le_of_ble_eq_true rfl)   dX1_wouldTell_23 ?_
    refine lv_if_eq (tgt := 38) hx hb dX1_wouldTell_26 (by decide) (fun c_26 => ?_) (fun c_26 => ?_)
    · exact absurd c_26 (in_1 h1 h2)
    · refine lv_aload_n hx hb dX1_wouldTell_29 rfl (lv_at hl 0 rfl) ?_
      refine lv_iload_n hx hb dX1_wouldTell_30 rfl (lv_at hl 1 rfl) ?_
      refine lv_iload_n hx hb dX1_wouldTell_31 rfl (lv_at hl 2 rfl) ?_
      refine k_X1_tells hC hK hP hl.1 ⟨Nat.le_of_ble_eq_true rfl, Nat.le_of_ble_eq_true rfl⟩ ⟨Nat.zero_le _, Nat.zero_le _⟩ (Nat.le_of_ble_eq_true rfl) rfl (by first | assumption | omega) dX1_wouldTell_32 ?_
      refine lv_goto (tgt := 43) hx hb dX1_wouldTell_35 (by decide) ?_
      exact W.iret (v := sp_tale (nv i) y) hx hb hr (fun t ht hW => ⟨⟨sp_tale (nv i) y, (), rfl, rfl, by rw [ht]; exact hP, va_K.moved hW.alike hK, hD⟩, hS.F ht⟩) hS.2.2 dX1_wouldTell_43
  · exact absurd c_10 (by rw [isP_in (by omega) hi]; decide)
set_option maxHeartbeats 4000000 in
set_option maxRecDepth 100000 in
theorem c_X1_wouldTell_a (l : Launch) (sz : Nat) {D : va_G} {z : ClassId × ClassId} {a : Nat → Nat} {th : Int32} {n w : Nat} {gn lk pu fa he nv of mp mi : Nat → Int32} {k : Nat} {nt fu re : Int32} (x y : Int32) (hw : w ≤ 6) (hbad : sp_isP w x = 0) : Met l yX1_wouldTell (ws_ yX1_wouldTell cX1_wouldTell 3 (some .int)) ({ frames := 2, cells := 0, slots := 0, locals := 43 } : Room) (va_Pc [.ref (a 0), .int x, .int y] (fun U => U.heap.size = sz ∧ mI D z a th n w gn lk pu fa he nv of mp mi k nt fu re U ∧ va_D (fun _ => True) (mW z a th n w gn lk pu fa he nv of mp mi k nt fu re))) (va_Qi (fun (r : Int32) (_ : Unit) => r = 0) (fun _ t9 => va_P D vwCl (mW z a 1 n w gn lk pu fa he nv of mp mi k nt fu re) t9.heap ∧ kK D z t9 ∧ va_D (va_A (mW z a th n w gn lk pu fa he nv of mp mi k nt fu re) sz) (mW z a 1 n w gn lk pu fa he nv of mp mi k nt fu re)) (va_A (mW z a th n w gn lk pu fa he nv of mp mi k nt fu re) sz)) 0 0 (va_A (mW z a th n w gn lk pu fa he nv of mp mi k nt fu re) sz) := by
  refine Met.ofW (cc := cX1_wouldTell) (maxL := 3) (ret := (some .int)) (by decide) rfl ?_
  intro p e s m args below meth c s₁ B hml hv
  obtain ⟨rfl, hsz, ⟨hP, hK⟩, hD0⟩ := hv
  have hx := B.exec
  have hb := B.bytes
  have hr := B.returns
  have hts := atoms_spec (ws := ws_ yX1_wouldTell cX1_wouldTell 3 (some .int)) B.pre
  have hts : ∀ w ∈ lw_all, w.before _ s = true := fun w h => hts w (List.mem_cons_of_mem _ h)
  have hown : s.vm.findClass RX1 = some m.cls := findClass_of_methodNamed B.named
  have hlocks := B.notSynchronized
  have hC : CallFix p m c cX1_wouldTell 3 s _ lw_all RX1 := ⟨hx, hb, hml, hown, hts⟩
  subst hsz
  have hD := hD0.self (sz := s.heap.size)
  generalize hAe : va_A (mW z a th n w gn lk pu fa he nv of mp mi k nt fu re) s.heap.size = A at hD ⊢
  have hA : ∀ q : Nat, s.heap.size ≤ q → A q := fun q h => by rw [← hAe]; exact Or.inr h
  have hS : va_S A s.heap s.heap [] := va_S.rf
  have hl := lv_entry ([.ref (a 0), .int x, .int y]) (n := 3) (Nat.le_of_ble_eq_true rfl)
  rw [lg_entry_eq]
  generalize (lg_sl ([.ref (a 0), .int x, .int y]) ++ List.replicate (3 - (lg_sl ([.ref (a 0), .int x, .int y])).length) Slot.unset).toArray = ls at hl ⊢
  have hl : lv_has ls 3 [(0, .ref (a 0)), (1, .int x), (2, .int y)] := hl
  refine lv_aload_n hx hb dX1_wouldTell_0 rfl (lv_at hl 0 rfl) ?_
  refine lv_iconst (v := 0) hx hb dX1_wouldTell_1 (by decide) ?_
  refine mp_th hC hK hP hD hS dX1_wouldTell_2 (fun H locs hP hD hS => ?_)
  refine lv_aload_n hx hb dX1_wouldTell_5 rfl (lv_at hl 0 rfl) ?_
  refine lv_iload_n hx hb dX1_wouldTell_6 rfl (lv_at hl 1 rfl) ?_
  refine k_X1_isWitness hC hK hP hl.1 ⟨Nat.le_of_ble_eq_true rfl, Nat.le_of_ble_eq_true rfl⟩ ⟨Nat.zero_le _, Nat.zero_le _⟩ (Nat.le_of_ble_eq_true rfl)  (by first | assumption | omega) dX1_wouldTell_7 ?_
  refine lv_if_ne (tgt := 19) hx hb dX1_wouldTell_10 (by decide) (fun c_10 => ?_) (fun c_10 => ?_)
  · exact absurd hbad c_10
  · refine lv_aload_n hx hb dX1_wouldTell_13 rfl (lv_at hl 0 rfl) ?_
    refine lv_iconst (v := 1) hx hb dX1_wouldTell_14 (by decide) ?_
    refine k_X1_fail hC hK hP hD hS hA hl.1 ⟨Nat.le_of_ble_eq_true rfl, Nat.le_of_ble_eq_true rfl⟩ ⟨Nat.zero_le _, Nat.zero_le _⟩ (Nat.le_of_ble_eq_true rfl)   dX1_wouldTell_15 (fun H locs hP hD hS => ?_)
    exact W.iret (v := 0) hx hb hr (fun t ht hW => ⟨⟨0, (), rfl, rfl, by rw [ht]; exact hP, va_K.moved hW.alike hK, hD⟩, hS.F ht⟩) hS.2.2 dX1_wouldTell_18
set_option maxHeartbeats 4000000 in
set_option maxRecDepth 100000 in
theorem c_X1_wouldTell_b (l : Launch) (sz : Nat) {D : va_G} {z : ClassId × ClassId} {a : Nat → Nat} {th : Int32} {n w : Nat} {gn lk pu fa he nv of mp mi : Nat → Int32} {k : Nat} {nt fu re : Int32} (i : Nat) (hi : i < w) (hw : w ≤ 6) (y : Int32) (hbad : y < 1 ∨ ¬ y ≤ 60) : Met l yX1_wouldTell (ws_ yX1_wouldTell cX1_wouldTell 3 (some .int)) ({ frames := 2, cells := 0, slots := 0, locals := 43 } : Room) (va_Pc [.ref (a 0), .int (nI i), .int y] (fun U => U.heap.size = sz ∧ mI D z a th n w gn lk pu fa he nv of mp mi k nt fu re U ∧ va_D (fun _ => True) (mW z a th n w gn lk pu fa he nv of mp mi k nt fu re))) (va_Qi (fun (r : Int32) (_ : Unit) => r = 0) (fun _ t9 => va_P D vwCl (mW z a 2 n w gn lk pu fa he nv of mp mi k nt fu re) t9.heap ∧ kK D z t9 ∧ va_D (va_A (mW z a th n w gn lk pu fa he nv of mp mi k nt fu re) sz) (mW z a 2 n w gn lk pu fa he nv of mp mi k nt fu re)) (va_A (mW z a th n w gn lk pu fa he nv of mp mi k nt fu re) sz)) 0 0 (va_A (mW z a th n w gn lk pu fa he nv of mp mi k nt fu re) sz) := by
  refine Met.ofW (cc := cX1_wouldTell) (maxL := 3) (ret := (some .int)) (by decide) rfl ?_
  intro p e s m args below meth c s₁ B hml hv
  obtain ⟨rfl, hsz, ⟨hP, hK⟩, hD0⟩ := hv
  have hx := B.exec
  have hb := B.bytes
  have hr := B.returns
  have hts := atoms_spec (ws := ws_ yX1_wouldTell cX1_wouldTell 3 (some .int)) B.pre
  have hts : ∀ w ∈ lw_all, w.before _ s = true := fun w h => hts w (List.mem_cons_of_mem _ h)
  have hown : s.vm.findClass RX1 = some m.cls := findClass_of_methodNamed B.named
  have hlocks := B.notSynchronized
  have hC : CallFix p m c cX1_wouldTell 3 s _ lw_all RX1 := ⟨hx, hb, hml, hown, hts⟩
  subst hsz
  have hD := hD0.self (sz := s.heap.size)
  generalize hAe : va_A (mW z a th n w gn lk pu fa he nv of mp mi k nt fu re) s.heap.size = A at hD ⊢
  have hA : ∀ q : Nat, s.heap.size ≤ q → A q := fun q h => by rw [← hAe]; exact Or.inr h
  have hS : va_S A s.heap s.heap [] := va_S.rf
  have hl := lv_entry ([.ref (a 0), .int (nI i), .int y]) (n := 3) (Nat.le_of_ble_eq_true rfl)
  rw [lg_entry_eq]
  generalize (lg_sl ([.ref (a 0), .int (nI i), .int y]) ++ List.replicate (3 - (lg_sl ([.ref (a 0), .int (nI i), .int y])).length) Slot.unset).toArray = ls at hl ⊢
  have hl : lv_has ls 3 [(0, .ref (a 0)), (1, .int (nI i)), (2, .int y)] := hl
  refine lv_aload_n hx hb dX1_wouldTell_0 rfl (lv_at hl 0 rfl) ?_
  refine lv_iconst (v := 0) hx hb dX1_wouldTell_1 (by decide) ?_
  refine mp_th hC hK hP hD hS dX1_wouldTell_2 (fun H locs hP hD hS => ?_)
  refine lv_aload_n hx hb dX1_wouldTell_5 rfl (lv_at hl 0 rfl) ?_
  refine lv_iload_n hx hb dX1_wouldTell_6 rfl (lv_at hl 1 rfl) ?_
  refine k_X1_isWitness hC hK hP hl.1 ⟨Nat.le_of_ble_eq_true rfl, Nat.le_of_ble_eq_true rfl⟩ ⟨Nat.zero_le _, Nat.zero_le _⟩ (Nat.le_of_ble_eq_true rfl)  (by first | assumption | omega) dX1_wouldTell_7 ?_
  refine lv_if_ne (tgt := 19) hx hb dX1_wouldTell_10 (by decide) (fun c_10 => ?_) (fun c_10 => ?_)
  · refine lv_iload_n hx hb dX1_wouldTell_19 rfl (lv_at hl 2 rfl) ?_
    refine lv_iconst (v := 1) hx hb dX1_wouldTell_20 (by decide) ?_
    refine lv_bipush (v := 60) hx hb dX1_wouldTell_21 (by decide) ?_
    refine k_X1_isIn hC hl.1 ⟨Nat.le_of_ble_eq_true rfl, Nat.le_of_ble_eq_true rfl⟩ ⟨Nat.zero_le _, Nat.zero_le _⟩ (Nat.le_of_ble_eq_true rfl)   dX1_wouldTell_23 ?_
    refine lv_if_eq (tgt := 38) hx hb dX1_wouldTell_26 (by decide) (fun c_26 => ?_) (fun c_26 => ?_)
    · refine lv_aload_n hx hb dX1_wouldTell_38 rfl (lv_at hl 0 rfl) ?_
      refine lv_iconst (v := 2) hx hb dX1_wouldTell_39 (by decide) ?_
      refine k_X1_fail hC hK hP hD hS hA hl.1 ⟨Nat.le_of_ble_eq_true rfl, Nat.le_of_ble_eq_true rfl⟩ ⟨Nat.zero_le _, Nat.zero_le _⟩ (Nat.le_of_ble_eq_true rfl)   dX1_wouldTell_40 (fun H locs hP hD hS => ?_)
      exact W.iret (v := 0) hx hb hr (fun t ht hW => ⟨⟨0, (), rfl, rfl, by rw [ht]; exact hP, va_K.moved hW.alike hK, hD⟩, hS.F ht⟩) hS.2.2 dX1_wouldTell_43
    · exact absurd (in_0 hbad) c_26
  · exact absurd c_10 (by rw [isP_in (by omega) hi]; decide)
set_option maxHeartbeats 4000000 in
set_option maxRecDepth 100000 in
theorem c_X1_personOf (l : Launch) (sz : Nat) {D : va_G} {z : ClassId × ClassId} {a : Nat → Nat} {th : Int32} {n w : Nat} {gn lk pu fa he nv of mp mi : Nat → Int32} {k : Nat} {nt fu re : Int32} (i : Nat) (hi : i < k) (hk : k ≤ 60) : Met l yX1_personOf (ws_ yX1_personOf cX1_personOf 2 (some .int)) ({ frames := 2, cells := 0, slots := 0, locals := 43 } : Room) (va_Pc [.ref (a 0), .int (nI i)] (fun U => U.heap.size = sz ∧ mI D z a th n w gn lk pu fa he nv of mp mi k nt fu re U ∧ va_D (fun _ => True) (mW z a th n w gn lk pu fa he nv of mp mi k nt fu re))) (va_Qi (fun (r : Int32) (_ : Unit) => r = mp i) (fun _ t9 => va_P D vwCl (mW z a 0 n w gn lk pu fa he nv of mp mi k nt fu re) t9.heap ∧ kK D z t9 ∧ va_D (va_A (mW z a th n w gn lk pu fa he nv of mp mi k nt fu re) sz) (mW z a 0 n w gn lk pu fa he nv of mp mi k nt fu re)) (va_A (mW z a th n w gn lk pu fa he nv of mp mi k nt fu re) sz)) 0 0 (va_A (mW z a th n w gn lk pu fa he nv of mp mi k nt fu re) sz) := by
  refine Met.ofW (cc := cX1_personOf) (maxL := 2) (ret := (some .int)) (by decide) rfl ?_
  intro p e s m args below meth c s₁ B hml hv
  obtain ⟨rfl, hsz, ⟨hP, hK⟩, hD0⟩ := hv
  have hx := B.exec
  have hb := B.bytes
  have hr := B.returns
  have hts := atoms_spec (ws := ws_ yX1_personOf cX1_personOf 2 (some .int)) B.pre
  have hts : ∀ w ∈ lw_all, w.before _ s = true := fun w h => hts w (List.mem_cons_of_mem _ h)
  have hown : s.vm.findClass RX1 = some m.cls := findClass_of_methodNamed B.named
  have hlocks := B.notSynchronized
  have hC : CallFix p m c cX1_personOf 2 s _ lw_all RX1 := ⟨hx, hb, hml, hown, hts⟩
  subst hsz
  have hD := hD0.self (sz := s.heap.size)
  generalize hAe : va_A (mW z a th n w gn lk pu fa he nv of mp mi k nt fu re) s.heap.size = A at hD ⊢
  have hA : ∀ q : Nat, s.heap.size ≤ q → A q := fun q h => by rw [← hAe]; exact Or.inr h
  have hS : va_S A s.heap s.heap [] := va_S.rf
  have hl := lv_entry ([.ref (a 0), .int (nI i)]) (n := 2) (Nat.le_of_ble_eq_true rfl)
  rw [lg_entry_eq]
  generalize (lg_sl ([.ref (a 0), .int (nI i)]) ++ List.replicate (2 - (lg_sl ([.ref (a 0), .int (nI i)])).length) Slot.unset).toArray = ls at hl ⊢
  have hl : lv_has ls 2 [(0, .ref (a 0)), (1, .int (nI i))] := hl
  refine lv_aload_n hx hb dX1_personOf_0 rfl (lv_at hl 0 rfl) ?_
  refine lv_iconst (v := 0) hx hb dX1_personOf_1 (by decide) ?_
  refine mp_th hC hK hP hD hS dX1_personOf_2 (fun H locs hP hD hS => ?_)
  refine lv_aload_n hx hb dX1_personOf_5 rfl (lv_at hl 0 rfl) ?_
  refine lv_iload_n hx hb dX1_personOf_6 rfl (lv_at hl 1 rfl) ?_
  refine k_X1_isMiss hC hK hP hl.1 ⟨Nat.le_of_ble_eq_true rfl, Nat.le_of_ble_eq_true rfl⟩ ⟨Nat.zero_le _, Nat.zero_le _⟩ (Nat.le_of_ble_eq_true rfl)  (by first | assumption | omega) dX1_personOf_7 ?_
  refine lv_if_eq (tgt := 22) hx hb dX1_personOf_10 (by decide) (fun c_10 => ?_) (fun c_10 => ?_)
  · exact absurd c_10 (by rw [isP_in (by omega) hi]; decide)
  · refine lv_aload_n hx hb dX1_personOf_13 rfl (lv_at hl 0 rfl) ?_
    refine mg_mp hC hK hP dX1_personOf_14 ?_
    refine lv_iload_n hx hb dX1_personOf_17 rfl (lv_at hl 1 rfl) ?_
    refine ml_mp hC hK hP i rfl (by omega) dX1_personOf_18 ?_
    refine lv_goto (tgt := 27) hx hb dX1_personOf_19 (by decide) ?_
    exact W.iret (v := mp i) hx hb hr (fun t ht hW => ⟨⟨mp i, (), rfl, rfl, by rw [ht]; exact hP, va_K.moved hW.alike hK, hD⟩, hS.F ht⟩) hS.2.2 dX1_personOf_27
set_option maxHeartbeats 4000000 in
set_option maxRecDepth 100000 in
theorem c_X1_personOf_a (l : Launch) (sz : Nat) {D : va_G} {z : ClassId × ClassId} {a : Nat → Nat} {th : Int32} {n w : Nat} {gn lk pu fa he nv of mp mi : Nat → Int32} {k : Nat} {nt fu re : Int32} (x : Int32) (hk : k ≤ 60) (hbad : sp_isP k x = 0) : Met l yX1_personOf (ws_ yX1_personOf cX1_personOf 2 (some .int)) ({ frames := 2, cells := 0, slots := 0, locals := 43 } : Room) (va_Pc [.ref (a 0), .int x] (fun U => U.heap.size = sz ∧ mI D z a th n w gn lk pu fa he nv of mp mi k nt fu re U ∧ va_D (fun _ => True) (mW z a th n w gn lk pu fa he nv of mp mi k nt fu re))) (va_Qi (fun (r : Int32) (_ : Unit) => r = 0) (fun _ t9 => va_P D vwCl (mW z a 1 n w gn lk pu fa he nv of mp mi k nt fu re) t9.heap ∧ kK D z t9 ∧ va_D (va_A (mW z a th n w gn lk pu fa he nv of mp mi k nt fu re) sz) (mW z a 1 n w gn lk pu fa he nv of mp mi k nt fu re)) (va_A (mW z a th n w gn lk pu fa he nv of mp mi k nt fu re) sz)) 0 0 (va_A (mW z a th n w gn lk pu fa he nv of mp mi k nt fu re) sz) := by
  refine Met.ofW (cc := cX1_personOf) (maxL := 2) (ret := (some .int)) (by decide) rfl ?_
  intro p e s m args below meth c s₁ B hml hv
  obtain ⟨rfl, hsz, ⟨hP, hK⟩, hD0⟩ := hv
  have hx := B.exec
  have hb := B.bytes
  have hr := B.returns
  have hts := atoms_spec (ws := ws_ yX1_personOf cX1_personOf 2 (some .int)) B.pre
  have hts : ∀ w ∈ lw_all, w.before _ s = true := fun w h => hts w (List.mem_cons_of_mem _ h)
  have hown : s.vm.findClass RX1 = some m.cls := findClass_of_methodNamed B.named
  have hlocks := B.notSynchronized
  have hC : CallFix p m c cX1_personOf 2 s _ lw_all RX1 := ⟨hx, hb, hml, hown, hts⟩
  subst hsz
  have hD := hD0.self (sz := s.heap.size)
  generalize hAe : va_A (mW z a th n w gn lk pu fa he nv of mp mi k nt fu re) s.heap.size = A at hD ⊢
  have hA : ∀ q : Nat, s.heap.size ≤ q → A q := fun q h => by rw [← hAe]; exact Or.inr h
  have hS : va_S A s.heap s.heap [] := va_S.rf
  have hl := lv_entry ([.ref (a 0), .int x]) (n := 2) (Nat.le_of_ble_eq_true rfl)
  rw [lg_entry_eq]
  generalize (lg_sl ([.ref (a 0), .int x]) ++ List.replicate (2 - (lg_sl ([.ref (a 0), .int x])).length) Slot.unset).toArray = ls at hl ⊢
  have hl : lv_has ls 2 [(0, .ref (a 0)), (1, .int x)] := hl
  refine lv_aload_n hx hb dX1_personOf_0 rfl (lv_at hl 0 rfl) ?_
  refine lv_iconst (v := 0) hx hb dX1_personOf_1 (by decide) ?_
  refine mp_th hC hK hP hD hS dX1_personOf_2 (fun H locs hP hD hS => ?_)
  refine lv_aload_n hx hb dX1_personOf_5 rfl (lv_at hl 0 rfl) ?_
  refine lv_iload_n hx hb dX1_personOf_6 rfl (lv_at hl 1 rfl) ?_
  refine k_X1_isMiss hC hK hP hl.1 ⟨Nat.le_of_ble_eq_true rfl, Nat.le_of_ble_eq_true rfl⟩ ⟨Nat.zero_le _, Nat.zero_le _⟩ (Nat.le_of_ble_eq_true rfl)  (by first | assumption | omega) dX1_personOf_7 ?_
  refine lv_if_eq (tgt := 22) hx hb dX1_personOf_10 (by decide) (fun c_10 => ?_) (fun c_10 => ?_)
  · refine lv_aload_n hx hb dX1_personOf_22 rfl (lv_at hl 0 rfl) ?_
    refine lv_iconst (v := 1) hx hb dX1_personOf_23 (by decide) ?_
    refine k_X1_fail hC hK hP hD hS hA hl.1 ⟨Nat.le_of_ble_eq_true rfl, Nat.le_of_ble_eq_true rfl⟩ ⟨Nat.zero_le _, Nat.zero_le _⟩ (Nat.le_of_ble_eq_true rfl)   dX1_personOf_24 (fun H locs hP hD hS => ?_)
    exact W.iret (v := 0) hx hb hr (fun t ht hW => ⟨⟨0, (), rfl, rfl, by rw [ht]; exact hP, va_K.moved hW.alike hK, hD⟩, hS.F ht⟩) hS.2.2 dX1_personOf_27
  · exact absurd hbad c_10
set_option maxHeartbeats 4000000 in
set_option maxRecDepth 100000 in
theorem c_X1_inchesOf (l : Launch) (sz : Nat) {D : va_G} {z : ClassId × ClassId} {a : Nat → Nat} {th : Int32} {n w : Nat} {gn lk pu fa he nv of mp mi : Nat → Int32} {k : Nat} {nt fu re : Int32} (i : Nat) (hi : i < k) (hk : k ≤ 60) : Met l yX1_inchesOf (ws_ yX1_inchesOf cX1_inchesOf 2 (some .int)) ({ frames := 2, cells := 0, slots := 0, locals := 43 } : Room) (va_Pc [.ref (a 0), .int (nI i)] (fun U => U.heap.size = sz ∧ mI D z a th n w gn lk pu fa he nv of mp mi k nt fu re U ∧ va_D (fun _ => True) (mW z a th n w gn lk pu fa he nv of mp mi k nt fu re))) (va_Qi (fun (r : Int32) (_ : Unit) => r = mi i) (fun _ t9 => va_P D vwCl (mW z a 0 n w gn lk pu fa he nv of mp mi k nt fu re) t9.heap ∧ kK D z t9 ∧ va_D (va_A (mW z a th n w gn lk pu fa he nv of mp mi k nt fu re) sz) (mW z a 0 n w gn lk pu fa he nv of mp mi k nt fu re)) (va_A (mW z a th n w gn lk pu fa he nv of mp mi k nt fu re) sz)) 0 0 (va_A (mW z a th n w gn lk pu fa he nv of mp mi k nt fu re) sz) := by
  refine Met.ofW (cc := cX1_inchesOf) (maxL := 2) (ret := (some .int)) (by decide) rfl ?_
  intro p e s m args below meth c s₁ B hml hv
  obtain ⟨rfl, hsz, ⟨hP, hK⟩, hD0⟩ := hv
  have hx := B.exec
  have hb := B.bytes
  have hr := B.returns
  have hts := atoms_spec (ws := ws_ yX1_inchesOf cX1_inchesOf 2 (some .int)) B.pre
  have hts : ∀ w ∈ lw_all, w.before _ s = true := fun w h => hts w (List.mem_cons_of_mem _ h)
  have hown : s.vm.findClass RX1 = some m.cls := findClass_of_methodNamed B.named
  have hlocks := B.notSynchronized
  have hC : CallFix p m c cX1_inchesOf 2 s _ lw_all RX1 := ⟨hx, hb, hml, hown, hts⟩
  subst hsz
  have hD := hD0.self (sz := s.heap.size)
  generalize hAe : va_A (mW z a th n w gn lk pu fa he nv of mp mi k nt fu re) s.heap.size = A at hD ⊢
  have hA : ∀ q : Nat, s.heap.size ≤ q → A q := fun q h => by rw [← hAe]; exact Or.inr h
  have hS : va_S A s.heap s.heap [] := va_S.rf
  have hl := lv_entry ([.ref (a 0), .int (nI i)]) (n := 2) (Nat.le_of_ble_eq_true rfl)
  rw [lg_entry_eq]
  generalize (lg_sl ([.ref (a 0), .int (nI i)]) ++ List.replicate (2 - (lg_sl ([.ref (a 0), .int (nI i)])).length) Slot.unset).toArray = ls at hl ⊢
  have hl : lv_has ls 2 [(0, .ref (a 0)), (1, .int (nI i))] := hl
  refine lv_aload_n hx hb dX1_inchesOf_0 rfl (lv_at hl 0 rfl) ?_
  refine lv_iconst (v := 0) hx hb dX1_inchesOf_1 (by decide) ?_
  refine mp_th hC hK hP hD hS dX1_inchesOf_2 (fun H locs hP hD hS => ?_)
  refine lv_aload_n hx hb dX1_inchesOf_5 rfl (lv_at hl 0 rfl) ?_
  refine lv_iload_n hx hb dX1_inchesOf_6 rfl (lv_at hl 1 rfl) ?_
  refine k_X1_isMiss hC hK hP hl.1 ⟨Nat.le_of_ble_eq_true rfl, Nat.le_of_ble_eq_true rfl⟩ ⟨Nat.zero_le _, Nat.zero_le _⟩ (Nat.le_of_ble_eq_true rfl)  (by first | assumption | omega) dX1_inchesOf_7 ?_
  refine lv_if_eq (tgt := 22) hx hb dX1_inchesOf_10 (by decide) (fun c_10 => ?_) (fun c_10 => ?_)
  · exact absurd c_10 (by rw [isP_in (by omega) hi]; decide)
  · refine lv_aload_n hx hb dX1_inchesOf_13 rfl (lv_at hl 0 rfl) ?_
    refine mg_mi hC hK hP dX1_inchesOf_14 ?_
    refine lv_iload_n hx hb dX1_inchesOf_17 rfl (lv_at hl 1 rfl) ?_
    refine ml_mi hC hK hP i rfl (by omega) dX1_inchesOf_18 ?_
    refine lv_goto (tgt := 27) hx hb dX1_inchesOf_19 (by decide) ?_
    exact W.iret (v := mi i) hx hb hr (fun t ht hW => ⟨⟨mi i, (), rfl, rfl, by rw [ht]; exact hP, va_K.moved hW.alike hK, hD⟩, hS.F ht⟩) hS.2.2 dX1_inchesOf_27
set_option maxHeartbeats 4000000 in
set_option maxRecDepth 100000 in
theorem c_X1_inchesOf_a (l : Launch) (sz : Nat) {D : va_G} {z : ClassId × ClassId} {a : Nat → Nat} {th : Int32} {n w : Nat} {gn lk pu fa he nv of mp mi : Nat → Int32} {k : Nat} {nt fu re : Int32} (x : Int32) (hk : k ≤ 60) (hbad : sp_isP k x = 0) : Met l yX1_inchesOf (ws_ yX1_inchesOf cX1_inchesOf 2 (some .int)) ({ frames := 2, cells := 0, slots := 0, locals := 43 } : Room) (va_Pc [.ref (a 0), .int x] (fun U => U.heap.size = sz ∧ mI D z a th n w gn lk pu fa he nv of mp mi k nt fu re U ∧ va_D (fun _ => True) (mW z a th n w gn lk pu fa he nv of mp mi k nt fu re))) (va_Qi (fun (r : Int32) (_ : Unit) => r = 0) (fun _ t9 => va_P D vwCl (mW z a 1 n w gn lk pu fa he nv of mp mi k nt fu re) t9.heap ∧ kK D z t9 ∧ va_D (va_A (mW z a th n w gn lk pu fa he nv of mp mi k nt fu re) sz) (mW z a 1 n w gn lk pu fa he nv of mp mi k nt fu re)) (va_A (mW z a th n w gn lk pu fa he nv of mp mi k nt fu re) sz)) 0 0 (va_A (mW z a th n w gn lk pu fa he nv of mp mi k nt fu re) sz) := by
  refine Met.ofW (cc := cX1_inchesOf) (maxL := 2) (ret := (some .int)) (by decide) rfl ?_
  intro p e s m args below meth c s₁ B hml hv
  obtain ⟨rfl, hsz, ⟨hP, hK⟩, hD0⟩ := hv
  have hx := B.exec
  have hb := B.bytes
  have hr := B.returns
  have hts := atoms_spec (ws := ws_ yX1_inchesOf cX1_inchesOf 2 (some .int)) B.pre
  have hts : ∀ w ∈ lw_all, w.before _ s = true := fun w h => hts w (List.mem_cons_of_mem _ h)
  have hown : s.vm.findClass RX1 = some m.cls := findClass_of_methodNamed B.named
  have hlocks := B.notSynchronized
  have hC : CallFix p m c cX1_inchesOf 2 s _ lw_all RX1 := ⟨hx, hb, hml, hown, hts⟩
  subst hsz
  have hD := hD0.self (sz := s.heap.size)
  generalize hAe : va_A (mW z a th n w gn lk pu fa he nv of mp mi k nt fu re) s.heap.size = A at hD ⊢
  have hA : ∀ q : Nat, s.heap.size ≤ q → A q := fun q h => by rw [← hAe]; exact Or.inr h
  have hS : va_S A s.heap s.heap [] := va_S.rf
  have hl := lv_entry ([.ref (a 0), .int x]) (n := 2) (Nat.le_of_ble_eq_true rfl)
  rw [lg_entry_eq]
  generalize (lg_sl ([.ref (a 0), .int x]) ++ List.replicate (2 - (lg_sl ([.ref (a 0), .int x])).length) Slot.unset).toArray = ls at hl ⊢
  have hl : lv_has ls 2 [(0, .ref (a 0)), (1, .int x)] := hl
  refine lv_aload_n hx hb dX1_inchesOf_0 rfl (lv_at hl 0 rfl) ?_
  refine lv_iconst (v := 0) hx hb dX1_inchesOf_1 (by decide) ?_
  refine mp_th hC hK hP hD hS dX1_inchesOf_2 (fun H locs hP hD hS => ?_)
  refine lv_aload_n hx hb dX1_inchesOf_5 rfl (lv_at hl 0 rfl) ?_
  refine lv_iload_n hx hb dX1_inchesOf_6 rfl (lv_at hl 1 rfl) ?_
  refine k_X1_isMiss hC hK hP hl.1 ⟨Nat.le_of_ble_eq_true rfl, Nat.le_of_ble_eq_true rfl⟩ ⟨Nat.zero_le _, Nat.zero_le _⟩ (Nat.le_of_ble_eq_true rfl)  (by first | assumption | omega) dX1_inchesOf_7 ?_
  refine lv_if_eq (tgt := 22) hx hb dX1_inchesOf_10 (by decide) (fun c_10 => ?_) (fun c_10 => ?_)
  · refine lv_aload_n hx hb dX1_inchesOf_22 rfl (lv_at hl 0 rfl) ?_
    refine lv_iconst (v := 1) hx hb dX1_inchesOf_23 (by decide) ?_
    refine k_X1_fail hC hK hP hD hS hA hl.1 ⟨Nat.le_of_ble_eq_true rfl, Nat.le_of_ble_eq_true rfl⟩ ⟨Nat.zero_le _, Nat.zero_le _⟩ (Nat.le_of_ble_eq_true rfl)   dX1_inchesOf_24 (fun H locs hP hD hS => ?_)
    exact W.iret (v := 0) hx hb hr (fun t ht hW => ⟨⟨0, (), rfl, rfl, by rw [ht]; exact hP, va_K.moved hW.alike hK, hD⟩, hS.F ht⟩) hS.2.2 dX1_inchesOf_27
  · exact absurd hbad c_10
set_option maxHeartbeats 4000000 in
set_option maxRecDepth 100000 in
theorem c_X1_sealOf (l : Launch) (sz : Nat) {D : va_G} {z : ClassId × ClassId} {a : Nat → Nat} {th : Int32} {n w : Nat} {gn lk pu fa he nv of mp mi : Nat → Int32} {k : Nat} {nt fu re : Int32} {q9 t9 : Nat → Nat} (i : Nat) (hi : i < k) (hk : k ≤ 60) : Met l yX1_sealOf (ws_ yX1_sealOf cX1_sealOf 2 (some .int)) ({ frames := 6, cells := 0, slots := 0, locals := 130 } : Room) (va_Pc [.ref (a 0), .int (nI i)] (fun U => U.heap.size = sz ∧ mI D z a th n w gn lk pu fa he nv of mp mi k nt fu re U ∧ va_D (fun _ => True) (mW z a th n w gn lk pu fa he nv of mp mi k nt fu re) ∧ cH q9 t9 (va_A (mW z a th n w gn lk pu fa he nv of mp mi k nt fu re) sz) U U.heap)) (va_Qi (fun (r : Int32) (_ : Unit) => r = sp_seal (mp i) (mi i)) (fun _ t9 => va_P D vwCl (mW z a 0 n w gn lk pu fa he nv of mp mi k nt fu re) t9.heap ∧ kK D z t9 ∧ va_D (va_A (mW z a th n w gn lk pu fa he nv of mp mi k nt fu re) sz) (mW z a 0 n w gn lk pu fa he nv of mp mi k nt fu re)) (va_A (mW z a th n w gn lk pu fa he nv of mp mi k nt fu re) sz)) 0 0 (va_A (mW z a th n w gn lk pu fa he nv of mp mi k nt fu re) sz) := by
  refine Met.ofW (cc := cX1_sealOf) (maxL := 2) (ret := (some .int)) (by decide) rfl ?_
  intro p e s m args below meth c s₁ B hml hv
  obtain ⟨rfl, hsz, ⟨hP, hK⟩, hD0, hE⟩ := hv
  have hx := B.exec
  have hb := B.bytes
  have hr := B.returns
  have hts := atoms_spec (ws := ws_ yX1_sealOf cX1_sealOf 2 (some .int)) B.pre
  have hts : ∀ w ∈ lw_all, w.before _ s = true := fun w h => hts w (List.mem_cons_of_mem _ h)
  have hown : s.vm.findClass RX1 = some m.cls := findClass_of_methodNamed B.named
  have hlocks := B.notSynchronized
  have hC : CallFix p m c cX1_sealOf 2 s _ lw_all RX1 := ⟨hx, hb, hml, hown, hts⟩
  subst hsz
  have hD := hD0.self (sz := s.heap.size)
  generalize hAe : va_A (mW z a th n w gn lk pu fa he nv of mp mi k nt fu re) s.heap.size = A at hD hE ⊢
  have hA : ∀ q : Nat, s.heap.size ≤ q → A q := fun q h => by rw [← hAe]; exact Or.inr h
  have hS : va_S A s.heap s.heap [] := va_S.rf
  have hl := lv_entry ([.ref (a 0), .int (nI i)]) (n := 2) (Nat.le_of_ble_eq_true rfl)
  rw [lg_entry_eq]
  generalize (lg_sl ([.ref (a 0), .int (nI i)]) ++ List.replicate (2 - (lg_sl ([.ref (a 0), .int (nI i)])).length) Slot.unset).toArray = ls at hl ⊢
  have hl : lv_has ls 2 [(0, .ref (a 0)), (1, .int (nI i))] := hl
  refine lv_aload_n hx hb dX1_sealOf_0 rfl (lv_at hl 0 rfl) ?_
  refine lv_iconst (v := 0) hx hb dX1_sealOf_1 (by decide) ?_
  refine mp_th hC hK hP hD hS dX1_sealOf_2 (fun H locs hP hD hS => ?_)
  refine lv_aload_n hx hb dX1_sealOf_5 rfl (lv_at hl 0 rfl) ?_
  refine lv_iload_n hx hb dX1_sealOf_6 rfl (lv_at hl 1 rfl) ?_
  refine k_X1_isMiss hC hK hP hl.1 ⟨Nat.le_of_ble_eq_true rfl, Nat.le_of_ble_eq_true rfl⟩ ⟨Nat.zero_le _, Nat.zero_le _⟩ (Nat.le_of_ble_eq_true rfl)  (by first | assumption | omega) dX1_sealOf_7 ?_
  refine lv_if_eq (tgt := 21) hx hb dX1_sealOf_10 (by decide) (fun c_10 => ?_) (fun c_10 => ?_)
  · exact absurd c_10 (by rw [isP_in (by omega) hi]; decide)
  · refine lv_aload_n hx hb dX1_sealOf_13 rfl (lv_at hl 0 rfl) ?_
    refine lv_iload_n hx hb dX1_sealOf_14 rfl (lv_at hl 1 rfl) ?_
    refine k_X1_sealAt hC hK hP (hE.at hS) hl.1 ⟨Nat.le_of_ble_eq_true rfl, Nat.le_of_ble_eq_true rfl⟩ ⟨Nat.zero_le _, Nat.zero_le _⟩ (Nat.le_of_ble_eq_true rfl) rfl (by first | assumption | omega) dX1_sealOf_15 ?_
    refine lv_goto (tgt := 26) hx hb dX1_sealOf_18 (by decide) ?_
    exact W.iret (v := sp_seal (mp i) (mi i)) hx hb hr (fun t ht hW => ⟨⟨sp_seal (mp i) (mi i), (), rfl, rfl, by rw [ht]; exact hP, va_K.moved hW.alike hK, hD⟩, hS.F ht⟩) hS.2.2 dX1_sealOf_26
set_option maxHeartbeats 4000000 in
set_option maxRecDepth 100000 in
theorem c_X1_sealOf_a (l : Launch) (sz : Nat) {D : va_G} {z : ClassId × ClassId} {a : Nat → Nat} {th : Int32} {n w : Nat} {gn lk pu fa he nv of mp mi : Nat → Int32} {k : Nat} {nt fu re : Int32} (x : Int32) (hk : k ≤ 60) (hbad : sp_isP k x = 0) : Met l yX1_sealOf (ws_ yX1_sealOf cX1_sealOf 2 (some .int)) ({ frames := 2, cells := 0, slots := 0, locals := 43 } : Room) (va_Pc [.ref (a 0), .int x] (fun U => U.heap.size = sz ∧ mI D z a th n w gn lk pu fa he nv of mp mi k nt fu re U ∧ va_D (fun _ => True) (mW z a th n w gn lk pu fa he nv of mp mi k nt fu re))) (va_Qi (fun (r : Int32) (_ : Unit) => r = 0) (fun _ t9 => va_P D vwCl (mW z a 1 n w gn lk pu fa he nv of mp mi k nt fu re) t9.heap ∧ kK D z t9 ∧ va_D (va_A (mW z a th n w gn lk pu fa he nv of mp mi k nt fu re) sz) (mW z a 1 n w gn lk pu fa he nv of mp mi k nt fu re)) (va_A (mW z a th n w gn lk pu fa he nv of mp mi k nt fu re) sz)) 0 0 (va_A (mW z a th n w gn lk pu fa he nv of mp mi k nt fu re) sz) := by
  refine Met.ofW (cc := cX1_sealOf) (maxL := 2) (ret := (some .int)) (by decide) rfl ?_
  intro p e s m args below meth c s₁ B hml hv
  obtain ⟨rfl, hsz, ⟨hP, hK⟩, hD0⟩ := hv
  have hx := B.exec
  have hb := B.bytes
  have hr := B.returns
  have hts := atoms_spec (ws := ws_ yX1_sealOf cX1_sealOf 2 (some .int)) B.pre
  have hts : ∀ w ∈ lw_all, w.before _ s = true := fun w h => hts w (List.mem_cons_of_mem _ h)
  have hown : s.vm.findClass RX1 = some m.cls := findClass_of_methodNamed B.named
  have hlocks := B.notSynchronized
  have hC : CallFix p m c cX1_sealOf 2 s _ lw_all RX1 := ⟨hx, hb, hml, hown, hts⟩
  subst hsz
  have hD := hD0.self (sz := s.heap.size)
  generalize hAe : va_A (mW z a th n w gn lk pu fa he nv of mp mi k nt fu re) s.heap.size = A at hD ⊢
  have hA : ∀ q : Nat, s.heap.size ≤ q → A q := fun q h => by rw [← hAe]; exact Or.inr h
  have hS : va_S A s.heap s.heap [] := va_S.rf
  have hl := lv_entry ([.ref (a 0), .int x]) (n := 2) (Nat.le_of_ble_eq_true rfl)
  rw [lg_entry_eq]
  generalize (lg_sl ([.ref (a 0), .int x]) ++ List.replicate (2 - (lg_sl ([.ref (a 0), .int x])).length) Slot.unset).toArray = ls at hl ⊢
  have hl : lv_has ls 2 [(0, .ref (a 0)), (1, .int x)] := hl
  refine lv_aload_n hx hb dX1_sealOf_0 rfl (lv_at hl 0 rfl) ?_
  refine lv_iconst (v := 0) hx hb dX1_sealOf_1 (by decide) ?_
  refine mp_th hC hK hP hD hS dX1_sealOf_2 (fun H locs hP hD hS => ?_)
  refine lv_aload_n hx hb dX1_sealOf_5 rfl (lv_at hl 0 rfl) ?_
  refine lv_iload_n hx hb dX1_sealOf_6 rfl (lv_at hl 1 rfl) ?_
  refine k_X1_isMiss hC hK hP hl.1 ⟨Nat.le_of_ble_eq_true rfl, Nat.le_of_ble_eq_true rfl⟩ ⟨Nat.zero_le _, Nat.zero_le _⟩ (Nat.le_of_ble_eq_true rfl)  (by first | assumption | omega) dX1_sealOf_7 ?_
  refine lv_if_eq (tgt := 21) hx hb dX1_sealOf_10 (by decide) (fun c_10 => ?_) (fun c_10 => ?_)
  · refine lv_aload_n hx hb dX1_sealOf_21 rfl (lv_at hl 0 rfl) ?_
    refine lv_iconst (v := 1) hx hb dX1_sealOf_22 (by decide) ?_
    refine k_X1_fail hC hK hP hD hS hA hl.1 ⟨Nat.le_of_ble_eq_true rfl, Nat.le_of_ble_eq_true rfl⟩ ⟨Nat.zero_le _, Nat.zero_le _⟩ (Nat.le_of_ble_eq_true rfl)   dX1_sealOf_23 (fun H locs hP hD hS => ?_)
    exact W.iret (v := 0) hx hb hr (fun t ht hW => ⟨⟨0, (), rfl, rfl, by rw [ht]; exact hP, va_K.moved hW.alike hK, hD⟩, hS.F ht⟩) hS.2.2 dX1_sealOf_26
  · exact absurd hbad c_10
set_option maxHeartbeats 4000000 in
set_option maxRecDepth 100000 in
theorem c_X1_wouldCertify (l : Launch) (sz : Nat) {D : va_G} {z : ClassId × ClassId} {a : Nat → Nat} {th : Int32} {n w : Nat} {gn lk pu fa he nv of mp mi : Nat → Int32} {k : Nat} {nt fu re : Int32} (x : Int32) (h1 : ¬ x < 1) (h2 : x ≤ 60) (hw : w ≤ 6) : Met l yX1_wouldCertify (ws_ yX1_wouldCertify cX1_wouldCertify 2 (some .int)) ({ frames := 3, cells := 0, slots := 0, locals := 68 } : Room) (va_Pc [.ref (a 0), .int x] (fun U => U.heap.size = sz ∧ mI D z a th n w gn lk pu fa he nv of mp mi k nt fu re U ∧ va_D (fun _ => True) (mW z a th n w gn lk pu fa he nv of mp mi k nt fu re))) (va_Qi (fun (r : Int32) (_ : Unit) => r = mq_mid of nv x w) (fun _ t9 => va_P D vwCl (mW z a 0 n w gn lk pu fa he nv of mp mi k nt fu re) t9.heap ∧ kK D z t9 ∧ va_D (va_A (mW z a th n w gn lk pu fa he nv of mp mi k nt fu re) sz) (mW z a 0 n w gn lk pu fa he nv of mp mi k nt fu re)) (va_A (mW z a th n w gn lk pu fa he nv of mp mi k nt fu re) sz)) 0 0 (va_A (mW z a th n w gn lk pu fa he nv of mp mi k nt fu re) sz) := by
  refine Met.ofW (cc := cX1_wouldCertify) (maxL := 2) (ret := (some .int)) (by decide) rfl ?_
  intro p e s m args below meth c s₁ B hml hv
  obtain ⟨rfl, hsz, ⟨hP, hK⟩, hD0⟩ := hv
  have hx := B.exec
  have hb := B.bytes
  have hr := B.returns
  have hts := atoms_spec (ws := ws_ yX1_wouldCertify cX1_wouldCertify 2 (some .int)) B.pre
  have hts : ∀ w ∈ lw_all, w.before _ s = true := fun w h => hts w (List.mem_cons_of_mem _ h)
  have hown : s.vm.findClass RX1 = some m.cls := findClass_of_methodNamed B.named
  have hlocks := B.notSynchronized
  have hC : CallFix p m c cX1_wouldCertify 2 s _ lw_all RX1 := ⟨hx, hb, hml, hown, hts⟩
  subst hsz
  have hD := hD0.self (sz := s.heap.size)
  generalize hAe : va_A (mW z a th n w gn lk pu fa he nv of mp mi k nt fu re) s.heap.size = A at hD ⊢
  have hA : ∀ q : Nat, s.heap.size ≤ q → A q := fun q h => by rw [← hAe]; exact Or.inr h
  have hS : va_S A s.heap s.heap [] := va_S.rf
  have hl := lv_entry ([.ref (a 0), .int x]) (n := 2) (Nat.le_of_ble_eq_true rfl)
  rw [lg_entry_eq]
  generalize (lg_sl ([.ref (a 0), .int x]) ++ List.replicate (2 - (lg_sl ([.ref (a 0), .int x])).length) Slot.unset).toArray = ls at hl ⊢
  have hl : lv_has ls 2 [(0, .ref (a 0)), (1, .int x)] := hl
  refine lv_aload_n hx hb dX1_wouldCertify_0 rfl (lv_at hl 0 rfl) ?_
  refine lv_iconst (v := 0) hx hb dX1_wouldCertify_1 (by decide) ?_
  refine mp_th hC hK hP hD hS dX1_wouldCertify_2 (fun H locs hP hD hS => ?_)
  refine lv_iload_n hx hb dX1_wouldCertify_5 rfl (lv_at hl 1 rfl) ?_
  refine lv_iconst (v := 1) hx hb dX1_wouldCertify_6 (by decide) ?_
  refine lv_bipush (v := 60) hx hb dX1_wouldCertify_7 (by decide) ?_
  refine k_X1_isIn hC hl.1 ⟨Nat.le_of_ble_eq_true rfl, Nat.le_of_ble_eq_true rfl⟩ ⟨Nat.zero_le _, Nat.zero_le _⟩ (Nat.le_of_ble_eq_true rfl)   dX1_wouldCertify_9 ?_
  refine lv_if_eq (tgt := 23) hx hb dX1_wouldCertify_12 (by decide) (fun c_12 => ?_) (fun c_12 => ?_)
  · exact absurd c_12 (in_1 h1 h2)
  · refine lv_aload_n hx hb dX1_wouldCertify_15 rfl (lv_at hl 0 rfl) ?_
    refine lv_iload_n hx hb dX1_wouldCertify_16 rfl (lv_at hl 1 rfl) ?_
    refine k_X1_middle hC hK hP hl.1 ⟨Nat.le_of_ble_eq_true rfl, Nat.le_of_ble_eq_true rfl⟩ ⟨Nat.zero_le _, Nat.zero_le _⟩ (Nat.le_of_ble_eq_true rfl)  (by first | assumption | omega) dX1_wouldCertify_17 ?_
    refine lv_goto (tgt := 28) hx hb dX1_wouldCertify_20 (by decide) ?_
    exact W.iret (v := mq_mid of nv x w) hx hb hr (fun t ht hW => ⟨⟨mq_mid of nv x w, (), rfl, rfl, by rw [ht]; exact hP, va_K.moved hW.alike hK, hD⟩, hS.F ht⟩) hS.2.2 dX1_wouldCertify_28
set_option maxHeartbeats 4000000 in
set_option maxRecDepth 100000 in
theorem c_X1_wouldCertify_a (l : Launch) (sz : Nat) {D : va_G} {z : ClassId × ClassId} {a : Nat → Nat} {th : Int32} {n w : Nat} {gn lk pu fa he nv of mp mi : Nat → Int32} {k : Nat} {nt fu re : Int32} (x : Int32) (hbad : x < 1 ∨ ¬ x ≤ 60) : Met l yX1_wouldCertify (ws_ yX1_wouldCertify cX1_wouldCertify 2 (some .int)) ({ frames := 1, cells := 0, slots := 0, locals := 22 } : Room) (va_Pc [.ref (a 0), .int x] (fun U => U.heap.size = sz ∧ mI D z a th n w gn lk pu fa he nv of mp mi k nt fu re U ∧ va_D (fun _ => True) (mW z a th n w gn lk pu fa he nv of mp mi k nt fu re))) (va_Qi (fun (r : Int32) (_ : Unit) => r = 0) (fun _ t9 => va_P D vwCl (mW z a 1 n w gn lk pu fa he nv of mp mi k nt fu re) t9.heap ∧ kK D z t9 ∧ va_D (va_A (mW z a th n w gn lk pu fa he nv of mp mi k nt fu re) sz) (mW z a 1 n w gn lk pu fa he nv of mp mi k nt fu re)) (va_A (mW z a th n w gn lk pu fa he nv of mp mi k nt fu re) sz)) 0 0 (va_A (mW z a th n w gn lk pu fa he nv of mp mi k nt fu re) sz) := by
  refine Met.ofW (cc := cX1_wouldCertify) (maxL := 2) (ret := (some .int)) (by decide) rfl ?_
  intro p e s m args below meth c s₁ B hml hv
  obtain ⟨rfl, hsz, ⟨hP, hK⟩, hD0⟩ := hv
  have hx := B.exec
  have hb := B.bytes
  have hr := B.returns
  have hts := atoms_spec (ws := ws_ yX1_wouldCertify cX1_wouldCertify 2 (some .int)) B.pre
  have hts : ∀ w ∈ lw_all, w.before _ s = true := fun w h => hts w (List.mem_cons_of_mem _ h)
  have hown : s.vm.findClass RX1 = some m.cls := findClass_of_methodNamed B.named
  have hlocks := B.notSynchronized
  have hC : CallFix p m c cX1_wouldCertify 2 s _ lw_all RX1 := ⟨hx, hb, hml, hown, hts⟩
  subst hsz
  have hD := hD0.self (sz := s.heap.size)
  generalize hAe : va_A (mW z a th n w gn lk pu fa he nv of mp mi k nt fu re) s.heap.size = A at hD ⊢
  have hA : ∀ q : Nat, s.heap.size ≤ q → A q := fun q h => by rw [← hAe]; exact Or.inr h
  have hS : va_S A s.heap s.heap [] := va_S.rf
  have hl := lv_entry ([.ref (a 0), .int x]) (n := 2) (Nat.le_of_ble_eq_true rfl)
  rw [lg_entry_eq]
  generalize (lg_sl ([.ref (a 0), .int x]) ++ List.replicate (2 - (lg_sl ([.ref (a 0), .int x])).length) Slot.unset).toArray = ls at hl ⊢
  have hl : lv_has ls 2 [(0, .ref (a 0)), (1, .int x)] := hl
  refine lv_aload_n hx hb dX1_wouldCertify_0 rfl (lv_at hl 0 rfl) ?_
  refine lv_iconst (v := 0) hx hb dX1_wouldCertify_1 (by decide) ?_
  refine mp_th hC hK hP hD hS dX1_wouldCertify_2 (fun H locs hP hD hS => ?_)
  refine lv_iload_n hx hb dX1_wouldCertify_5 rfl (lv_at hl 1 rfl) ?_
  refine lv_iconst (v := 1) hx hb dX1_wouldCertify_6 (by decide) ?_
  refine lv_bipush (v := 60) hx hb dX1_wouldCertify_7 (by decide) ?_
  refine k_X1_isIn hC hl.1 ⟨Nat.le_of_ble_eq_true rfl, Nat.le_of_ble_eq_true rfl⟩ ⟨Nat.zero_le _, Nat.zero_le _⟩ (Nat.le_of_ble_eq_true rfl)   dX1_wouldCertify_9 ?_
  refine lv_if_eq (tgt := 23) hx hb dX1_wouldCertify_12 (by decide) (fun c_12 => ?_) (fun c_12 => ?_)
  · refine lv_aload_n hx hb dX1_wouldCertify_23 rfl (lv_at hl 0 rfl) ?_
    refine lv_iconst (v := 1) hx hb dX1_wouldCertify_24 (by decide) ?_
    refine k_X1_fail hC hK hP hD hS hA hl.1 ⟨Nat.le_of_ble_eq_true rfl, Nat.le_of_ble_eq_true rfl⟩ ⟨Nat.zero_le _, Nat.zero_le _⟩ (Nat.le_of_ble_eq_true rfl)   dX1_wouldCertify_25 (fun H locs hP hD hS => ?_)
    exact W.iret (v := 0) hx hb hr (fun t ht hW => ⟨⟨0, (), rfl, rfl, by rw [ht]; exact hP, va_K.moved hW.alike hK, hD⟩, hS.F ht⟩) hS.2.2 dX1_wouldCertify_28
  · exact absurd (in_0 hbad) c_12
set_option maxHeartbeats 4000000 in
set_option maxRecDepth 100000 in
theorem c_X1_wouldRefund (l : Launch) (sz : Nat) {D : va_G} {z : ClassId × ClassId} {a : Nat → Nat} {th : Int32} {n w : Nat} {gn lk pu fa he nv of mp mi : Nat → Int32} {k : Nat} {nt fu re : Int32} (i : Nat) (hi : i < n) (hn : n ≤ 10) (y : Int32) (h1 : ¬ y < 1) (h2 : y ≤ 60) (hw : w ≤ 6) (ha : gn i = 0) : Met l yX1_wouldRefund (ws_ yX1_wouldRefund cX1_wouldRefund 3 (some .int)) ({ frames := 3, cells := 0, slots := 0, locals := 68 } : Room) (va_Pc [.ref (a 0), .int (nI i), .int y] (fun U => U.heap.size = sz ∧ mI D z a th n w gn lk pu fa he nv of mp mi k nt fu re U ∧ va_D (fun _ => True) (mW z a th n w gn lk pu fa he nv of mp mi k nt fu re))) (va_Qi (fun (r : Int32) (_ : Unit) => r = mq_rfd (fa i) (lk i) fu (mq_mid of nv y w)) (fun _ t9 => va_P D vwCl (mW z a 0 n w gn lk pu fa he nv of mp mi k nt fu re) t9.heap ∧ kK D z t9 ∧ va_D (va_A (mW z a th n w gn lk pu fa he nv of mp mi k nt fu re) sz) (mW z a 0 n w gn lk pu fa he nv of mp mi k nt fu re)) (va_A (mW z a th n w gn lk pu fa he nv of mp mi k nt fu re) sz)) 0 0 (va_A (mW z a th n w gn lk pu fa he nv of mp mi k nt fu re) sz) := by
  refine Met.ofW (cc := cX1_wouldRefund) (maxL := 3) (ret := (some .int)) (by decide) rfl ?_
  intro p e s m args below meth c s₁ B hml hv
  obtain ⟨rfl, hsz, ⟨hP, hK⟩, hD0⟩ := hv
  have hx := B.exec
  have hb := B.bytes
  have hr := B.returns
  have hts := atoms_spec (ws := ws_ yX1_wouldRefund cX1_wouldRefund 3 (some .int)) B.pre
  have hts : ∀ w ∈ lw_all, w.before _ s = true := fun w h => hts w (List.mem_cons_of_mem _ h)
  have hown : s.vm.findClass RX1 = some m.cls := findClass_of_methodNamed B.named
  have hlocks := B.notSynchronized
  have hC : CallFix p m c cX1_wouldRefund 3 s _ lw_all RX1 := ⟨hx, hb, hml, hown, hts⟩
  subst hsz
  have hD := hD0.self (sz := s.heap.size)
  generalize hAe : va_A (mW z a th n w gn lk pu fa he nv of mp mi k nt fu re) s.heap.size = A at hD ⊢
  have hA : ∀ q : Nat, s.heap.size ≤ q → A q := fun q h => by rw [← hAe]; exact Or.inr h
  have hS : va_S A s.heap s.heap [] := va_S.rf
  have hl := lv_entry ([.ref (a 0), .int (nI i), .int y]) (n := 3) (Nat.le_of_ble_eq_true rfl)
  rw [lg_entry_eq]
  generalize (lg_sl ([.ref (a 0), .int (nI i), .int y]) ++ List.replicate (3 - (lg_sl ([.ref (a 0), .int (nI i), .int y])).length) Slot.unset).toArray = ls at hl ⊢
  have hl : lv_has ls 3 [(0, .ref (a 0)), (1, .int (nI i)), (2, .int y)] := hl
  refine lv_aload_n hx hb dX1_wouldRefund_0 rfl (lv_at hl 0 rfl) ?_
  refine lv_iconst (v := 0) hx hb dX1_wouldRefund_1 (by decide) ?_
  refine mp_th hC hK hP hD hS dX1_wouldRefund_2 (fun H locs hP hD hS => ?_)
  refine lv_aload_n hx hb dX1_wouldRefund_5 rfl (lv_at hl 0 rfl) ?_
  refine lv_iload_n hx hb dX1_wouldRefund_6 rfl (lv_at hl 1 rfl) ?_
  refine k_X1_isPerson hC hK hP hl.1 ⟨Nat.le_of_ble_eq_true rfl, Nat.le_of_ble_eq_true rfl⟩ ⟨Nat.zero_le _, Nat.zero_le _⟩ (Nat.le_of_ble_eq_true rfl)  (by first | assumption | omega) dX1_wouldRefund_7 ?_
  refine lv_if_ne (tgt := 19) hx hb dX1_wouldRefund_10 (by decide) (fun c_10 => ?_) (fun c_10 => ?_)
  · refine lv_iload_n hx hb dX1_wouldRefund_19 rfl (lv_at hl 2 rfl) ?_
    refine lv_iconst (v := 1) hx hb dX1_wouldRefund_20 (by decide) ?_
    refine lv_bipush (v := 60) hx hb dX1_wouldRefund_21 (by decide) ?_
    refine k_X1_isIn hC hl.1 ⟨Nat.le_of_ble_eq_true rfl, Nat.le_of_ble_eq_true rfl⟩ ⟨Nat.zero_le _, Nat.zero_le _⟩ (Nat.le_of_ble_eq_true rfl)   dX1_wouldRefund_23 ?_
    refine lv_if_ne (tgt := 35) hx hb dX1_wouldRefund_26 (by decide) (fun c_26 => ?_) (fun c_26 => ?_)
    · refine lv_aload_n hx hb dX1_wouldRefund_35 rfl (lv_at hl 0 rfl) ?_
      refine mg_gn hC hK hP dX1_wouldRefund_36 ?_
      refine lv_iload_n hx hb dX1_wouldRefund_39 rfl (lv_at hl 1 rfl) ?_
      refine ml_gn hC hK hP i rfl (by omega) dX1_wouldRefund_40 ?_
      refine lv_if_eq (tgt := 48) hx hb dX1_wouldRefund_41 (by decide) (fun c_41 => ?_) (fun c_41 => ?_)
      · refine lv_aload_n hx hb dX1_wouldRefund_48 rfl (lv_at hl 0 rfl) ?_
        refine lv_iload_n hx hb dX1_wouldRefund_49 rfl (lv_at hl 1 rfl) ?_
        refine lv_aload_n hx hb dX1_wouldRefund_50 rfl (lv_at hl 0 rfl) ?_
        refine lv_iload_n hx hb dX1_wouldRefund_51 rfl (lv_at hl 2 rfl) ?_
        refine k_X1_middle hC hK hP hl.1 ⟨Nat.le_of_ble_eq_true rfl, Nat.le_of_ble_eq_true rfl⟩ ⟨Nat.zero_le _, Nat.zero_le _⟩ (Nat.le_of_ble_eq_true rfl)  (by first | assumption | omega) dX1_wouldRefund_52 ?_
        refine k_X1_refund hC hK hP hl.1 ⟨Nat.le_of_ble_eq_true rfl, Nat.le_of_ble_eq_true rfl⟩ ⟨Nat.zero_le _, Nat.zero_le _⟩ (Nat.le_of_ble_eq_true rfl) rfl (by first | assumption | omega) dX1_wouldRefund_55 ?_
        exact W.iret (v := mq_rfd (fa i) (lk i) fu (mq_mid of nv y w)) hx hb hr (fun t ht hW => ⟨⟨mq_rfd (fa i) (lk i) fu (mq_mid of nv y w), (), rfl, rfl, by rw [ht]; exact hP, va_K.moved hW.alike hK, hD⟩, hS.F ht⟩) hS.2.2 dX1_wouldRefund_58
      · exact absurd ha c_41
    · exact absurd c_26 (in_1 h1 h2)
  · exact absurd c_10 (by rw [isP_in (by omega) hi]; decide)
set_option maxHeartbeats 4000000 in
set_option maxRecDepth 100000 in
theorem c_X1_wouldRefund_g (l : Launch) (sz : Nat) {D : va_G} {z : ClassId × ClassId} {a : Nat → Nat} {th : Int32} {n w : Nat} {gn lk pu fa he nv of mp mi : Nat → Int32} {k : Nat} {nt fu re : Int32} (i : Nat) (hi : i < n) (hn : n ≤ 10) (y : Int32) (h1 : ¬ y < 1) (h2 : y ≤ 60) (ha : ¬ gn i = 0) : Met l yX1_wouldRefund (ws_ yX1_wouldRefund cX1_wouldRefund 3 (some .int)) ({ frames := 2, cells := 0, slots := 0, locals := 43 } : Room) (va_Pc [.ref (a 0), .int (nI i), .int y] (fun U => U.heap.size = sz ∧ mI D z a th n w gn lk pu fa he nv of mp mi k nt fu re U ∧ va_D (fun _ => True) (mW z a th n w gn lk pu fa he nv of mp mi k nt fu re))) (va_Qi (fun (r : Int32) (_ : Unit) => r = 0) (fun _ t9 => va_P D vwCl (mW z a 0 n w gn lk pu fa he nv of mp mi k nt fu re) t9.heap ∧ kK D z t9 ∧ va_D (va_A (mW z a th n w gn lk pu fa he nv of mp mi k nt fu re) sz) (mW z a 0 n w gn lk pu fa he nv of mp mi k nt fu re)) (va_A (mW z a th n w gn lk pu fa he nv of mp mi k nt fu re) sz)) 0 0 (va_A (mW z a th n w gn lk pu fa he nv of mp mi k nt fu re) sz) := by
  refine Met.ofW (cc := cX1_wouldRefund) (maxL := 3) (ret := (some .int)) (by decide) rfl ?_
  intro p e s m args below meth c s₁ B hml hv
  obtain ⟨rfl, hsz, ⟨hP, hK⟩, hD0⟩ := hv
  have hx := B.exec
  have hb := B.bytes
  have hr := B.returns
  have hts := atoms_spec (ws := ws_ yX1_wouldRefund cX1_wouldRefund 3 (some .int)) B.pre
  have hts : ∀ w ∈ lw_all, w.before _ s = true := fun w h => hts w (List.mem_cons_of_mem _ h)
  have hown : s.vm.findClass RX1 = some m.cls := findClass_of_methodNamed B.named
  have hlocks := B.notSynchronized
  have hC : CallFix p m c cX1_wouldRefund 3 s _ lw_all RX1 := ⟨hx, hb, hml, hown, hts⟩
  subst hsz
  have hD := hD0.self (sz := s.heap.size)
  generalize hAe : va_A (mW z a th n w gn lk pu fa he nv of mp mi k nt fu re) s.heap.size = A at hD ⊢
  have hA : ∀ q : Nat, s.heap.size ≤ q → A q := fun q h => by rw [← hAe]; exact Or.inr h
  have hS : va_S A s.heap s.heap [] := va_S.rf
  have hl := lv_entry ([.ref (a 0), .int (nI i), .int y]) (n := 3) (Nat.le_of_ble_eq_true rfl)
  rw [lg_entry_eq]
  generalize (lg_sl ([.ref (a 0), .int (nI i), .int y]) ++ List.replicate (3 - (lg_sl ([.ref (a 0), .int (nI i), .int y])).length) Slot.unset).toArray = ls at hl ⊢
  have hl : lv_has ls 3 [(0, .ref (a 0)), (1, .int (nI i)), (2, .int y)] := hl
  refine lv_aload_n hx hb dX1_wouldRefund_0 rfl (lv_at hl 0 rfl) ?_
  refine lv_iconst (v := 0) hx hb dX1_wouldRefund_1 (by decide) ?_
  refine mp_th hC hK hP hD hS dX1_wouldRefund_2 (fun H locs hP hD hS => ?_)
  refine lv_aload_n hx hb dX1_wouldRefund_5 rfl (lv_at hl 0 rfl) ?_
  refine lv_iload_n hx hb dX1_wouldRefund_6 rfl (lv_at hl 1 rfl) ?_
  refine k_X1_isPerson hC hK hP hl.1 ⟨Nat.le_of_ble_eq_true rfl, Nat.le_of_ble_eq_true rfl⟩ ⟨Nat.zero_le _, Nat.zero_le _⟩ (Nat.le_of_ble_eq_true rfl)  (by first | assumption | omega) dX1_wouldRefund_7 ?_
  refine lv_if_ne (tgt := 19) hx hb dX1_wouldRefund_10 (by decide) (fun c_10 => ?_) (fun c_10 => ?_)
  · refine lv_iload_n hx hb dX1_wouldRefund_19 rfl (lv_at hl 2 rfl) ?_
    refine lv_iconst (v := 1) hx hb dX1_wouldRefund_20 (by decide) ?_
    refine lv_bipush (v := 60) hx hb dX1_wouldRefund_21 (by decide) ?_
    refine k_X1_isIn hC hl.1 ⟨Nat.le_of_ble_eq_true rfl, Nat.le_of_ble_eq_true rfl⟩ ⟨Nat.zero_le _, Nat.zero_le _⟩ (Nat.le_of_ble_eq_true rfl)   dX1_wouldRefund_23 ?_
    refine lv_if_ne (tgt := 35) hx hb dX1_wouldRefund_26 (by decide) (fun c_26 => ?_) (fun c_26 => ?_)
    · refine lv_aload_n hx hb dX1_wouldRefund_35 rfl (lv_at hl 0 rfl) ?_
      refine mg_gn hC hK hP dX1_wouldRefund_36 ?_
      refine lv_iload_n hx hb dX1_wouldRefund_39 rfl (lv_at hl 1 rfl) ?_
      refine ml_gn hC hK hP i rfl (by omega) dX1_wouldRefund_40 ?_
      refine lv_if_eq (tgt := 48) hx hb dX1_wouldRefund_41 (by decide) (fun c_41 => ?_) (fun c_41 => ?_)
      · exact absurd c_41 ha
      · refine lv_iconst (v := 0) hx hb dX1_wouldRefund_44 (by decide) ?_
        refine lv_goto (tgt := 58) hx hb dX1_wouldRefund_45 (by decide) ?_
        exact W.iret (v := 0) hx hb hr (fun t ht hW => ⟨⟨0, (), rfl, rfl, by rw [ht]; exact hP, va_K.moved hW.alike hK, hD⟩, hS.F ht⟩) hS.2.2 dX1_wouldRefund_58
    · exact absurd c_26 (in_1 h1 h2)
  · exact absurd c_10 (by rw [isP_in (by omega) hi]; decide)
set_option maxHeartbeats 4000000 in
set_option maxRecDepth 100000 in
theorem c_X1_wouldRefund_a (l : Launch) (sz : Nat) {D : va_G} {z : ClassId × ClassId} {a : Nat → Nat} {th : Int32} {n w : Nat} {gn lk pu fa he nv of mp mi : Nat → Int32} {k : Nat} {nt fu re : Int32} (x y : Int32) (hn : n ≤ 10) (hbad : sp_isP n x = 0) : Met l yX1_wouldRefund (ws_ yX1_wouldRefund cX1_wouldRefund 3 (some .int)) ({ frames := 2, cells := 0, slots := 0, locals := 43 } : Room) (va_Pc [.ref (a 0), .int x, .int y] (fun U => U.heap.size = sz ∧ mI D z a th n w gn lk pu fa he nv of mp mi k nt fu re U ∧ va_D (fun _ => True) (mW z a th n w gn lk pu fa he nv of mp mi k nt fu re))) (va_Qi (fun (r : Int32) (_ : Unit) => r = 0) (fun _ t9 => va_P D vwCl (mW z a 1 n w gn lk pu fa he nv of mp mi k nt fu re) t9.heap ∧ kK D z t9 ∧ va_D (va_A (mW z a th n w gn lk pu fa he nv of mp mi k nt fu re) sz) (mW z a 1 n w gn lk pu fa he nv of mp mi k nt fu re)) (va_A (mW z a th n w gn lk pu fa he nv of mp mi k nt fu re) sz)) 0 0 (va_A (mW z a th n w gn lk pu fa he nv of mp mi k nt fu re) sz) := by
  refine Met.ofW (cc := cX1_wouldRefund) (maxL := 3) (ret := (some .int)) (by decide) rfl ?_
  intro p e s m args below meth c s₁ B hml hv
  obtain ⟨rfl, hsz, ⟨hP, hK⟩, hD0⟩ := hv
  have hx := B.exec
  have hb := B.bytes
  have hr := B.returns
  have hts := atoms_spec (ws := ws_ yX1_wouldRefund cX1_wouldRefund 3 (some .int)) B.pre
  have hts : ∀ w ∈ lw_all, w.before _ s = true := fun w h => hts w (List.mem_cons_of_mem _ h)
  have hown : s.vm.findClass RX1 = some m.cls := findClass_of_methodNamed B.named
  have hlocks := B.notSynchronized
  have hC : CallFix p m c cX1_wouldRefund 3 s _ lw_all RX1 := ⟨hx, hb, hml, hown, hts⟩
  subst hsz
  have hD := hD0.self (sz := s.heap.size)
  generalize hAe : va_A (mW z a th n w gn lk pu fa he nv of mp mi k nt fu re) s.heap.size = A at hD ⊢
  have hA : ∀ q : Nat, s.heap.size ≤ q → A q := fun q h => by rw [← hAe]; exact Or.inr h
  have hS : va_S A s.heap s.heap [] := va_S.rf
  have hl := lv_entry ([.ref (a 0), .int x, .int y]) (n := 3) (Nat.le_of_ble_eq_true rfl)
  rw [lg_entry_eq]
  generalize (lg_sl ([.ref (a 0), .int x, .int y]) ++ List.replicate (3 - (lg_sl ([.ref (a 0), .int x, .int y])).length) Slot.unset).toArray = ls at hl ⊢
  have hl : lv_has ls 3 [(0, .ref (a 0)), (1, .int x), (2, .int y)] := hl
  refine lv_aload_n hx hb dX1_wouldRefund_0 rfl (lv_at hl 0 rfl) ?_
  refine lv_iconst (v := 0) hx hb dX1_wouldRefund_1 (by decide) ?_
  refine mp_th hC hK hP hD hS dX1_wouldRefund_2 (fun H locs hP hD hS => ?_)
  refine lv_aload_n hx hb dX1_wouldRefund_5 rfl (lv_at hl 0 rfl) ?_
  refine lv_iload_n hx hb dX1_wouldRefund_6 rfl (lv_at hl 1 rfl) ?_
  refine k_X1_isPerson hC hK hP hl.1 ⟨Nat.le_of_ble_eq_true rfl, Nat.le_of_ble_eq_true rfl⟩ ⟨Nat.zero_le _, Nat.zero_le _⟩ (Nat.le_of_ble_eq_true rfl)  (by first | assumption | omega) dX1_wouldRefund_7 ?_
  refine lv_if_ne (tgt := 19) hx hb dX1_wouldRefund_10 (by decide) (fun c_10 => ?_) (fun c_10 => ?_)
  · exact absurd hbad c_10
  · refine lv_aload_n hx hb dX1_wouldRefund_13 rfl (lv_at hl 0 rfl) ?_
    refine lv_iconst (v := 1) hx hb dX1_wouldRefund_14 (by decide) ?_
    refine k_X1_fail hC hK hP hD hS hA hl.1 ⟨Nat.le_of_ble_eq_true rfl, Nat.le_of_ble_eq_true rfl⟩ ⟨Nat.zero_le _, Nat.zero_le _⟩ (Nat.le_of_ble_eq_true rfl)   dX1_wouldRefund_15 (fun H locs hP hD hS => ?_)
    exact W.iret (v := 0) hx hb hr (fun t ht hW => ⟨⟨0, (), rfl, rfl, by rw [ht]; exact hP, va_K.moved hW.alike hK, hD⟩, hS.F ht⟩) hS.2.2 dX1_wouldRefund_18
set_option maxHeartbeats 4000000 in
set_option maxRecDepth 100000 in
theorem c_X1_wouldRefund_b (l : Launch) (sz : Nat) {D : va_G} {z : ClassId × ClassId} {a : Nat → Nat} {th : Int32} {n w : Nat} {gn lk pu fa he nv of mp mi : Nat → Int32} {k : Nat} {nt fu re : Int32} (i : Nat) (hi : i < n) (hn : n ≤ 10) (y : Int32) (hbad : y < 1 ∨ ¬ y ≤ 60) : Met l yX1_wouldRefund (ws_ yX1_wouldRefund cX1_wouldRefund 3 (some .int)) ({ frames := 2, cells := 0, slots := 0, locals := 43 } : Room) (va_Pc [.ref (a 0), .int (nI i), .int y] (fun U => U.heap.size = sz ∧ mI D z a th n w gn lk pu fa he nv of mp mi k nt fu re U ∧ va_D (fun _ => True) (mW z a th n w gn lk pu fa he nv of mp mi k nt fu re))) (va_Qi (fun (r : Int32) (_ : Unit) => r = 0) (fun _ t9 => va_P D vwCl (mW z a 2 n w gn lk pu fa he nv of mp mi k nt fu re) t9.heap ∧ kK D z t9 ∧ va_D (va_A (mW z a th n w gn lk pu fa he nv of mp mi k nt fu re) sz) (mW z a 2 n w gn lk pu fa he nv of mp mi k nt fu re)) (va_A (mW z a th n w gn lk pu fa he nv of mp mi k nt fu re) sz)) 0 0 (va_A (mW z a th n w gn lk pu fa he nv of mp mi k nt fu re) sz) := by
  refine Met.ofW (cc := cX1_wouldRefund) (maxL := 3) (ret := (some .int)) (by decide) rfl ?_
  intro p e s m args below meth c s₁ B hml hv
  obtain ⟨rfl, hsz, ⟨hP, hK⟩, hD0⟩ := hv
  have hx := B.exec
  have hb := B.bytes
  have hr := B.returns
  have hts := atoms_spec (ws := ws_ yX1_wouldRefund cX1_wouldRefund 3 (some .int)) B.pre
  have hts : ∀ w ∈ lw_all, w.before _ s = true := fun w h => hts w (List.mem_cons_of_mem _ h)
  have hown : s.vm.findClass RX1 = some m.cls := findClass_of_methodNamed B.named
  have hlocks := B.notSynchronized
  have hC : CallFix p m c cX1_wouldRefund 3 s _ lw_all RX1 := ⟨hx, hb, hml, hown, hts⟩
  subst hsz
  have hD := hD0.self (sz := s.heap.size)
  generalize hAe : va_A (mW z a th n w gn lk pu fa he nv of mp mi k nt fu re) s.heap.size = A at hD ⊢
  have hA : ∀ q : Nat, s.heap.size ≤ q → A q := fun q h => by rw [← hAe]; exact Or.inr h
  have hS : va_S A s.heap s.heap [] := va_S.rf
  have hl := lv_entry ([.ref (a 0), .int (nI i), .int y]) (n := 3) (Nat.le_of_ble_eq_true rfl)
  rw [lg_entry_eq]
  generalize (lg_sl ([.ref (a 0), .int (nI i), .int y]) ++ List.replicate (3 - (lg_sl ([.ref (a 0), .int (nI i), .int y])).length) Slot.unset).toArray = ls at hl ⊢
  have hl : lv_has ls 3 [(0, .ref (a 0)), (1, .int (nI i)), (2, .int y)] := hl
  refine lv_aload_n hx hb dX1_wouldRefund_0 rfl (lv_at hl 0 rfl) ?_
  refine lv_iconst (v := 0) hx hb dX1_wouldRefund_1 (by decide) ?_
  refine mp_th hC hK hP hD hS dX1_wouldRefund_2 (fun H locs hP hD hS => ?_)
  refine lv_aload_n hx hb dX1_wouldRefund_5 rfl (lv_at hl 0 rfl) ?_
  refine lv_iload_n hx hb dX1_wouldRefund_6 rfl (lv_at hl 1 rfl) ?_
  refine k_X1_isPerson hC hK hP hl.1 ⟨Nat.le_of_ble_eq_true rfl, Nat.le_of_ble_eq_true rfl⟩ ⟨Nat.zero_le _, Nat.zero_le _⟩ (Nat.le_of_ble_eq_true rfl)  (by first | assumption | omega) dX1_wouldRefund_7 ?_
  refine lv_if_ne (tgt := 19) hx hb dX1_wouldRefund_10 (by decide) (fun c_10 => ?_) (fun c_10 => ?_)
  · refine lv_iload_n hx hb dX1_wouldRefund_19 rfl (lv_at hl 2 rfl) ?_
    refine lv_iconst (v := 1) hx hb dX1_wouldRefund_20 (by decide) ?_
    refine lv_bipush (v := 60) hx hb dX1_wouldRefund_21 (by decide) ?_
    refine k_X1_isIn hC hl.1 ⟨Nat.le_of_ble_eq_true rfl, Nat.le_of_ble_eq_true rfl⟩ ⟨Nat.zero_le _, Nat.zero_le _⟩ (Nat.le_of_ble_eq_true rfl)   dX1_wouldRefund_23 ?_
    refine lv_if_ne (tgt := 35) hx hb dX1_wouldRefund_26 (by decide) (fun c_26 => ?_) (fun c_26 => ?_)
    · exact absurd (in_0 hbad) c_26
    · refine lv_aload_n hx hb dX1_wouldRefund_29 rfl (lv_at hl 0 rfl) ?_
      refine lv_iconst (v := 2) hx hb dX1_wouldRefund_30 (by decide) ?_
      refine k_X1_fail hC hK hP hD hS hA hl.1 ⟨Nat.le_of_ble_eq_true rfl, Nat.le_of_ble_eq_true rfl⟩ ⟨Nat.zero_le _, Nat.zero_le _⟩ (Nat.le_of_ble_eq_true rfl)   dX1_wouldRefund_31 (fun H locs hP hD hS => ?_)
      exact W.iret (v := 0) hx hb hr (fun t ht hW => ⟨⟨0, (), rfl, rfl, by rw [ht]; exact hP, va_K.moved hW.alike hK, hD⟩, hS.F ht⟩) hS.2.2 dX1_wouldRefund_34
  · exact absurd c_10 (by rw [isP_in (by omega) hi]; decide)
set_option maxHeartbeats 4000000 in
set_option maxRecDepth 100000 in
theorem c_X1_missesUntilShaken (l : Launch) (sz : Nat) {D : va_G} {z : ClassId × ClassId} {a : Nat → Nat} {th : Int32} {n w : Nat} {gn lk pu fa he nv of mp mi : Nat → Int32} {k : Nat} {nt fu re : Int32} (x : Int32) (h1 : ¬ x < 1) (h2 : x ≤ 60) (hw : w ≤ 6) : Met l yX1_missesUntilShaken (ws_ yX1_missesUntilShaken cX1_missesUntilShaken 2 (some .int)) ({ frames := 2, cells := 0, slots := 0, locals := 44 } : Room) (va_Pc [.ref (a 0), .int x] (fun U => U.heap.size = sz ∧ mI D z a th n w gn lk pu fa he nv of mp mi k nt fu re U ∧ va_D (fun _ => True) (mW z a th n w gn lk pu fa he nv of mp mi k nt fu re))) (va_Qi (fun (r : Int32) (_ : Unit) => r = mq_usk of nv w x) (fun _ t9 => va_P D vwCl (mW z a 0 n w gn lk pu fa he nv of mp mi k nt fu re) t9.heap ∧ kK D z t9 ∧ va_D (va_A (mW z a th n w gn lk pu fa he nv of mp mi k nt fu re) sz) (mW z a 0 n w gn lk pu fa he nv of mp mi k nt fu re)) (va_A (mW z a th n w gn lk pu fa he nv of mp mi k nt fu re) sz)) 0 0 (va_A (mW z a th n w gn lk pu fa he nv of mp mi k nt fu re) sz) := by
  refine Met.ofW (cc := cX1_missesUntilShaken) (maxL := 2) (ret := (some .int)) (by decide) rfl ?_
  intro p e s m args below meth c s₁ B hml hv
  obtain ⟨rfl, hsz, ⟨hP, hK⟩, hD0⟩ := hv
  have hx := B.exec
  have hb := B.bytes
  have hr := B.returns
  have hts := atoms_spec (ws := ws_ yX1_missesUntilShaken cX1_missesUntilShaken 2 (some .int)) B.pre
  have hts : ∀ w ∈ lw_all, w.before _ s = true := fun w h => hts w (List.mem_cons_of_mem _ h)
  have hown : s.vm.findClass RX1 = some m.cls := findClass_of_methodNamed B.named
  have hlocks := B.notSynchronized
  have hC : CallFix p m c cX1_missesUntilShaken 2 s _ lw_all RX1 := ⟨hx, hb, hml, hown, hts⟩
  subst hsz
  have hD := hD0.self (sz := s.heap.size)
  generalize hAe : va_A (mW z a th n w gn lk pu fa he nv of mp mi k nt fu re) s.heap.size = A at hD ⊢
  have hA : ∀ q : Nat, s.heap.size ≤ q → A q := fun q h => by rw [← hAe]; exact Or.inr h
  have hS : va_S A s.heap s.heap [] := va_S.rf
  have hl := lv_entry ([.ref (a 0), .int x]) (n := 2) (Nat.le_of_ble_eq_true rfl)
  rw [lg_entry_eq]
  generalize (lg_sl ([.ref (a 0), .int x]) ++ List.replicate (2 - (lg_sl ([.ref (a 0), .int x])).length) Slot.unset).toArray = ls at hl ⊢
  have hl : lv_has ls 2 [(0, .ref (a 0)), (1, .int x)] := hl
  refine lv_aload_n hx hb dX1_missesUntilShaken_0 rfl (lv_at hl 0 rfl) ?_
  refine lv_iconst (v := 0) hx hb dX1_missesUntilShaken_1 (by decide) ?_
  refine mp_th hC hK hP hD hS dX1_missesUntilShaken_2 (fun H locs hP hD hS => ?_)
  refine lv_iload_n hx hb dX1_missesUntilShaken_5 rfl (lv_at hl 1 rfl) ?_
  refine lv_iconst (v := 1) hx hb dX1_missesUntilShaken_6 (by decide) ?_
  refine lv_bipush (v := 60) hx hb dX1_missesUntilShaken_7 (by decide) ?_
  refine k_X1_isIn hC hl.1 ⟨Nat.le_of_ble_eq_true rfl, Nat.le_of_ble_eq_true rfl⟩ ⟨Nat.zero_le _, Nat.zero_le _⟩ (Nat.le_of_ble_eq_true rfl)   dX1_missesUntilShaken_9 ?_
  refine lv_if_eq (tgt := 23) hx hb dX1_missesUntilShaken_12 (by decide) (fun c_12 => ?_) (fun c_12 => ?_)
  · exact absurd c_12 (in_1 h1 h2)
  · refine lv_aload_n hx hb dX1_missesUntilShaken_15 rfl (lv_at hl 0 rfl) ?_
    refine lv_iload_n hx hb dX1_missesUntilShaken_16 rfl (lv_at hl 1 rfl) ?_
    refine k_X1_untilShaken hC hK hP hl.1 ⟨Nat.le_of_ble_eq_true rfl, Nat.le_of_ble_eq_true rfl⟩ ⟨Nat.zero_le _, Nat.zero_le _⟩ (Nat.le_of_ble_eq_true rfl)  (by first | assumption | omega) dX1_missesUntilShaken_17 ?_
    refine lv_goto (tgt := 28) hx hb dX1_missesUntilShaken_20 (by decide) ?_
    exact W.iret (v := mq_usk of nv w x) hx hb hr (fun t ht hW => ⟨⟨mq_usk of nv w x, (), rfl, rfl, by rw [ht]; exact hP, va_K.moved hW.alike hK, hD⟩, hS.F ht⟩) hS.2.2 dX1_missesUntilShaken_28
set_option maxHeartbeats 4000000 in
set_option maxRecDepth 100000 in
theorem c_X1_missesUntilShaken_a (l : Launch) (sz : Nat) {D : va_G} {z : ClassId × ClassId} {a : Nat → Nat} {th : Int32} {n w : Nat} {gn lk pu fa he nv of mp mi : Nat → Int32} {k : Nat} {nt fu re : Int32} (x : Int32) (hbad : x < 1 ∨ ¬ x ≤ 60) : Met l yX1_missesUntilShaken (ws_ yX1_missesUntilShaken cX1_missesUntilShaken 2 (some .int)) ({ frames := 1, cells := 0, slots := 0, locals := 22 } : Room) (va_Pc [.ref (a 0), .int x] (fun U => U.heap.size = sz ∧ mI D z a th n w gn lk pu fa he nv of mp mi k nt fu re U ∧ va_D (fun _ => True) (mW z a th n w gn lk pu fa he nv of mp mi k nt fu re))) (va_Qi (fun (r : Int32) (_ : Unit) => r = 0) (fun _ t9 => va_P D vwCl (mW z a 1 n w gn lk pu fa he nv of mp mi k nt fu re) t9.heap ∧ kK D z t9 ∧ va_D (va_A (mW z a th n w gn lk pu fa he nv of mp mi k nt fu re) sz) (mW z a 1 n w gn lk pu fa he nv of mp mi k nt fu re)) (va_A (mW z a th n w gn lk pu fa he nv of mp mi k nt fu re) sz)) 0 0 (va_A (mW z a th n w gn lk pu fa he nv of mp mi k nt fu re) sz) := by
  refine Met.ofW (cc := cX1_missesUntilShaken) (maxL := 2) (ret := (some .int)) (by decide) rfl ?_
  intro p e s m args below meth c s₁ B hml hv
  obtain ⟨rfl, hsz, ⟨hP, hK⟩, hD0⟩ := hv
  have hx := B.exec
  have hb := B.bytes
  have hr := B.returns
  have hts := atoms_spec (ws := ws_ yX1_missesUntilShaken cX1_missesUntilShaken 2 (some .int)) B.pre
  have hts : ∀ w ∈ lw_all, w.before _ s = true := fun w h => hts w (List.mem_cons_of_mem _ h)
  have hown : s.vm.findClass RX1 = some m.cls := findClass_of_methodNamed B.named
  have hlocks := B.notSynchronized
  have hC : CallFix p m c cX1_missesUntilShaken 2 s _ lw_all RX1 := ⟨hx, hb, hml, hown, hts⟩
  subst hsz
  have hD := hD0.self (sz := s.heap.size)
  generalize hAe : va_A (mW z a th n w gn lk pu fa he nv of mp mi k nt fu re) s.heap.size = A at hD ⊢
  have hA : ∀ q : Nat, s.heap.size ≤ q → A q := fun q h => by rw [← hAe]; exact Or.inr h
  have hS : va_S A s.heap s.heap [] := va_S.rf
  have hl := lv_entry ([.ref (a 0), .int x]) (n := 2) (Nat.le_of_ble_eq_true rfl)
  rw [lg_entry_eq]
  generalize (lg_sl ([.ref (a 0), .int x]) ++ List.replicate (2 - (lg_sl ([.ref (a 0), .int x])).length) Slot.unset).toArray = ls at hl ⊢
  have hl : lv_has ls 2 [(0, .ref (a 0)), (1, .int x)] := hl
  refine lv_aload_n hx hb dX1_missesUntilShaken_0 rfl (lv_at hl 0 rfl) ?_
  refine lv_iconst (v := 0) hx hb dX1_missesUntilShaken_1 (by decide) ?_
  refine mp_th hC hK hP hD hS dX1_missesUntilShaken_2 (fun H locs hP hD hS => ?_)
  refine lv_iload_n hx hb dX1_missesUntilShaken_5 rfl (lv_at hl 1 rfl) ?_
  refine lv_iconst (v := 1) hx hb dX1_missesUntilShaken_6 (by decide) ?_
  refine lv_bipush (v := 60) hx hb dX1_missesUntilShaken_7 (by decide) ?_
  refine k_X1_isIn hC hl.1 ⟨Nat.le_of_ble_eq_true rfl, Nat.le_of_ble_eq_true rfl⟩ ⟨Nat.zero_le _, Nat.zero_le _⟩ (Nat.le_of_ble_eq_true rfl)   dX1_missesUntilShaken_9 ?_
  refine lv_if_eq (tgt := 23) hx hb dX1_missesUntilShaken_12 (by decide) (fun c_12 => ?_) (fun c_12 => ?_)
  · refine lv_aload_n hx hb dX1_missesUntilShaken_23 rfl (lv_at hl 0 rfl) ?_
    refine lv_iconst (v := 1) hx hb dX1_missesUntilShaken_24 (by decide) ?_
    refine k_X1_fail hC hK hP hD hS hA hl.1 ⟨Nat.le_of_ble_eq_true rfl, Nat.le_of_ble_eq_true rfl⟩ ⟨Nat.zero_le _, Nat.zero_le _⟩ (Nat.le_of_ble_eq_true rfl)   dX1_missesUntilShaken_25 (fun H locs hP hD hS => ?_)
    exact W.iret (v := 0) hx hb hr (fun t ht hW => ⟨⟨0, (), rfl, rfl, by rw [ht]; exact hP, va_K.moved hW.alike hK, hD⟩, hS.F ht⟩) hS.2.2 dX1_missesUntilShaken_28
  · exact absurd (in_0 hbad) c_12
set_option maxHeartbeats 4000000 in
set_option maxRecDepth 100000 in
theorem c_X1_meanLuck (l : Launch) (sz : Nat) {D : va_G} {z : ClassId × ClassId} {a : Nat → Nat} {th : Int32} {n w : Nat} {gn lk pu fa he nv of mp mi : Nat → Int32} {k : Nat} {nt fu re : Int32} (hn : n ≤ 10) : Met l yX1_meanLuck (ws_ yX1_meanLuck cX1_meanLuck 3 (some .double)) ({ frames := 1, cells := 0, slots := 0, locals := 22 } : Room) (va_Pc [.ref (a 0)] (fun U => U.heap.size = sz ∧ mI D z a th n w gn lk pu fa he nv of mp mi k nt fu re U ∧ va_D (fun _ => True) (mW z a th n w gn lk pu fa he nv of mp mi k nt fu re))) (va_Qd (fun (r : UInt64) (_ : Unit) => r = mq_mean gn lk n) (fun _ t9 => va_P D vwCl (mW z a 0 n w gn lk pu fa he nv of mp mi k nt fu re) t9.heap ∧ kK D z t9 ∧ va_D (va_A (mW z a th n w gn lk pu fa he nv of mp mi k nt fu re) sz) (mW z a 0 n w gn lk pu fa he nv of mp mi k nt fu re)) (va_A (mW z a th n w gn lk pu fa he nv of mp mi k nt fu re) sz)) 0 0 (va_A (mW z a th n w gn lk pu fa he nv of mp mi k nt fu re) sz) := by
  refine Met.ofW (cc := cX1_meanLuck) (maxL := 3) (ret := (some .double)) (by decide) rfl ?_
  intro p e s m args below meth c s₁ B hml hv
  obtain ⟨rfl, hsz, ⟨hP, hK⟩, hD0⟩ := hv
  have hx := B.exec
  have hb := B.bytes
  have hr := B.returns
  have hts := atoms_spec (ws := ws_ yX1_meanLuck cX1_meanLuck 3 (some .double)) B.pre
  have hts : ∀ w ∈ lw_all, w.before _ s = true := fun w h => hts w (List.mem_cons_of_mem _ h)
  have hown : s.vm.findClass RX1 = some m.cls := findClass_of_methodNamed B.named
  have hlocks := B.notSynchronized
  have hC : CallFix p m c cX1_meanLuck 3 s _ lw_all RX1 := ⟨hx, hb, hml, hown, hts⟩
  subst hsz
  have hD := hD0.self (sz := s.heap.size)
  generalize hAe : va_A (mW z a th n w gn lk pu fa he nv of mp mi k nt fu re) s.heap.size = A at hD ⊢
  have hA : ∀ q : Nat, s.heap.size ≤ q → A q := fun q h => by rw [← hAe]; exact Or.inr h
  have hS : va_S A s.heap s.heap [] := va_S.rf
  have hl := lv_entry ([.ref (a 0)]) (n := 3) (Nat.le_of_ble_eq_true rfl)
  rw [lg_entry_eq]
  generalize (lg_sl ([.ref (a 0)]) ++ List.replicate (3 - (lg_sl ([.ref (a 0)])).length) Slot.unset).toArray = ls at hl ⊢
  have hl : lv_has ls 3 [(0, .ref (a 0))] := hl
  refine lv_aload_n hx hb dX1_meanLuck_0 rfl (lv_at hl 0 rfl) ?_
  refine lv_iconst (v := 0) hx hb dX1_meanLuck_1 (by decide) ?_
  refine mp_th hC hK hP hD hS dX1_meanLuck_2 (fun H locs hP hD hS => ?_)
  refine lv_iconst (v := 0) hx hb dX1_meanLuck_5 (by decide) ?_
  refine lv_istore_n (lv' := [(1, .int 0), (0, .ref (a 0))]) hx hb dX1_meanLuck_6 rfl hl (by decide) rfl (fun ls hl => ?_)
  refine lv_iconst (v := 0) hx hb dX1_meanLuck_7 (by decide) ?_
  refine lv_istore_n (lv' := [(2, .int 0), (1, .int 0), (0, .ref (a 0))]) hx hb dX1_meanLuck_8 rfl hl (by decide) rfl (fun ls hl => ?_)
  have loop_9 : ∀ (f : Nat) (j : Nat) (x : Int32), j ≤ n → n + 1 ≤ j + f → x = mq_sum gn lk j → ∀ (H : Heap) (locs : List Loc), va_P D vwCl (mW z a 0 n w gn lk pu fa he nv of mp mi k nt fu re) H → va_D A (mW z a 0 n w gn lk pu fa he nv of mp mi k nt fu re) → va_S A s.heap H locs → ∀ ls : Array Slot, lv_has ls 3 [(0, .ref (a 0)), (1, .int x), (2, .int (nI j))] → W p l e ({ frames := 1, cells := 0, slots := 0, locals := 22 } : Room) s m ([.ref (a 0)] : List Value).toArray below meth c H locs 0 0 (MQ below (va_Qd (fun (r : UInt64) (_ : Unit) => r = mq_mean gn lk n) (fun _ t9 => va_P D vwCl (mW z a 0 n w gn lk pu fa he nv of mp mi k nt fu re) t9.heap ∧ kK D z t9 ∧ va_D A (mW z a 0 n w gn lk pu fa he nv of mp mi k nt fu re)) A) ([.ref (a 0)] : List Value).toArray s 0 0 A) (F0 m 9 ls []) := by
    intro f
    induction f with
    | zero =>
      intro j x hj hf ex
      exact absurd hf (by omega)
    | succ f ih9 =>
      intro j x hj hf ex H locs hP hD hS ls hl
      refine lv_iload_n hx hb dX1_meanLuck_9 rfl (lv_at hl 2 rfl) ?_
      refine lv_aload_n hx hb dX1_meanLuck_10 rfl (lv_at hl 0 rfl) ?_
      refine mg_n hC hK hP dX1_meanLuck_11 ?_
      refine lv_icmp_ge (tgt := 45) hx hb dX1_meanLuck_14 (by decide) (fun c_14 => ?_) (fun c_14 => ?_)
      · have nc_14 : n ≤ j := nn_le (by omega) c_14
        refine lv_aload_n hx hb dX1_meanLuck_45 rfl (lv_at hl 0 rfl) ?_
        refine k_X1_living hC hK hP hl.1 ⟨Nat.le_of_ble_eq_true rfl, Nat.le_of_ble_eq_true rfl⟩ ⟨Nat.zero_le _, Nat.zero_le _⟩ (Nat.le_of_ble_eq_true rfl)  (by first | assumption | omega) dX1_meanLuck_46 ?_
        refine lv_if_ne (tgt := 56) hx hb dX1_meanLuck_49 (by decide) (fun c_49 => ?_) (fun c_49 => ?_)
        · refine lv_iload_n hx hb dX1_meanLuck_56 rfl (lv_at hl 1 rfl) ?_
          refine lv_i2d hx hb dX1_meanLuck_57 ?_
          refine lv_aload_n hx hb dX1_meanLuck_58 rfl (lv_at hl 0 rfl) ?_
          refine k_X1_living hC hK hP hl.1 ⟨Nat.le_of_ble_eq_true rfl, Nat.le_of_ble_eq_true rfl⟩ ⟨Nat.zero_le _, Nat.zero_le _⟩ (Nat.le_of_ble_eq_true rfl)  (by first | assumption | omega) dX1_meanLuck_59 ?_
          refine lv_i2d hx hb dX1_meanLuck_62 ?_
          refine lv_ddiv hx hb dX1_meanLuck_63 (mean_num c_49) ?_
          exact W.dret (v := FP.ddiv (FP.i2d x) (FP.i2d (mq_liv gn n))) hx hb hr (fun t ht hW => ⟨⟨FP.ddiv (FP.i2d x) (FP.i2d (mq_liv gn n)), (), rfl, (by unfold mq_mean; rw [if_neg c_49, ex, show j = n by omega]), by rw [ht]; exact hP, va_K.moved hW.alike hK, hD⟩, hS.F ht⟩) hS.2.2 dX1_meanLuck_64
        · refine lv_dconst0 hx hb dX1_meanLuck_52 ?_
          refine lv_goto (tgt := 64) hx hb dX1_meanLuck_53 (by decide) ?_
          exact W.dret (v := FP.dconst0) hx hb hr (fun t ht hW => ⟨⟨FP.dconst0, (), rfl, (by unfold mq_mean; rw [if_pos c_49]), by rw [ht]; exact hP, va_K.moved hW.alike hK, hD⟩, hS.F ht⟩) hS.2.2 dX1_meanLuck_64
      · have nc_14 : j < n := nn_nle (by omega) c_14
        refine lv_iload_n hx hb dX1_meanLuck_17 rfl (lv_at hl 1 rfl) ?_
        refine lv_aload_n hx hb dX1_meanLuck_18 rfl (lv_at hl 0 rfl) ?_
        refine mg_gn hC hK hP dX1_meanLuck_19 ?_
        refine lv_iload_n hx hb dX1_meanLuck_22 rfl (lv_at hl 2 rfl) ?_
        refine ml_gn hC hK hP j rfl (by omega) dX1_meanLuck_23 ?_
        refine lv_if_eq (tgt := 31) hx hb dX1_meanLuck_24 (by decide) (fun c_24 => ?_) (fun c_24 => ?_)
        · refine lv_aload_n hx hb dX1_meanLuck_31 rfl (lv_at hl 0 rfl) ?_
          refine mg_lk hC hK hP dX1_meanLuck_32 ?_
          refine lv_iload_n hx hb dX1_meanLuck_35 rfl (lv_at hl 2 rfl) ?_
          refine ml_lk hC hK hP j rfl (by omega) dX1_meanLuck_36 ?_
          refine lv_iadd hx hb dX1_meanLuck_37 ?_
          refine lv_istore_n (lv' := [(1, .int (x + (lk j))), (0, .ref (a 0)), (2, .int (nI j))]) hx hb dX1_meanLuck_38 rfl hl (by decide) rfl (fun ls hl => ?_)
          refine lv_iinc (v := nI (j + 1)) (lv' := [(2, .int (nI (j + 1))), (1, .int (x + (lk j))), (0, .ref (a 0))]) hx hb dX1_meanLuck_39 hl (k := 2) rfl (nI_1 _) (by decide) rfl (fun ls hl => ?_)
          refine lv_goto (tgt := 9) hx hb dX1_meanLuck_42 (by decide) ?_
          exact ih9 (j + 1) (x + (lk j)) (by omega) (by omega) (by simp [ex, mq_sum, c_24]) _ _ hP hD hS _ (lv_sub hl [2, 1, 0] rfl)
        · refine lv_iconst (v := 0) hx hb dX1_meanLuck_27 (by decide) ?_
          refine lv_goto (tgt := 37) hx hb dX1_meanLuck_28 (by decide) ?_
          refine lv_iadd hx hb dX1_meanLuck_37 ?_
          refine lv_istore_n (lv' := [(1, .int (x + 0)), (0, .ref (a 0)), (2, .int (nI j))]) hx hb dX1_meanLuck_38 rfl hl (by decide) rfl (fun ls hl => ?_)
          refine lv_iinc (v := nI (j + 1)) (lv' := [(2, .int (nI (j + 1))), (1, .int (x + 0)), (0, .ref (a 0))]) hx hb dX1_meanLuck_39 hl (k := 2) rfl (nI_1 _) (by decide) rfl (fun ls hl => ?_)
          refine lv_goto (tgt := 9) hx hb dX1_meanLuck_42 (by decide) ?_
          exact ih9 (j + 1) (x + 0) (by omega) (by omega) (by simp [ex, mq_sum, c_24]) _ _ hP hD hS _ (lv_sub hl [2, 1, 0] rfl)
  exact loop_9 (n + 1) 0 0 (Nat.zero_le _) (by omega) rfl _ _ hP hD hS _ (lv_sub hl [2, 1, 0] rfl)

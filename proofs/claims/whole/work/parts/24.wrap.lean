abbrev kJ (D : va_G) (cJ : ClassId) (U : State) : Prop := va_K D vwCl [(cJ, .long)] U
def oW (o : Nat) (cJ : ClassId) (g : Nat → Int64) (X : va_W) : va_W := [(o, .inl (cJ, 1, .inr (.inl g)))] ++ X
def b64 (r : Int32) : Int64 := if r = 0 then 0 else 1
def tN (U : State) : Prop := (va_Nc "java/lang/IllegalArgumentException" "java/lang/IndexOutOfBoundsException" U ∧ va_Nc "java/lang/IllegalStateException" "java/lang/IndexOutOfBoundsException" U) ∧ va_Nc "java/lang/IllegalStateException" "java/lang/IllegalArgumentException" U
theorem tN.moved {u U : State} (hvm : u.vm.Alike U.vm) (h : tN u) : tN U := ⟨⟨h.1.1.moved hvm, h.1.2.moved hvm⟩, h.2.moved hvm⟩
section WJ
variable {D : va_G} {cl : List vw_C} {X M X' M' : va_W} {H H1 : Heap} {A0 : Nat → Prop}
theorem wj_Pl (h : va_P D cl (X ++ M) H) : va_P D cl X H := fun k q hk => h k q (by rw [List.getElem?_append_left (List.getElem?_eq_some_iff.mp hk).1]; exact hk)
theorem wj_rt {k : Nat} {q : Nat × va_E} (hk : M[k]? = some q) : (X ++ M)[X.length + k]? = some q := by rw [List.getElem?_append_right (Nat.le_add_right _ _), Nat.add_sub_cancel_left]; exact hk
theorem wj_lt {k : Nat} {q : Nat × va_E} (hk : X[k]? = some q) : (X ++ M)[k]? = some q := by rw [List.getElem?_append_left (List.getElem?_eq_some_iff.mp hk).1]; exact hk
theorem wj_Pr (h : va_P D cl (X ++ M) H) : va_P D cl M H := fun k q hk => h (X.length + k) q (wj_rt hk)
theorem wj_Dl (h : va_D A0 (X ++ M)) : va_D A0 X := ⟨fun i j p q hp hq e => h.1 i j p q (wj_lt hp) (wj_lt hq) e, fun k q hk => h.2 k q (wj_lt hk)⟩
theorem wj_Dr (h : va_D A0 (X ++ M)) : va_D A0 M := ⟨fun i j p q hp hq e => by have := h.1 _ _ p q (wj_rt hp) (wj_rt hq) e; omega, fun k q hk => h.2 _ q (wj_rt hk)⟩
theorem wj_ne (h : va_D A0 (X ++ M)) {i j : Nat} {p q : Nat × va_E} (hp : X[i]? = some p) (hq : M[j]? = some q) : p.1 ≠ q.1 := fun e => by
  have h1 := h.1 _ _ p q (wj_lt hp) (wj_rt hq) e
  have h2 := (List.getElem?_eq_some_iff.mp hp).1
  omega
theorem wj_l (hP : va_P D cl (X ++ M) H) (hD : va_D A0 (X ++ M)) (hk : ∀ q : Nat, q < H.size → ¬ va_A X H.size q → H1[q]? = H[q]?) (hF : ∀ q, va_A X H.size q → A0 q) (hP1 : va_P D cl X' H1) (hD1 : va_D (va_A X H.size) X') : va_P D cl (X' ++ M) H1 ∧ va_D A0 (X' ++ M) := by
  have ap : ∀ (k : Nat) (q : Nat × va_E), M[k]? = some q → q.1 < H.size ∧ ¬ va_A X H.size q.1 := by
    intro k q hq
    have hl := (wj_Pr hP k q hq).lt
    refine ⟨hl, fun h => ?_⟩
    rcases h with ⟨k2, e, h⟩ | h
    · exact wj_ne hD h hq rfl
    · omega
  refine ⟨va_P.app hP1 (fun k q hq => ?_), va_D.app (hD1.weaken (fun k q _ h => hF q.1 h)) (wj_Dr hD) (fun i j x y hx hy hxy => ?_)⟩
  · exact (wj_Pr hP k q hq).kept (hk _ (ap k q hq).1 (ap k q hq).2)
  · exact (ap j y hy).2 (hxy ▸ hD1.2 i x hx)
theorem wj_sP (h : va_P D cl (X ++ M) H) : va_P D cl (M ++ X) H := va_P.swap (a := []) h
theorem wj_sD (h : va_D A0 (X ++ M)) : va_D A0 (M ++ X) := va_D.swap (a := []) h
theorem wj_r (hP : va_P D cl (X ++ M) H) (hD : va_D A0 (X ++ M)) (hk : ∀ q : Nat, q < H.size → ¬ va_A M H.size q → H1[q]? = H[q]?) (hF : ∀ q, va_A M H.size q → A0 q) (hP1 : va_P D cl M' H1) (hD1 : va_D (va_A M H.size) M') : va_P D cl (X ++ M') H1 ∧ va_D A0 (X ++ M') :=
  have h := wj_l (wj_sP hP) (wj_sD hD) hk hF hP1 hD1
  ⟨wj_sP h.1, wj_sD h.2⟩
theorem wj_Ar {sz : Nat} {q : Nat} (h : va_A M sz q) : va_A (X ++ M) sz q := h.elim (fun ⟨k, e, h⟩ => Or.inl ⟨X.length + k, e, wj_rt h⟩) Or.inr
theorem wj_Al {sz : Nat} {q : Nat} (h : va_A X sz q) : va_A (X ++ M) sz q := h.elim (fun ⟨k, e, h⟩ => Or.inl ⟨k, e, wj_lt h⟩) Or.inr
theorem wj_Fr {H0 : Heap} {locs : List Loc} (hD : va_D A0 (X ++ M)) (hS : va_S A0 H0 H locs) (hA : ∀ q, H0.size ≤ q → A0 q) : ∀ q, va_A M H.size q → A0 q := fun q h => h.elim (fun ⟨k, e, h⟩ => hD.2 _ (q, e) (wj_rt h)) (fun h => hA q (Nat.le_trans hS.1 h))
theorem wj_Fl {H0 : Heap} {locs : List Loc} (hD : va_D A0 (X ++ M)) (hS : va_S A0 H0 H locs) (hA : ∀ q, H0.size ≤ q → A0 q) : ∀ q, va_A X H.size q → A0 q := fun q h => h.elim (fun ⟨k, e, h⟩ => hD.2 _ (q, e) (wj_lt h)) (fun h => hA q (Nat.le_trans hS.1 h))
theorem wj_kept (hP : va_P D cl X H) (hk : ∀ q : Nat, q < H.size → ¬ False → H1[q]? = H[q]?) : va_P D cl X H1 := fun k q hq => (hP k q hq).kept (hk _ (hP k q hq).lt (fun h => h))
end WJ
section WROWS
variable {p : Program} {l : Launch} {e : Env} {R : Room} {s : State} {m : MethodId} {args : Array Value} {below : List Frame} {meth : Method} {c : Code} {H : Heap} {locs : List Loc} {cells slots : Nat} {Q : State → Prop} {cc : ByteArray} {nL pc : Nat} {ls : Array Slot} {rest : List Value}
theorem w_last {D : va_G} {cJ : ClassId} {o : Nat} {g : Nat → Int64} {X : va_W} {A : Nat → Prop} {H0 : Heap} {own : String} (hC : CallFix p m c cc nL s args lw_all own) (hJ : kJ D cJ s) (hP : va_P D vwCl (oW o cJ g X) H) (hD : va_D A (oW o cJ g X)) (hS : va_S A H0 H locs) {x : Int64} (hdg : decode cc pc = .ok (.lastore, 1)) (kk : ∀ (H1 : Heap) (locs1 : List Loc), va_P D vwCl (oW o cJ (vp_updL g 0 x) X) H1 → va_D A (oW o cJ (vp_updL g 0 x) X) → va_S A H0 H1 locs1 → W p l e R s m args below meth c H1 locs1 cells slots Q (F0 m (pc + 1) ls rest)) : W p l e R s m args below meth c H locs cells slots Q (F0 m pc ls (.long x :: .int 0 :: .ref o :: rest)) :=
  va_last (D := D) (i := (0 : Int32)) hC.1 hC.2.1 hJ hP hD hS 0 0 (n := 1) (f := g) rfl rfl (by unfold vp_in; decide) hdg kk
theorem w_lald {D : va_G} {cJ : ClassId} {o : Nat} {g : Nat → Int64} {X : va_W} {own : String} (hC : CallFix p m c cc nL s args lw_all own) (hJ : kJ D cJ s) (hP : va_P D vwCl (oW o cJ g X) H) (hdg : decode cc pc = .ok (.laload, 1)) (kk : W p l e R s m args below meth c H locs cells slots Q (F0 m (pc + 1) ls (.long (g 0) :: rest))) : W p l e R s m args below meth c H locs cells slots Q (F0 m pc ls (.int 0 :: .ref o :: rest)) :=
  va_lald (D := D) (i := (0 : Int32)) hC.1 hC.2.1 hJ hP 0 0 (n := 1) (f := g) rfl rfl (by unfold vp_in; decide) hdg kk
end WROWS

set_option maxHeartbeats 4000000 in
set_option maxRecDepth 100000 in
theorem w_addPerson (l : Launch) (sz : Nat) {D : va_G} {z : ClassId × ClassId} {a : Nat → Nat} {lv lk pu fa he : Nat → Int32} {n : Nat} {nv du ta : Nat → Int32} {w : Nat} {mp mi : Nat → Int32} {k : Nat} {nt fu re : Int32} {o : Nat} {cJ : ClassId} {g : Nat → Int64} (x : Int32) (h1 : ¬ x < 0) (h2 : x ≤ 99) (hn : n < 10) : Met l yL_addPerson (wsH_ yL_addPerson cL_addPerson 4 (some .int) [(0, 9, 12, 13), (0, 9, 15, 15)]) ({ frames := 1, cells := 0, slots := 0, locals := 22 } : Room) (va_Pc [.ref (a 0), .int x, .ref o] (fun U => U.heap.size = sz ∧ va_P D vwCl (oW o cJ g (xW z a lv lk pu fa he n nv du ta w mp mi k nt fu re)) U.heap ∧ kK D z U ∧ kJ D cJ U ∧ va_D (fun _ => True) (oW o cJ g (xW z a lv lk pu fa he n nv du ta w mp mi k nt fu re)))) (va_Qi (fun (r : Int32) (u : Nat → Int64) => r = 0 ∧ u 0 = (nI n).toInt64) (fun u t9 => va_P D vwCl (oW o cJ u (xW z a (upd lv n 1) (upd lk n x) (upd pu n 100) (upd fa n 0) (upd he n (-1)) (n + 1) nv du ta w mp mi k nt fu re)) t9.heap ∧ va_D (va_A (oW o cJ g (xW z a lv lk pu fa he n nv du ta w mp mi k nt fu re)) sz) (oW o cJ u (xW z a (upd lv n 1) (upd lk n x) (upd pu n 100) (upd fa n 0) (upd he n (-1)) (n + 1) nv du ta w mp mi k nt fu re))) (va_A (oW o cJ g (xW z a lv lk pu fa he n nv du ta w mp mi k nt fu re)) sz)) 0 0 (va_A (oW o cJ g (xW z a lv lk pu fa he n nv du ta w mp mi k nt fu re)) sz) := by
  refine va_MetW (hh := [(0, 9, 12, 13), (0, 9, 15, 15)]) (cc := cL_addPerson) (maxL := 4) (ret := (some .int)) (by decide) rfl ?_
  intro p e s m args below meth c s₁ B hml hv
  obtain ⟨rfl, hsz, hP, hK, hJ, hD0⟩ := hv
  have hx := B.exec
  have hb := B.bytes
  have hr := B.returns
  have hts0 := atoms_spec (ws := wsH_ yL_addPerson cL_addPerson 4 (some .int) [(0, 9, 12, 13), (0, 9, 15, 15)]) B.pre
  have hts : ∀ w ∈ lw_all, w.before _ s = true := fun w h => hts0 w (List.mem_cons_of_mem _ h)
  have hown : s.vm.findClass RL = some m.cls := findClass_of_methodNamed B.named
  have hlocks := B.notSynchronized
  have hC : CallFix p m c cL_addPerson 4 s _ lw_all RL := ⟨hx, hb, hml, hown, hts⟩
  subst hsz
  have hD := hD0.self (sz := s.heap.size)
  generalize hAe : va_A (oW o cJ g (xW z a lv lk pu fa he n nv du ta w mp mi k nt fu re)) s.heap.size = A at hD ⊢
  have hA : ∀ q : Nat, s.heap.size ≤ q → A q := fun q h => by rw [← hAe]; exact Or.inr h
  have hS : va_S A s.heap s.heap [] := va_S.rf
  have hl := lv_entry ([.ref (a 0), .int x, .ref o]) (n := 4) (Nat.le_of_ble_eq_true rfl)
  rw [lg_entry_eq]
  generalize (lg_sl ([.ref (a 0), .int x, .ref o]) ++ List.replicate (4 - (lg_sl ([.ref (a 0), .int x, .ref o])).length) Slot.unset).toArray = ls at hl ⊢
  have hl : lv_has ls 4 [(0, .ref (a 0)), (1, .int x), (2, .ref o)] := hl
  refine lv_aload_n hx hb dL_addPerson_0 rfl (lv_at hl 2 rfl) ?_
  refine lv_iconst (v := 0) hx hb dL_addPerson_1 (by decide) ?_
  refine lv_aload_n hx hb dL_addPerson_2 rfl (lv_at hl 0 rfl) ?_
  refine lv_iload_n hx hb dL_addPerson_3 rfl (lv_at hl 1 rfl) ?_
  have hPX := wj_Pr hP
  have hF := wj_Fr hD hS hA
  refine va_calli (va_runV (As := [.int x]) (rest := [.int 0, .ref o]) hC (c_X0_addPerson l s.heap.size x h1 h2 hn) (cwV 1 hC.2.2.2.2 (gi_V mM_L_7 mV_X0_addPerson mS_X0_addPerson mI_MissRegistry mC_X0_addPerson) rfl rfl rfl (by decide +kernel) ⟨Nat.le_of_ble_eq_true rfl, Nat.le_of_ble_eq_true rfl⟩) ⟨fun a1 U g mk q => ⟨q.1, q.2.1, ⟨q.2.2.1.1, va_K.moved (u := U) (U := U.calling g mk a1) (Vm.Alike.refl U.vm) q.2.2.1.2⟩, q.2.2.2⟩, va_recv hK hPX (ci := 0) (q0 := 0) rfl rfl, fun U hU hW => ⟨rfl, by rw [hU], ⟨by rw [hU]; exact hPX, va_K.moved hW.alike hK⟩, (wj_Dr hD).weaken (fun _ _ _ _ => trivial)⟩⟩ rfl rfl hl.1 rfl (lv_room (Nat.le_of_ble_eq_true rfl)) dL_addPerson_4 ⟨Nat.le_of_ble_eq_true rfl, Nat.le_of_ble_eq_true rfl⟩) hS (fun q _ h => hF q h) hF (fun r9 u9 t H locs ht hvm hw9 hB hz9 hk9 hS9 => ?_)
  obtain ⟨hP1, hK1, hD1⟩ := hB
  rw [ht] at hP1
  obtain ⟨hP, hD⟩ := wj_r hP hD hk9 hF hP1 hD1
  have hP : va_P D vwCl (oW o cJ g (xW z a (upd lv n 1) (upd lk n x) (upd pu n 100) (upd fa n 0) (upd he n (-1)) (n + 1) nv du ta w mp mi k nt fu re)) H := hP
  have hD : va_D A (oW o cJ g (xW z a (upd lv n 1) (upd lk n x) (upd pu n 100) (upd fa n 0) (upd he n (-1)) (n + 1) nv du ta w mp mi k nt fu re)) := hD
  have hS := hS9
  rw [show r9 = nI n from hw9]
  refine lv_i2l hx hb dL_addPerson_7 rfl ?_
  refine w_last hC hJ hP hD hS dL_addPerson_8 (fun H locs hP hD hS => ?_)
  refine lv_goto (tgt := 18) hx hb dL_addPerson_9 (by decide) ?_
  refine lv_iconst (v := 0) hx hb dL_addPerson_18 (by decide) ?_
  exact W.iret (v := 0) hx hb hr (fun t ht hW => ⟨⟨0, _, rfl, ⟨rfl, (show vp_updL g 0 _ 0 = _ from if_pos rfl)⟩, by rw [ht]; exact hP, hD⟩, hS.F ht⟩) hS.2.2 dL_addPerson_19
set_option maxHeartbeats 4000000 in
set_option maxRecDepth 100000 in
theorem w_addWitness (l : Launch) (sz : Nat) {D : va_G} {z : ClassId × ClassId} {a : Nat → Nat} {lv lk pu fa he : Nat → Int32} {n : Nat} {nv du ta : Nat → Int32} {w : Nat} {mp mi : Nat → Int32} {k : Nat} {nt fu re : Int32} {o : Nat} {cJ : ClassId} {g : Nat → Int64} (x : Int32) (h1 : ¬ x < 0) (h2 : x ≤ 9) (hw : w < 6) : Met l yL_addWitness (wsH_ yL_addWitness cL_addWitness 4 (some .int) [(0, 9, 12, 13), (0, 9, 15, 15)]) ({ frames := 1, cells := 0, slots := 0, locals := 22 } : Room) (va_Pc [.ref (a 0), .int x, .ref o] (fun U => U.heap.size = sz ∧ va_P D vwCl (oW o cJ g (xW z a lv lk pu fa he n nv du ta w mp mi k nt fu re)) U.heap ∧ kK D z U ∧ kJ D cJ U ∧ va_D (fun _ => True) (oW o cJ g (xW z a lv lk pu fa he n nv du ta w mp mi k nt fu re)))) (va_Qi (fun (r : Int32) (u : Nat → Int64) => r = 0 ∧ u 0 = (nI w).toInt64) (fun u t9 => va_P D vwCl (oW o cJ u (xW z a lv lk pu fa he n (upd nv w x) (upd du w 1) ta (w + 1) mp mi k nt fu re)) t9.heap ∧ va_D (va_A (oW o cJ g (xW z a lv lk pu fa he n nv du ta w mp mi k nt fu re)) sz) (oW o cJ u (xW z a lv lk pu fa he n (upd nv w x) (upd du w 1) ta (w + 1) mp mi k nt fu re))) (va_A (oW o cJ g (xW z a lv lk pu fa he n nv du ta w mp mi k nt fu re)) sz)) 0 0 (va_A (oW o cJ g (xW z a lv lk pu fa he n nv du ta w mp mi k nt fu re)) sz) := by
  refine va_MetW (hh := [(0, 9, 12, 13), (0, 9, 15, 15)]) (cc := cL_addWitness) (maxL := 4) (ret := (some .int)) (by decide) rfl ?_
  intro p e s m args below meth c s₁ B hml hv
  obtain ⟨rfl, hsz, hP, hK, hJ, hD0⟩ := hv
  have hx := B.exec
  have hb := B.bytes
  have hr := B.returns
  have hts0 := atoms_spec (ws := wsH_ yL_addWitness cL_addWitness 4 (some .int) [(0, 9, 12, 13), (0, 9, 15, 15)]) B.pre
  have hts : ∀ w ∈ lw_all, w.before _ s = true := fun w h => hts0 w (List.mem_cons_of_mem _ h)
  have hown : s.vm.findClass RL = some m.cls := findClass_of_methodNamed B.named
  have hlocks := B.notSynchronized
  have hC : CallFix p m c cL_addWitness 4 s _ lw_all RL := ⟨hx, hb, hml, hown, hts⟩
  subst hsz
  have hD := hD0.self (sz := s.heap.size)
  generalize hAe : va_A (oW o cJ g (xW z a lv lk pu fa he n nv du ta w mp mi k nt fu re)) s.heap.size = A at hD ⊢
  have hA : ∀ q : Nat, s.heap.size ≤ q → A q := fun q h => by rw [← hAe]; exact Or.inr h
  have hS : va_S A s.heap s.heap [] := va_S.rf
  have hl := lv_entry ([.ref (a 0), .int x, .ref o]) (n := 4) (Nat.le_of_ble_eq_true rfl)
  rw [lg_entry_eq]
  generalize (lg_sl ([.ref (a 0), .int x, .ref o]) ++ List.replicate (4 - (lg_sl ([.ref (a 0), .int x, .ref o])).length) Slot.unset).toArray = ls at hl ⊢
  have hl : lv_has ls 4 [(0, .ref (a 0)), (1, .int x), (2, .ref o)] := hl
  refine lv_aload_n hx hb dL_addWitness_0 rfl (lv_at hl 2 rfl) ?_
  refine lv_iconst (v := 0) hx hb dL_addWitness_1 (by decide) ?_
  refine lv_aload_n hx hb dL_addWitness_2 rfl (lv_at hl 0 rfl) ?_
  refine lv_iload_n hx hb dL_addWitness_3 rfl (lv_at hl 1 rfl) ?_
  have hPX := wj_Pr hP
  have hF := wj_Fr hD hS hA
  refine va_calli (va_runV (As := [.int x]) (rest := [.int 0, .ref o]) hC (c_X0_addWitness l s.heap.size x h1 h2 hw) (cwV 1 hC.2.2.2.2 (gi_V mM_L_17 mV_X0_addWitness mS_X0_addWitness mI_MissRegistry mC_X0_addWitness) rfl rfl rfl (by decide +kernel) ⟨Nat.le_of_ble_eq_true rfl, Nat.le_of_ble_eq_true rfl⟩) ⟨fun a1 U g mk q => ⟨q.1, q.2.1, ⟨q.2.2.1.1, va_K.moved (u := U) (U := U.calling g mk a1) (Vm.Alike.refl U.vm) q.2.2.1.2⟩, q.2.2.2⟩, va_recv hK hPX (ci := 0) (q0 := 0) rfl rfl, fun U hU hW => ⟨rfl, by rw [hU], ⟨by rw [hU]; exact hPX, va_K.moved hW.alike hK⟩, (wj_Dr hD).weaken (fun _ _ _ _ => trivial)⟩⟩ rfl rfl hl.1 rfl (lv_room (Nat.le_of_ble_eq_true rfl)) dL_addWitness_4 ⟨Nat.le_of_ble_eq_true rfl, Nat.le_of_ble_eq_true rfl⟩) hS (fun q _ h => hF q h) hF (fun r9 u9 t H locs ht hvm hw9 hB hz9 hk9 hS9 => ?_)
  obtain ⟨hP1, hK1, hD1⟩ := hB
  rw [ht] at hP1
  obtain ⟨hP, hD⟩ := wj_r hP hD hk9 hF hP1 hD1
  have hP : va_P D vwCl (oW o cJ g (xW z a lv lk pu fa he n (upd nv w x) (upd du w 1) ta (w + 1) mp mi k nt fu re)) H := hP
  have hD : va_D A (oW o cJ g (xW z a lv lk pu fa he n (upd nv w x) (upd du w 1) ta (w + 1) mp mi k nt fu re)) := hD
  have hS := hS9
  rw [show r9 = nI w from hw9]
  refine lv_i2l hx hb dL_addWitness_7 rfl ?_
  refine w_last hC hJ hP hD hS dL_addWitness_8 (fun H locs hP hD hS => ?_)
  refine lv_goto (tgt := 18) hx hb dL_addWitness_9 (by decide) ?_
  refine lv_iconst (v := 0) hx hb dL_addWitness_18 (by decide) ?_
  exact W.iret (v := 0) hx hb hr (fun t ht hW => ⟨⟨0, _, rfl, ⟨rfl, (show vp_updL g 0 _ 0 = _ from if_pos rfl)⟩, by rw [ht]; exact hP, hD⟩, hS.F ht⟩) hS.2.2 dL_addWitness_19
set_option maxHeartbeats 4000000 in
set_option maxRecDepth 100000 in
theorem w_setHeir_0 (l : Launch) (sz : Nat) {D : va_G} {z : ClassId × ClassId} {a : Nat → Nat} {lv lk pu fa he : Nat → Int32} {n : Nat} {nv du ta : Nat → Int32} {w : Nat} {mp mi : Nat → Int32} {k : Nat} {nt fu re : Int32} {o : Nat} {cJ : ClassId} {g : Nat → Int64} (i : Nat) (hi : i < n) (hn : n ≤ 10) (ha : ¬ lv i = 0) : Met l yL_setHeir (wsH_ yL_setHeir cL_setHeir 5 (some .int) [(0, 10, 13, 24), (0, 10, 17, 13), (0, 10, 21, 15)]) ({ frames := 3, cells := 0, slots := 0, locals := 65 } : Room) (va_Pc [.ref (a 0), .int (nI i), .int (-1), .ref o] (fun U => U.heap.size = sz ∧ va_P D vwCl (oW o cJ g (xW z a lv lk pu fa he n nv du ta w mp mi k nt fu re)) U.heap ∧ kK D z U ∧ kJ D cJ U ∧ va_D (fun _ => True) (oW o cJ g (xW z a lv lk pu fa he n nv du ta w mp mi k nt fu re)))) (va_Qi (fun (r : Int32) (u : Nat → Int64) => r = 0 ∧ u 0 = (he i).toInt64) (fun u t9 => va_P D vwCl (oW o cJ u (xW z a lv lk pu fa (upd he i (-1)) n nv du ta w mp mi k nt fu re)) t9.heap ∧ va_D (va_A (oW o cJ g (xW z a lv lk pu fa he n nv du ta w mp mi k nt fu re)) sz) (oW o cJ u (xW z a lv lk pu fa (upd he i (-1)) n nv du ta w mp mi k nt fu re))) (va_A (oW o cJ g (xW z a lv lk pu fa he n nv du ta w mp mi k nt fu re)) sz)) 0 0 (va_A (oW o cJ g (xW z a lv lk pu fa he n nv du ta w mp mi k nt fu re)) sz) := by
  refine va_MetW (hh := [(0, 10, 13, 24), (0, 10, 17, 13), (0, 10, 21, 15)]) (cc := cL_setHeir) (maxL := 5) (ret := (some .int)) (by decide) rfl ?_
  intro p e s m args below meth c s₁ B hml hv
  obtain ⟨rfl, hsz, hP, hK, hJ, hD0⟩ := hv
  have hx := B.exec
  have hb := B.bytes
  have hr := B.returns
  have hts0 := atoms_spec (ws := wsH_ yL_setHeir cL_setHeir 5 (some .int) [(0, 10, 13, 24), (0, 10, 17, 13), (0, 10, 21, 15)]) B.pre
  have hts : ∀ w ∈ lw_all, w.before _ s = true := fun w h => hts0 w (List.mem_cons_of_mem _ h)
  have hown : s.vm.findClass RL = some m.cls := findClass_of_methodNamed B.named
  have hlocks := B.notSynchronized
  have hC : CallFix p m c cL_setHeir 5 s _ lw_all RL := ⟨hx, hb, hml, hown, hts⟩
  subst hsz
  have hD := hD0.self (sz := s.heap.size)
  generalize hAe : va_A (oW o cJ g (xW z a lv lk pu fa he n nv du ta w mp mi k nt fu re)) s.heap.size = A at hD ⊢
  have hA : ∀ q : Nat, s.heap.size ≤ q → A q := fun q h => by rw [← hAe]; exact Or.inr h
  have hS : va_S A s.heap s.heap [] := va_S.rf
  have hl := lv_entry ([.ref (a 0), .int (nI i), .int (-1), .ref o]) (n := 5) (Nat.le_of_ble_eq_true rfl)
  rw [lg_entry_eq]
  generalize (lg_sl ([.ref (a 0), .int (nI i), .int (-1), .ref o]) ++ List.replicate (5 - (lg_sl ([.ref (a 0), .int (nI i), .int (-1), .ref o])).length) Slot.unset).toArray = ls at hl ⊢
  have hl : lv_has ls 5 [(0, .ref (a 0)), (1, .int (nI i)), (2, .int (-1)), (3, .ref o)] := hl
  refine lv_aload_n hx hb dL_setHeir_0 rfl (lv_at hl 3 rfl) ?_
  refine lv_iconst (v := 0) hx hb dL_setHeir_1 (by decide) ?_
  refine lv_aload_n hx hb dL_setHeir_2 rfl (lv_at hl 0 rfl) ?_
  refine lv_iload_n hx hb dL_setHeir_3 rfl (lv_at hl 1 rfl) ?_
  refine lv_iload_n hx hb dL_setHeir_4 rfl (lv_at hl 2 rfl) ?_
  have hPX := wj_Pr hP
  have hF := wj_Fr hD hS hA
  refine va_calli (va_runV (As := [.int (nI i), .int (-1)]) (rest := [.int 0, .ref o]) hC (c_X0_setHeir_0 l s.heap.size i hi hn ha) (cwV 2 hC.2.2.2.2 (gi_V mM_L_20 mV_X0_setHeir mS_X0_setHeir mI_MissRegistry mC_X0_setHeir) rfl rfl rfl (by decide +kernel) ⟨Nat.le_of_ble_eq_true rfl, Nat.le_of_ble_eq_true rfl⟩) ⟨fun a1 U g mk q => ⟨q.1, q.2.1, ⟨q.2.2.1.1, va_K.moved (u := U) (U := U.calling g mk a1) (Vm.Alike.refl U.vm) q.2.2.1.2⟩, q.2.2.2⟩, va_recv hK hPX (ci := 0) (q0 := 0) rfl rfl, fun U hU hW => ⟨rfl, by rw [hU], ⟨by rw [hU]; exact hPX, va_K.moved hW.alike hK⟩, (wj_Dr hD).weaken (fun _ _ _ _ => trivial)⟩⟩ rfl rfl hl.1 rfl (lv_room (Nat.le_of_ble_eq_true rfl)) dL_setHeir_5 ⟨Nat.le_of_ble_eq_true rfl, Nat.le_of_ble_eq_true rfl⟩) hS (fun q _ h => hF q h) hF (fun r9 u9 t H locs ht hvm hw9 hB hz9 hk9 hS9 => ?_)
  obtain ⟨hP1, hK1, hD1⟩ := hB
  rw [ht] at hP1
  obtain ⟨hP, hD⟩ := wj_r hP hD hk9 hF hP1 hD1
  have hP : va_P D vwCl (oW o cJ g (xW z a lv lk pu fa (upd he i (-1)) n nv du ta w mp mi k nt fu re)) H := hP
  have hD : va_D A (oW o cJ g (xW z a lv lk pu fa (upd he i (-1)) n nv du ta w mp mi k nt fu re)) := hD
  have hS := hS9
  rw [show r9 = he i from hw9]
  refine lv_i2l hx hb dL_setHeir_8 rfl ?_
  refine w_last hC hJ hP hD hS dL_setHeir_9 (fun H locs hP hD hS => ?_)
  refine lv_goto (tgt := 25) hx hb dL_setHeir_10 (by decide) ?_
  refine lv_iconst (v := 0) hx hb dL_setHeir_25 (by decide) ?_
  exact W.iret (v := 0) hx hb hr (fun t ht hW => ⟨⟨0, _, rfl, ⟨rfl, (show vp_updL g 0 _ 0 = _ from if_pos rfl)⟩, by rw [ht]; exact hP, hD⟩, hS.F ht⟩) hS.2.2 dL_setHeir_26
set_option maxHeartbeats 4000000 in
set_option maxRecDepth 100000 in
theorem w_setHeir_1 (l : Launch) (sz : Nat) {D : va_G} {z : ClassId × ClassId} {a : Nat → Nat} {lv lk pu fa he : Nat → Int32} {n : Nat} {nv du ta : Nat → Int32} {w : Nat} {mp mi : Nat → Int32} {k : Nat} {nt fu re : Int32} {o : Nat} {cJ : ClassId} {g : Nat → Int64} (i : Nat) (j : Nat) (hi : i < n) (hj : j < n) (hn : n ≤ 10) (hij : ¬ i = j) (ha : ¬ lv i = 0) : Met l yL_setHeir (wsH_ yL_setHeir cL_setHeir 5 (some .int) [(0, 10, 13, 24), (0, 10, 17, 13), (0, 10, 21, 15)]) ({ frames := 3, cells := 0, slots := 0, locals := 65 } : Room) (va_Pc [.ref (a 0), .int (nI i), .int (nI j), .ref o] (fun U => U.heap.size = sz ∧ va_P D vwCl (oW o cJ g (xW z a lv lk pu fa he n nv du ta w mp mi k nt fu re)) U.heap ∧ kK D z U ∧ kJ D cJ U ∧ va_D (fun _ => True) (oW o cJ g (xW z a lv lk pu fa he n nv du ta w mp mi k nt fu re)))) (va_Qi (fun (r : Int32) (u : Nat → Int64) => r = 0 ∧ u 0 = (he i).toInt64) (fun u t9 => va_P D vwCl (oW o cJ u (xW z a lv lk pu fa (upd he i (nI j)) n nv du ta w mp mi k nt fu re)) t9.heap ∧ va_D (va_A (oW o cJ g (xW z a lv lk pu fa he n nv du ta w mp mi k nt fu re)) sz) (oW o cJ u (xW z a lv lk pu fa (upd he i (nI j)) n nv du ta w mp mi k nt fu re))) (va_A (oW o cJ g (xW z a lv lk pu fa he n nv du ta w mp mi k nt fu re)) sz)) 0 0 (va_A (oW o cJ g (xW z a lv lk pu fa he n nv du ta w mp mi k nt fu re)) sz) := by
  refine va_MetW (hh := [(0, 10, 13, 24), (0, 10, 17, 13), (0, 10, 21, 15)]) (cc := cL_setHeir) (maxL := 5) (ret := (some .int)) (by decide) rfl ?_
  intro p e s m args below meth c s₁ B hml hv
  obtain ⟨rfl, hsz, hP, hK, hJ, hD0⟩ := hv
  have hx := B.exec
  have hb := B.bytes
  have hr := B.returns
  have hts0 := atoms_spec (ws := wsH_ yL_setHeir cL_setHeir 5 (some .int) [(0, 10, 13, 24), (0, 10, 17, 13), (0, 10, 21, 15)]) B.pre
  have hts : ∀ w ∈ lw_all, w.before _ s = true := fun w h => hts0 w (List.mem_cons_of_mem _ h)
  have hown : s.vm.findClass RL = some m.cls := findClass_of_methodNamed B.named
  have hlocks := B.notSynchronized
  have hC : CallFix p m c cL_setHeir 5 s _ lw_all RL := ⟨hx, hb, hml, hown, hts⟩
  subst hsz
  have hD := hD0.self (sz := s.heap.size)
  generalize hAe : va_A (oW o cJ g (xW z a lv lk pu fa he n nv du ta w mp mi k nt fu re)) s.heap.size = A at hD ⊢
  have hA : ∀ q : Nat, s.heap.size ≤ q → A q := fun q h => by rw [← hAe]; exact Or.inr h
  have hS : va_S A s.heap s.heap [] := va_S.rf
  have hl := lv_entry ([.ref (a 0), .int (nI i), .int (nI j), .ref o]) (n := 5) (Nat.le_of_ble_eq_true rfl)
  rw [lg_entry_eq]
  generalize (lg_sl ([.ref (a 0), .int (nI i), .int (nI j), .ref o]) ++ List.replicate (5 - (lg_sl ([.ref (a 0), .int (nI i), .int (nI j), .ref o])).length) Slot.unset).toArray = ls at hl ⊢
  have hl : lv_has ls 5 [(0, .ref (a 0)), (1, .int (nI i)), (2, .int (nI j)), (3, .ref o)] := hl
  refine lv_aload_n hx hb dL_setHeir_0 rfl (lv_at hl 3 rfl) ?_
  refine lv_iconst (v := 0) hx hb dL_setHeir_1 (by decide) ?_
  refine lv_aload_n hx hb dL_setHeir_2 rfl (lv_at hl 0 rfl) ?_
  refine lv_iload_n hx hb dL_setHeir_3 rfl (lv_at hl 1 rfl) ?_
  refine lv_iload_n hx hb dL_setHeir_4 rfl (lv_at hl 2 rfl) ?_
  have hPX := wj_Pr hP
  have hF := wj_Fr hD hS hA
  refine va_calli (va_runV (As := [.int (nI i), .int (nI j)]) (rest := [.int 0, .ref o]) hC (c_X0_setHeir_1 l s.heap.size i j hi hj hn hij ha) (cwV 2 hC.2.2.2.2 (gi_V mM_L_20 mV_X0_setHeir mS_X0_setHeir mI_MissRegistry mC_X0_setHeir) rfl rfl rfl (by decide +kernel) ⟨Nat.le_of_ble_eq_true rfl, Nat.le_of_ble_eq_true rfl⟩) ⟨fun a1 U g mk q => ⟨q.1, q.2.1, ⟨q.2.2.1.1, va_K.moved (u := U) (U := U.calling g mk a1) (Vm.Alike.refl U.vm) q.2.2.1.2⟩, q.2.2.2⟩, va_recv hK hPX (ci := 0) (q0 := 0) rfl rfl, fun U hU hW => ⟨rfl, by rw [hU], ⟨by rw [hU]; exact hPX, va_K.moved hW.alike hK⟩, (wj_Dr hD).weaken (fun _ _ _ _ => trivial)⟩⟩ rfl rfl hl.1 rfl (lv_room (Nat.le_of_ble_eq_true rfl)) dL_setHeir_5 ⟨Nat.le_of_ble_eq_true rfl, Nat.le_of_ble_eq_true rfl⟩) hS (fun q _ h => hF q h) hF (fun r9 u9 t H locs ht hvm hw9 hB hz9 hk9 hS9 => ?_)
  obtain ⟨hP1, hK1, hD1⟩ := hB
  rw [ht] at hP1
  obtain ⟨hP, hD⟩ := wj_r hP hD hk9 hF hP1 hD1
  have hP : va_P D vwCl (oW o cJ g (xW z a lv lk pu fa (upd he i (nI j)) n nv du ta w mp mi k nt fu re)) H := hP
  have hD : va_D A (oW o cJ g (xW z a lv lk pu fa (upd he i (nI j)) n nv du ta w mp mi k nt fu re)) := hD
  have hS := hS9
  rw [show r9 = he i from hw9]
  refine lv_i2l hx hb dL_setHeir_8 rfl ?_
  refine w_last hC hJ hP hD hS dL_setHeir_9 (fun H locs hP hD hS => ?_)
  refine lv_goto (tgt := 25) hx hb dL_setHeir_10 (by decide) ?_
  refine lv_iconst (v := 0) hx hb dL_setHeir_25 (by decide) ?_
  exact W.iret (v := 0) hx hb hr (fun t ht hW => ⟨⟨0, _, rfl, ⟨rfl, (show vp_updL g 0 _ 0 = _ from if_pos rfl)⟩, by rw [ht]; exact hP, hD⟩, hS.F ht⟩) hS.2.2 dL_setHeir_26
set_option maxHeartbeats 4000000 in
set_option maxRecDepth 100000 in
theorem w_buyFate (l : Launch) (sz : Nat) {D : va_G} {z : ClassId × ClassId} {a : Nat → Nat} {lv lk pu fa he : Nat → Int32} {n : Nat} {nv du ta : Nat → Int32} {w : Nat} {mp mi : Nat → Int32} {k : Nat} {nt fu re : Int32} {o : Nat} {cJ : ClassId} {g : Nat → Int64} (i : Nat) (hi : i < n) (hn : n ≤ 10) (ha : ¬ lv i = 0) (hf : fa i < 9) (hp : sp_price (lk i) ≤ pu i) : Met l yL_buyFate (wsH_ yL_buyFate cL_buyFate 4 (some .int) [(0, 9, 12, 24), (0, 9, 15, 15)]) ({ frames := 3, cells := 0, slots := 0, locals := 64 } : Room) (va_Pc [.ref (a 0), .int (nI i), .ref o] (fun U => U.heap.size = sz ∧ va_P D vwCl (oW o cJ g (xW z a lv lk pu fa he n nv du ta w mp mi k nt fu re)) U.heap ∧ kK D z U ∧ kJ D cJ U ∧ va_D (fun _ => True) (oW o cJ g (xW z a lv lk pu fa he n nv du ta w mp mi k nt fu re)))) (va_Qi (fun (r : Int32) (u : Nat → Int64) => r = 0 ∧ u 0 = (sp_price (lk i)).toInt64) (fun u t9 => va_P D vwCl (oW o cJ u (xW z a lv lk (upd pu i (pu i - sp_price (lk i))) (upd fa i (fa i + 1)) he n nv du ta w mp mi k nt (fu + sp_price (lk i)) re)) t9.heap ∧ va_D (va_A (oW o cJ g (xW z a lv lk pu fa he n nv du ta w mp mi k nt fu re)) sz) (oW o cJ u (xW z a lv lk (upd pu i (pu i - sp_price (lk i))) (upd fa i (fa i + 1)) he n nv du ta w mp mi k nt (fu + sp_price (lk i)) re))) (va_A (oW o cJ g (xW z a lv lk pu fa he n nv du ta w mp mi k nt fu re)) sz)) 0 0 (va_A (oW o cJ g (xW z a lv lk pu fa he n nv du ta w mp mi k nt fu re)) sz) := by
  refine va_MetW (hh := [(0, 9, 12, 24), (0, 9, 15, 15)]) (cc := cL_buyFate) (maxL := 4) (ret := (some .int)) (by decide) rfl ?_
  intro p e s m args below meth c s₁ B hml hv
  obtain ⟨rfl, hsz, hP, hK, hJ, hD0⟩ := hv
  have hx := B.exec
  have hb := B.bytes
  have hr := B.returns
  have hts0 := atoms_spec (ws := wsH_ yL_buyFate cL_buyFate 4 (some .int) [(0, 9, 12, 24), (0, 9, 15, 15)]) B.pre
  have hts : ∀ w ∈ lw_all, w.before _ s = true := fun w h => hts0 w (List.mem_cons_of_mem _ h)
  have hown : s.vm.findClass RL = some m.cls := findClass_of_methodNamed B.named
  have hlocks := B.notSynchronized
  have hC : CallFix p m c cL_buyFate 4 s _ lw_all RL := ⟨hx, hb, hml, hown, hts⟩
  subst hsz
  have hD := hD0.self (sz := s.heap.size)
  generalize hAe : va_A (oW o cJ g (xW z a lv lk pu fa he n nv du ta w mp mi k nt fu re)) s.heap.size = A at hD ⊢
  have hA : ∀ q : Nat, s.heap.size ≤ q → A q := fun q h => by rw [← hAe]; exact Or.inr h
  have hS : va_S A s.heap s.heap [] := va_S.rf
  have hl := lv_entry ([.ref (a 0), .int (nI i), .ref o]) (n := 4) (Nat.le_of_ble_eq_true rfl)
  rw [lg_entry_eq]
  generalize (lg_sl ([.ref (a 0), .int (nI i), .ref o]) ++ List.replicate (4 - (lg_sl ([.ref (a 0), .int (nI i), .ref o])).length) Slot.unset).toArray = ls at hl ⊢
  have hl : lv_has ls 4 [(0, .ref (a 0)), (1, .int (nI i)), (2, .ref o)] := hl
  refine lv_aload_n hx hb dL_buyFate_0 rfl (lv_at hl 2 rfl) ?_
  refine lv_iconst (v := 0) hx hb dL_buyFate_1 (by decide) ?_
  refine lv_aload_n hx hb dL_buyFate_2 rfl (lv_at hl 0 rfl) ?_
  refine lv_iload_n hx hb dL_buyFate_3 rfl (lv_at hl 1 rfl) ?_
  have hPX := wj_Pr hP
  have hF := wj_Fr hD hS hA
  refine va_calli (va_runV (As := [.int (nI i)]) (rest := [.int 0, .ref o]) hC (c_X0_buyFate l s.heap.size i hi hn ha hf hp) (cwV 1 hC.2.2.2.2 (gi_V mM_L_26 mV_X0_buyFate mS_X0_buyFate mI_MissRegistry mC_X0_buyFate) rfl rfl rfl (by decide +kernel) ⟨Nat.le_of_ble_eq_true rfl, Nat.le_of_ble_eq_true rfl⟩) ⟨fun a1 U g mk q => ⟨q.1, q.2.1, ⟨q.2.2.1.1, va_K.moved (u := U) (U := U.calling g mk a1) (Vm.Alike.refl U.vm) q.2.2.1.2⟩, q.2.2.2⟩, va_recv hK hPX (ci := 0) (q0 := 0) rfl rfl, fun U hU hW => ⟨rfl, by rw [hU], ⟨by rw [hU]; exact hPX, va_K.moved hW.alike hK⟩, (wj_Dr hD).weaken (fun _ _ _ _ => trivial)⟩⟩ rfl rfl hl.1 rfl (lv_room (Nat.le_of_ble_eq_true rfl)) dL_buyFate_4 ⟨Nat.le_of_ble_eq_true rfl, Nat.le_of_ble_eq_true rfl⟩) hS (fun q _ h => hF q h) hF (fun r9 u9 t H locs ht hvm hw9 hB hz9 hk9 hS9 => ?_)
  obtain ⟨hP1, hK1, hD1⟩ := hB
  rw [ht] at hP1
  obtain ⟨hP, hD⟩ := wj_r hP hD hk9 hF hP1 hD1
  have hP : va_P D vwCl (oW o cJ g (xW z a lv lk (upd pu i (pu i - sp_price (lk i))) (upd fa i (fa i + 1)) he n nv du ta w mp mi k nt (fu + sp_price (lk i)) re)) H := hP
  have hD : va_D A (oW o cJ g (xW z a lv lk (upd pu i (pu i - sp_price (lk i))) (upd fa i (fa i + 1)) he n nv du ta w mp mi k nt (fu + sp_price (lk i)) re)) := hD
  have hS := hS9
  rw [show r9 = sp_price (lk i) from hw9]
  refine lv_i2l hx hb dL_buyFate_7 rfl ?_
  refine w_last hC hJ hP hD hS dL_buyFate_8 (fun H locs hP hD hS => ?_)
  refine lv_goto (tgt := 18) hx hb dL_buyFate_9 (by decide) ?_
  refine lv_iconst (v := 0) hx hb dL_buyFate_18 (by decide) ?_
  exact W.iret (v := 0) hx hb hr (fun t ht hW => ⟨⟨0, _, rfl, ⟨rfl, (show vp_updL g 0 _ 0 = _ from if_pos rfl)⟩, by rw [ht]; exact hP, hD⟩, hS.F ht⟩) hS.2.2 dL_buyFate_19
set_option maxHeartbeats 4000000 in
set_option maxRecDepth 100000 in
theorem w_turnDuty (l : Launch) (sz : Nat) {D : va_G} {z : ClassId × ClassId} {a : Nat → Nat} {lv lk pu fa he : Nat → Int32} {n : Nat} {nv du ta : Nat → Int32} {w : Nat} {mp mi : Nat → Int32} {k : Nat} {nt fu re : Int32} {o : Nat} {cJ : ClassId} {g : Nat → Int64} (i : Nat) (hi : i < w) (hw : w ≤ 6) : Met l yL_turnDuty (wsH_ yL_turnDuty cL_turnDuty 4 (some .int) [(0, 16, 19, 24)]) ({ frames := 3, cells := 0, slots := 0, locals := 63 } : Room) (va_Pc [.ref (a 0), .int (nI i), .ref o] (fun U => U.heap.size = sz ∧ va_P D vwCl (oW o cJ g (xW z a lv lk pu fa he n nv du ta w mp mi k nt fu re)) U.heap ∧ kK D z U ∧ kJ D cJ U ∧ va_D (fun _ => True) (oW o cJ g (xW z a lv lk pu fa he n nv du ta w mp mi k nt fu re)))) (va_Qi (fun (r : Int32) (u : Nat → Int64) => r = 0 ∧ u 0 = b64 (sp_not (du i))) (fun u t9 => va_P D vwCl (oW o cJ u (xW z a lv lk pu fa he n nv (upd du i (sp_not (du i))) ta w mp mi k nt fu re)) t9.heap ∧ va_D (va_A (oW o cJ g (xW z a lv lk pu fa he n nv du ta w mp mi k nt fu re)) sz) (oW o cJ u (xW z a lv lk pu fa he n nv (upd du i (sp_not (du i))) ta w mp mi k nt fu re))) (va_A (oW o cJ g (xW z a lv lk pu fa he n nv du ta w mp mi k nt fu re)) sz)) 0 0 (va_A (oW o cJ g (xW z a lv lk pu fa he n nv du ta w mp mi k nt fu re)) sz) := by
  refine va_MetW (hh := [(0, 16, 19, 24)]) (cc := cL_turnDuty) (maxL := 4) (ret := (some .int)) (by decide) rfl ?_
  intro p e s m args below meth c s₁ B hml hv
  obtain ⟨rfl, hsz, hP, hK, hJ, hD0⟩ := hv
  have hx := B.exec
  have hb := B.bytes
  have hr := B.returns
  have hts0 := atoms_spec (ws := wsH_ yL_turnDuty cL_turnDuty 4 (some .int) [(0, 16, 19, 24)]) B.pre
  have hts : ∀ w ∈ lw_all, w.before _ s = true := fun w h => hts0 w (List.mem_cons_of_mem _ h)
  have hown : s.vm.findClass RL = some m.cls := findClass_of_methodNamed B.named
  have hlocks := B.notSynchronized
  have hC : CallFix p m c cL_turnDuty 4 s _ lw_all RL := ⟨hx, hb, hml, hown, hts⟩
  subst hsz
  have hD := hD0.self (sz := s.heap.size)
  generalize hAe : va_A (oW o cJ g (xW z a lv lk pu fa he n nv du ta w mp mi k nt fu re)) s.heap.size = A at hD ⊢
  have hA : ∀ q : Nat, s.heap.size ≤ q → A q := fun q h => by rw [← hAe]; exact Or.inr h
  have hS : va_S A s.heap s.heap [] := va_S.rf
  have hl := lv_entry ([.ref (a 0), .int (nI i), .ref o]) (n := 4) (Nat.le_of_ble_eq_true rfl)
  rw [lg_entry_eq]
  generalize (lg_sl ([.ref (a 0), .int (nI i), .ref o]) ++ List.replicate (4 - (lg_sl ([.ref (a 0), .int (nI i), .ref o])).length) Slot.unset).toArray = ls at hl ⊢
  have hl : lv_has ls 4 [(0, .ref (a 0)), (1, .int (nI i)), (2, .ref o)] := hl
  refine lv_aload_n hx hb dL_turnDuty_0 rfl (lv_at hl 2 rfl) ?_
  refine lv_iconst (v := 0) hx hb dL_turnDuty_1 (by decide) ?_
  refine lv_aload_n hx hb dL_turnDuty_2 rfl (lv_at hl 0 rfl) ?_
  refine lv_iload_n hx hb dL_turnDuty_3 rfl (lv_at hl 1 rfl) ?_
  have hPX := wj_Pr hP
  have hF := wj_Fr hD hS hA
  refine va_calli (va_runV (As := [.int (nI i)]) (rest := [.int 0, .ref o]) hC (c_X0_turnDuty l s.heap.size i hi hw) (cwV 1 hC.2.2.2.2 (gi_V mM_L_29 mV_X0_turnDuty mS_X0_turnDuty mI_MissRegistry mC_X0_turnDuty) rfl rfl rfl (by decide +kernel) ⟨Nat.le_of_ble_eq_true rfl, Nat.le_of_ble_eq_true rfl⟩) ⟨fun a1 U g mk q => ⟨q.1, q.2.1, ⟨q.2.2.1.1, va_K.moved (u := U) (U := U.calling g mk a1) (Vm.Alike.refl U.vm) q.2.2.1.2⟩, q.2.2.2⟩, va_recv hK hPX (ci := 0) (q0 := 0) rfl rfl, fun U hU hW => ⟨rfl, by rw [hU], ⟨by rw [hU]; exact hPX, va_K.moved hW.alike hK⟩, (wj_Dr hD).weaken (fun _ _ _ _ => trivial)⟩⟩ rfl rfl hl.1 rfl (lv_room (Nat.le_of_ble_eq_true rfl)) dL_turnDuty_4 ⟨Nat.le_of_ble_eq_true rfl, Nat.le_of_ble_eq_true rfl⟩) hS (fun q _ h => hF q h) hF (fun r9 u9 t H locs ht hvm hw9 hB hz9 hk9 hS9 => ?_)
  obtain ⟨hP1, hK1, hD1⟩ := hB
  rw [ht] at hP1
  obtain ⟨hP, hD⟩ := wj_r hP hD hk9 hF hP1 hD1
  have hP : va_P D vwCl (oW o cJ g (xW z a lv lk pu fa he n nv (upd du i (sp_not (du i))) ta w mp mi k nt fu re)) H := hP
  have hD : va_D A (oW o cJ g (xW z a lv lk pu fa he n nv (upd du i (sp_not (du i))) ta w mp mi k nt fu re)) := hD
  have hS := hS9
  rw [show r9 = sp_not (du i) from hw9]
  refine lv_if_eq (tgt := 14) hx hb dL_turnDuty_7 (by decide) (fun c_7 => ?_) (fun c_7 => ?_)
  · refine lv_lconst (v := 0) hx hb dL_turnDuty_14 rfl ?_
    refine w_last hC hJ hP hD hS dL_turnDuty_15 (fun H locs hP hD hS => ?_)
    refine lv_goto (tgt := 22) hx hb dL_turnDuty_16 (by decide) ?_
    refine lv_iconst (v := 0) hx hb dL_turnDuty_22 (by decide) ?_
    exact W.iret (v := 0) hx hb hr (fun t ht hW => ⟨⟨0, _, rfl, ⟨rfl, ((show vp_updL g 0 _ 0 = _ from if_pos rfl).trans (show _ = b64 _ by unfold b64; rw [if_pos c_7]))⟩, by rw [ht]; exact hP, hD⟩, hS.F ht⟩) hS.2.2 dL_turnDuty_23
  · refine lv_lconst (v := 1) hx hb dL_turnDuty_10 rfl ?_
    refine lv_goto (tgt := 15) hx hb dL_turnDuty_11 (by decide) ?_
    refine w_last hC hJ hP hD hS dL_turnDuty_15 (fun H locs hP hD hS => ?_)
    refine lv_goto (tgt := 22) hx hb dL_turnDuty_16 (by decide) ?_
    refine lv_iconst (v := 0) hx hb dL_turnDuty_22 (by decide) ?_
    exact W.iret (v := 0) hx hb hr (fun t ht hW => ⟨⟨0, _, rfl, ⟨rfl, ((show vp_updL g 0 _ 0 = _ from if_pos rfl).trans (show _ = b64 _ by unfold b64; rw [if_neg c_7]))⟩, by rw [ht]; exact hP, hD⟩, hS.F ht⟩) hS.2.2 dL_turnDuty_23
set_option maxHeartbeats 4000000 in
set_option maxRecDepth 100000 in
theorem w_miss (l : Launch) (sz : Nat) {D : va_G} {z : ClassId × ClassId} {a : Nat → Nat} {lv lk pu fa he : Nat → Int32} {n : Nat} {nv du ta : Nat → Int32} {w : Nat} {mp mi : Nat → Int32} {k : Nat} {nt fu re : Int32} {o : Nat} {cJ : ClassId} {g : Nat → Int64} (i : Nat) (b : Int32) (hi : i < n) (hn : n ≤ 10) (hw : w ≤ 6) (hk : k < 60) (h1 : ¬ b < 1) (h2 : b ≤ 60) (ha : ¬ lv i = 0) : Met l yL_miss (wsH_ yL_miss cL_miss 5 (some .int) [(0, 10, 13, 24), (0, 10, 17, 13), (0, 10, 21, 15)]) ({ frames := 4, cells := 0, slots := 0, locals := 90 } : Room) (va_Pc [.ref (a 0), .int (nI i), .int b, .ref o] (fun U => U.heap.size = sz ∧ va_P D vwCl (oW o cJ g (xW z a lv lk pu fa he n nv du ta w mp mi k nt fu re)) U.heap ∧ kK D z U ∧ kJ D cJ U ∧ va_D (fun _ => True) (oW o cJ g (xW z a lv lk pu fa he n nv du ta w mp mi k nt fu re)))) (va_Qi (fun (r : Int32) (u : Nat → Int64) => r = 0 ∧ u 0 = (sp_mid du nv b ta w).toInt64) (fun u t9 => va_P D vwCl (oW o cJ u (xW z a lv (upd lk i (imax 0 (lk i - (60 - b) / 10))) (if sp_uses (lv i) (fa i) (sp_mid du nv b ta w) = 0 then pu else upd pu i (pu i + sp_coins (lv i) (fa i) (lk i) fu (sp_mid du nv b ta w))) (if sp_uses (lv i) (fa i) (sp_mid du nv b ta w) = 0 then fa else upd fa i (fa i - 1)) he n (sp_fr du (sp_loss b) nv w) du (sp_tarr du nv b ta w) w (upd mp k (nI i)) (upd mi k (sp_mid du nv b ta w)) (k + 1) nt (if sp_uses (lv i) (fa i) (sp_mid du nv b ta w) = 0 then fu else fu - sp_coins (lv i) (fa i) (lk i) fu (sp_mid du nv b ta w)) (if sp_uses (lv i) (fa i) (sp_mid du nv b ta w) = 0 then re else re + sp_coins (lv i) (fa i) (lk i) fu (sp_mid du nv b ta w)))) t9.heap ∧ va_D (va_A (oW o cJ g (xW z a lv lk pu fa he n nv du ta w mp mi k nt fu re)) sz) (oW o cJ u (xW z a lv (upd lk i (imax 0 (lk i - (60 - b) / 10))) (if sp_uses (lv i) (fa i) (sp_mid du nv b ta w) = 0 then pu else upd pu i (pu i + sp_coins (lv i) (fa i) (lk i) fu (sp_mid du nv b ta w))) (if sp_uses (lv i) (fa i) (sp_mid du nv b ta w) = 0 then fa else upd fa i (fa i - 1)) he n (sp_fr du (sp_loss b) nv w) du (sp_tarr du nv b ta w) w (upd mp k (nI i)) (upd mi k (sp_mid du nv b ta w)) (k + 1) nt (if sp_uses (lv i) (fa i) (sp_mid du nv b ta w) = 0 then fu else fu - sp_coins (lv i) (fa i) (lk i) fu (sp_mid du nv b ta w)) (if sp_uses (lv i) (fa i) (sp_mid du nv b ta w) = 0 then re else re + sp_coins (lv i) (fa i) (lk i) fu (sp_mid du nv b ta w))))) (va_A (oW o cJ g (xW z a lv lk pu fa he n nv du ta w mp mi k nt fu re)) sz)) 0 0 (va_A (oW o cJ g (xW z a lv lk pu fa he n nv du ta w mp mi k nt fu re)) sz) := by
  refine va_MetW (hh := [(0, 10, 13, 24), (0, 10, 17, 13), (0, 10, 21, 15)]) (cc := cL_miss) (maxL := 5) (ret := (some .int)) (by decide) rfl ?_
  intro p e s m args below meth c s₁ B hml hv
  obtain ⟨rfl, hsz, hP, hK, hJ, hD0⟩ := hv
  have hx := B.exec
  have hb := B.bytes
  have hr := B.returns
  have hts0 := atoms_spec (ws := wsH_ yL_miss cL_miss 5 (some .int) [(0, 10, 13, 24), (0, 10, 17, 13), (0, 10, 21, 15)]) B.pre
  have hts : ∀ w ∈ lw_all, w.before _ s = true := fun w h => hts0 w (List.mem_cons_of_mem _ h)
  have hown : s.vm.findClass RL = some m.cls := findClass_of_methodNamed B.named
  have hlocks := B.notSynchronized
  have hC : CallFix p m c cL_miss 5 s _ lw_all RL := ⟨hx, hb, hml, hown, hts⟩
  subst hsz
  have hD := hD0.self (sz := s.heap.size)
  generalize hAe : va_A (oW o cJ g (xW z a lv lk pu fa he n nv du ta w mp mi k nt fu re)) s.heap.size = A at hD ⊢
  have hA : ∀ q : Nat, s.heap.size ≤ q → A q := fun q h => by rw [← hAe]; exact Or.inr h
  have hS : va_S A s.heap s.heap [] := va_S.rf
  have hl := lv_entry ([.ref (a 0), .int (nI i), .int b, .ref o]) (n := 5) (Nat.le_of_ble_eq_true rfl)
  rw [lg_entry_eq]
  generalize (lg_sl ([.ref (a 0), .int (nI i), .int b, .ref o]) ++ List.replicate (5 - (lg_sl ([.ref (a 0), .int (nI i), .int b, .ref o])).length) Slot.unset).toArray = ls at hl ⊢
  have hl : lv_has ls 5 [(0, .ref (a 0)), (1, .int (nI i)), (2, .int b), (3, .ref o)] := hl
  refine lv_aload_n hx hb dL_miss_0 rfl (lv_at hl 3 rfl) ?_
  refine lv_iconst (v := 0) hx hb dL_miss_1 (by decide) ?_
  refine lv_aload_n hx hb dL_miss_2 rfl (lv_at hl 0 rfl) ?_
  refine lv_iload_n hx hb dL_miss_3 rfl (lv_at hl 1 rfl) ?_
  refine lv_iload_n hx hb dL_miss_4 rfl (lv_at hl 2 rfl) ?_
  have hPX := wj_Pr hP
  have hF := wj_Fr hD hS hA
  refine va_calli (va_runV (As := [.int (nI i), .int b]) (rest := [.int 0, .ref o]) hC (c_X0_miss l s.heap.size i b hi hn hw hk h1 h2 ha) (cwV 2 hC.2.2.2.2 (gi_V mM_L_33 mV_X0_miss mS_X0_miss mI_MissRegistry mC_X0_miss) rfl rfl rfl (by decide +kernel) ⟨Nat.le_of_ble_eq_true rfl, Nat.le_of_ble_eq_true rfl⟩) ⟨fun a1 U g mk q => ⟨q.1, q.2.1, ⟨q.2.2.1.1, va_K.moved (u := U) (U := U.calling g mk a1) (Vm.Alike.refl U.vm) q.2.2.1.2⟩, q.2.2.2⟩, va_recv hK hPX (ci := 0) (q0 := 0) rfl rfl, fun U hU hW => ⟨rfl, by rw [hU], ⟨by rw [hU]; exact hPX, va_K.moved hW.alike hK⟩, (wj_Dr hD).weaken (fun _ _ _ _ => trivial)⟩⟩ rfl rfl hl.1 rfl (lv_room (Nat.le_of_ble_eq_true rfl)) dL_miss_5 ⟨Nat.le_of_ble_eq_true rfl, Nat.le_of_ble_eq_true rfl⟩) hS (fun q _ h => hF q h) hF (fun r9 u9 t H locs ht hvm hw9 hB hz9 hk9 hS9 => ?_)
  obtain ⟨hP1, hK1, hD1⟩ := hB
  rw [ht] at hP1
  obtain ⟨hP, hD⟩ := wj_r hP hD hk9 hF hP1 hD1
  have hP : va_P D vwCl (oW o cJ g (xW z a lv (upd lk i (imax 0 (lk i - (60 - b) / 10))) (if sp_uses (lv i) (fa i) (sp_mid du nv b ta w) = 0 then pu else upd pu i (pu i + sp_coins (lv i) (fa i) (lk i) fu (sp_mid du nv b ta w))) (if sp_uses (lv i) (fa i) (sp_mid du nv b ta w) = 0 then fa else upd fa i (fa i - 1)) he n (sp_fr du (sp_loss b) nv w) du (sp_tarr du nv b ta w) w (upd mp k (nI i)) (upd mi k (sp_mid du nv b ta w)) (k + 1) nt (if sp_uses (lv i) (fa i) (sp_mid du nv b ta w) = 0 then fu else fu - sp_coins (lv i) (fa i) (lk i) fu (sp_mid du nv b ta w)) (if sp_uses (lv i) (fa i) (sp_mid du nv b ta w) = 0 then re else re + sp_coins (lv i) (fa i) (lk i) fu (sp_mid du nv b ta w)))) H := hP
  have hD : va_D A (oW o cJ g (xW z a lv (upd lk i (imax 0 (lk i - (60 - b) / 10))) (if sp_uses (lv i) (fa i) (sp_mid du nv b ta w) = 0 then pu else upd pu i (pu i + sp_coins (lv i) (fa i) (lk i) fu (sp_mid du nv b ta w))) (if sp_uses (lv i) (fa i) (sp_mid du nv b ta w) = 0 then fa else upd fa i (fa i - 1)) he n (sp_fr du (sp_loss b) nv w) du (sp_tarr du nv b ta w) w (upd mp k (nI i)) (upd mi k (sp_mid du nv b ta w)) (k + 1) nt (if sp_uses (lv i) (fa i) (sp_mid du nv b ta w) = 0 then fu else fu - sp_coins (lv i) (fa i) (lk i) fu (sp_mid du nv b ta w)) (if sp_uses (lv i) (fa i) (sp_mid du nv b ta w) = 0 then re else re + sp_coins (lv i) (fa i) (lk i) fu (sp_mid du nv b ta w)))) := hD
  have hS := hS9
  rw [show r9 = sp_mid du nv b ta w from hw9]
  refine lv_i2l hx hb dL_miss_8 rfl ?_
  refine w_last hC hJ hP hD hS dL_miss_9 (fun H locs hP hD hS => ?_)
  refine lv_goto (tgt := 25) hx hb dL_miss_10 (by decide) ?_
  refine lv_iconst (v := 0) hx hb dL_miss_25 (by decide) ?_
  exact W.iret (v := 0) hx hb hr (fun t ht hW => ⟨⟨0, _, rfl, ⟨rfl, (show vp_updL g 0 _ 0 = _ from if_pos rfl)⟩, by rw [ht]; exact hP, hD⟩, hS.F ht⟩) hS.2.2 dL_miss_26
set_option maxHeartbeats 4000000 in
set_option maxRecDepth 100000 in
theorem w_hit (l : Launch) (sz : Nat) {D : va_G} {z : ClassId × ClassId} {a : Nat → Nat} {lv lk pu fa he : Nat → Int32} {n : Nat} {nv du ta : Nat → Int32} {w : Nat} {mp mi : Nat → Int32} {k : Nat} {nt fu re : Int32} {o : Nat} {cJ : ClassId} {g : Nat → Int64} (i : Nat) (hi : i < n) (hn : n ≤ 10) (ha : ¬ lv i = 0) : Met l yL_hit (wsH_ yL_hit cL_hit 4 (some .int) [(0, 9, 12, 24), (0, 9, 15, 15)]) ({ frames := 3, cells := 0, slots := 0, locals := 66 } : Room) (va_Pc [.ref (a 0), .int (nI i), .ref o] (fun U => U.heap.size = sz ∧ va_P D vwCl (oW o cJ g (xW z a lv lk pu fa he n nv du ta w mp mi k nt fu re)) U.heap ∧ kK D z U ∧ kJ D cJ U ∧ va_D (fun _ => True) (oW o cJ g (xW z a lv lk pu fa he n nv du ta w mp mi k nt fu re)))) (va_Qi (fun (r : Int32) (u : Nat → Int64) => r = 0 ∧ u 0 = (sp_heir he (upd lv i 0) n i n (he i)).toInt64) (fun u t9 => va_P D vwCl (oW o cJ u (xW z a (upd lv i 0) (if sp_isP n (sp_heir he (upd lv i 0) n i n (he i)) = 0 then lk else upd lk (sp_heir he (upd lv i 0) n i n (he i)).toNatClampNeg (imin 99 (lk (sp_heir he (upd lv i 0) n i n (he i)).toNatClampNeg + lk i / 2))) (upd (if sp_isP n (sp_heir he (upd lv i 0) n i n (he i)) = 0 then pu else upd pu (sp_heir he (upd lv i 0) n i n (he i)).toNatClampNeg (pu (sp_heir he (upd lv i 0) n i n (he i)).toNatClampNeg + pu i)) i 0) (upd fa i 0) he n nv du ta w mp mi k nt (if sp_isP n (sp_heir he (upd lv i 0) n i n (he i)) = 0 then fu + pu i else fu) re)) t9.heap ∧ va_D (va_A (oW o cJ g (xW z a lv lk pu fa he n nv du ta w mp mi k nt fu re)) sz) (oW o cJ u (xW z a (upd lv i 0) (if sp_isP n (sp_heir he (upd lv i 0) n i n (he i)) = 0 then lk else upd lk (sp_heir he (upd lv i 0) n i n (he i)).toNatClampNeg (imin 99 (lk (sp_heir he (upd lv i 0) n i n (he i)).toNatClampNeg + lk i / 2))) (upd (if sp_isP n (sp_heir he (upd lv i 0) n i n (he i)) = 0 then pu else upd pu (sp_heir he (upd lv i 0) n i n (he i)).toNatClampNeg (pu (sp_heir he (upd lv i 0) n i n (he i)).toNatClampNeg + pu i)) i 0) (upd fa i 0) he n nv du ta w mp mi k nt (if sp_isP n (sp_heir he (upd lv i 0) n i n (he i)) = 0 then fu + pu i else fu) re))) (va_A (oW o cJ g (xW z a lv lk pu fa he n nv du ta w mp mi k nt fu re)) sz)) 0 0 (va_A (oW o cJ g (xW z a lv lk pu fa he n nv du ta w mp mi k nt fu re)) sz) := by
  refine va_MetW (hh := [(0, 9, 12, 24), (0, 9, 15, 15)]) (cc := cL_hit) (maxL := 4) (ret := (some .int)) (by decide) rfl ?_
  intro p e s m args below meth c s₁ B hml hv
  obtain ⟨rfl, hsz, hP, hK, hJ, hD0⟩ := hv
  have hx := B.exec
  have hb := B.bytes
  have hr := B.returns
  have hts0 := atoms_spec (ws := wsH_ yL_hit cL_hit 4 (some .int) [(0, 9, 12, 24), (0, 9, 15, 15)]) B.pre
  have hts : ∀ w ∈ lw_all, w.before _ s = true := fun w h => hts0 w (List.mem_cons_of_mem _ h)
  have hown : s.vm.findClass RL = some m.cls := findClass_of_methodNamed B.named
  have hlocks := B.notSynchronized
  have hC : CallFix p m c cL_hit 4 s _ lw_all RL := ⟨hx, hb, hml, hown, hts⟩
  subst hsz
  have hD := hD0.self (sz := s.heap.size)
  generalize hAe : va_A (oW o cJ g (xW z a lv lk pu fa he n nv du ta w mp mi k nt fu re)) s.heap.size = A at hD ⊢
  have hA : ∀ q : Nat, s.heap.size ≤ q → A q := fun q h => by rw [← hAe]; exact Or.inr h
  have hS : va_S A s.heap s.heap [] := va_S.rf
  have hl := lv_entry ([.ref (a 0), .int (nI i), .ref o]) (n := 4) (Nat.le_of_ble_eq_true rfl)
  rw [lg_entry_eq]
  generalize (lg_sl ([.ref (a 0), .int (nI i), .ref o]) ++ List.replicate (4 - (lg_sl ([.ref (a 0), .int (nI i), .ref o])).length) Slot.unset).toArray = ls at hl ⊢
  have hl : lv_has ls 4 [(0, .ref (a 0)), (1, .int (nI i)), (2, .ref o)] := hl
  refine lv_aload_n hx hb dL_hit_0 rfl (lv_at hl 2 rfl) ?_
  refine lv_iconst (v := 0) hx hb dL_hit_1 (by decide) ?_
  refine lv_aload_n hx hb dL_hit_2 rfl (lv_at hl 0 rfl) ?_
  refine lv_iload_n hx hb dL_hit_3 rfl (lv_at hl 1 rfl) ?_
  have hPX := wj_Pr hP
  have hF := wj_Fr hD hS hA
  refine va_calli (va_runV (As := [.int (nI i)]) (rest := [.int 0, .ref o]) hC (c_X0_hit l s.heap.size i hi hn ha) (cwV 1 hC.2.2.2.2 (gi_V mM_L_36 mV_X0_hit mS_X0_hit mI_MissRegistry mC_X0_hit) rfl rfl rfl (by decide +kernel) ⟨Nat.le_of_ble_eq_true rfl, Nat.le_of_ble_eq_true rfl⟩) ⟨fun a1 U g mk q => ⟨q.1, q.2.1, ⟨q.2.2.1.1, va_K.moved (u := U) (U := U.calling g mk a1) (Vm.Alike.refl U.vm) q.2.2.1.2⟩, q.2.2.2⟩, va_recv hK hPX (ci := 0) (q0 := 0) rfl rfl, fun U hU hW => ⟨rfl, by rw [hU], ⟨by rw [hU]; exact hPX, va_K.moved hW.alike hK⟩, (wj_Dr hD).weaken (fun _ _ _ _ => trivial)⟩⟩ rfl rfl hl.1 rfl (lv_room (Nat.le_of_ble_eq_true rfl)) dL_hit_4 ⟨Nat.le_of_ble_eq_true rfl, Nat.le_of_ble_eq_true rfl⟩) hS (fun q _ h => hF q h) hF (fun r9 u9 t H locs ht hvm hw9 hB hz9 hk9 hS9 => ?_)
  obtain ⟨hP1, hK1, hD1⟩ := hB
  rw [ht] at hP1
  obtain ⟨hP, hD⟩ := wj_r hP hD hk9 hF hP1 hD1
  have hP : va_P D vwCl (oW o cJ g (xW z a (upd lv i 0) (if sp_isP n (sp_heir he (upd lv i 0) n i n (he i)) = 0 then lk else upd lk (sp_heir he (upd lv i 0) n i n (he i)).toNatClampNeg (imin 99 (lk (sp_heir he (upd lv i 0) n i n (he i)).toNatClampNeg + lk i / 2))) (upd (if sp_isP n (sp_heir he (upd lv i 0) n i n (he i)) = 0 then pu else upd pu (sp_heir he (upd lv i 0) n i n (he i)).toNatClampNeg (pu (sp_heir he (upd lv i 0) n i n (he i)).toNatClampNeg + pu i)) i 0) (upd fa i 0) he n nv du ta w mp mi k nt (if sp_isP n (sp_heir he (upd lv i 0) n i n (he i)) = 0 then fu + pu i else fu) re)) H := hP
  have hD : va_D A (oW o cJ g (xW z a (upd lv i 0) (if sp_isP n (sp_heir he (upd lv i 0) n i n (he i)) = 0 then lk else upd lk (sp_heir he (upd lv i 0) n i n (he i)).toNatClampNeg (imin 99 (lk (sp_heir he (upd lv i 0) n i n (he i)).toNatClampNeg + lk i / 2))) (upd (if sp_isP n (sp_heir he (upd lv i 0) n i n (he i)) = 0 then pu else upd pu (sp_heir he (upd lv i 0) n i n (he i)).toNatClampNeg (pu (sp_heir he (upd lv i 0) n i n (he i)).toNatClampNeg + pu i)) i 0) (upd fa i 0) he n nv du ta w mp mi k nt (if sp_isP n (sp_heir he (upd lv i 0) n i n (he i)) = 0 then fu + pu i else fu) re)) := hD
  have hS := hS9
  rw [show r9 = sp_heir he (upd lv i 0) n i n (he i) from hw9]
  refine lv_i2l hx hb dL_hit_7 rfl ?_
  refine w_last hC hJ hP hD hS dL_hit_8 (fun H locs hP hD hS => ?_)
  refine lv_goto (tgt := 18) hx hb dL_hit_9 (by decide) ?_
  refine lv_iconst (v := 0) hx hb dL_hit_18 (by decide) ?_
  exact W.iret (v := 0) hx hb hr (fun t ht hW => ⟨⟨0, _, rfl, ⟨rfl, (show vp_updL g 0 _ 0 = _ from if_pos rfl)⟩, by rw [ht]; exact hP, hD⟩, hS.F ht⟩) hS.2.2 dL_hit_19
set_option maxHeartbeats 4000000 in
set_option maxRecDepth 100000 in
theorem w_pass (l : Launch) (sz : Nat) {D : va_G} {z : ClassId × ClassId} {a : Nat → Nat} {lv lk pu fa he : Nat → Int32} {n : Nat} {nv du ta : Nat → Int32} {w : Nat} {mp mi : Nat → Int32} {k : Nat} {nt fu re : Int32} {o : Nat} {cJ : ClassId} {g : Nat → Int64} (tn : Nat) (h1 : 1 ≤ tn) (h2 : tn ≤ 30) (hn : n ≤ 10) (hw : w ≤ 6) : Met l yL_pass (wsH_ yL_pass cL_pass 4 (some .int) [(0, 9, 12, 13)]) ({ frames := 3, cells := 0, slots := 0, locals := 65 } : Room) (va_Pc [.ref (a 0), .int (nI tn), .ref o] (fun U => U.heap.size = sz ∧ va_P D vwCl (oW o cJ g (xW z a lv lk pu fa he n nv du ta w mp mi k nt fu re)) U.heap ∧ kK D z U ∧ kJ D cJ U ∧ va_D (fun _ => True) (oW o cJ g (xW z a lv lk pu fa he n nv du ta w mp mi k nt fu re)))) (va_Qi (fun (r : Int32) (u : Nat → Int64) => r = 0 ∧ u 0 = (sp_shk (sp_pn du w nv tn) w).toInt64) (fun u t9 => va_P D vwCl (oW o cJ u (xW z a lv (sp_pl lv n lk tn) pu fa he n (sp_pn du w nv tn) du ta w mp mi k (nt + nI tn) fu re)) t9.heap ∧ va_D (va_A (oW o cJ g (xW z a lv lk pu fa he n nv du ta w mp mi k nt fu re)) sz) (oW o cJ u (xW z a lv (sp_pl lv n lk tn) pu fa he n (sp_pn du w nv tn) du ta w mp mi k (nt + nI tn) fu re))) (va_A (oW o cJ g (xW z a lv lk pu fa he n nv du ta w mp mi k nt fu re)) sz)) 0 0 (va_A (oW o cJ g (xW z a lv lk pu fa he n nv du ta w mp mi k nt fu re)) sz) := by
  refine va_MetW (hh := [(0, 9, 12, 13)]) (cc := cL_pass) (maxL := 4) (ret := (some .int)) (by decide) rfl ?_
  intro p e s m args below meth c s₁ B hml hv
  obtain ⟨rfl, hsz, hP, hK, hJ, hD0⟩ := hv
  have hx := B.exec
  have hb := B.bytes
  have hr := B.returns
  have hts0 := atoms_spec (ws := wsH_ yL_pass cL_pass 4 (some .int) [(0, 9, 12, 13)]) B.pre
  have hts : ∀ w ∈ lw_all, w.before _ s = true := fun w h => hts0 w (List.mem_cons_of_mem _ h)
  have hown : s.vm.findClass RL = some m.cls := findClass_of_methodNamed B.named
  have hlocks := B.notSynchronized
  have hC : CallFix p m c cL_pass 4 s _ lw_all RL := ⟨hx, hb, hml, hown, hts⟩
  subst hsz
  have hD := hD0.self (sz := s.heap.size)
  generalize hAe : va_A (oW o cJ g (xW z a lv lk pu fa he n nv du ta w mp mi k nt fu re)) s.heap.size = A at hD ⊢
  have hA : ∀ q : Nat, s.heap.size ≤ q → A q := fun q h => by rw [← hAe]; exact Or.inr h
  have hS : va_S A s.heap s.heap [] := va_S.rf
  have hl := lv_entry ([.ref (a 0), .int (nI tn), .ref o]) (n := 4) (Nat.le_of_ble_eq_true rfl)
  rw [lg_entry_eq]
  generalize (lg_sl ([.ref (a 0), .int (nI tn), .ref o]) ++ List.replicate (4 - (lg_sl ([.ref (a 0), .int (nI tn), .ref o])).length) Slot.unset).toArray = ls at hl ⊢
  have hl : lv_has ls 4 [(0, .ref (a 0)), (1, .int (nI tn)), (2, .ref o)] := hl
  refine lv_aload_n hx hb dL_pass_0 rfl (lv_at hl 2 rfl) ?_
  refine lv_iconst (v := 0) hx hb dL_pass_1 (by decide) ?_
  refine lv_aload_n hx hb dL_pass_2 rfl (lv_at hl 0 rfl) ?_
  refine lv_iload_n hx hb dL_pass_3 rfl (lv_at hl 1 rfl) ?_
  have hPX := wj_Pr hP
  have hF := wj_Fr hD hS hA
  refine va_calli (va_runV (As := [.int (nI tn)]) (rest := [.int 0, .ref o]) hC (c_X0_pass l s.heap.size tn h1 h2 hn hw) (cwV 1 hC.2.2.2.2 (gi_V mM_L_39 mV_X0_pass mS_X0_pass mI_MissRegistry mC_X0_pass) rfl rfl rfl (by decide +kernel) ⟨Nat.le_of_ble_eq_true rfl, Nat.le_of_ble_eq_true rfl⟩) ⟨fun a1 U g mk q => ⟨q.1, q.2.1, ⟨q.2.2.1.1, va_K.moved (u := U) (U := U.calling g mk a1) (Vm.Alike.refl U.vm) q.2.2.1.2⟩, q.2.2.2⟩, va_recv hK hPX (ci := 0) (q0 := 0) rfl rfl, fun U hU hW => ⟨rfl, by rw [hU], ⟨by rw [hU]; exact hPX, va_K.moved hW.alike hK⟩, (wj_Dr hD).weaken (fun _ _ _ _ => trivial)⟩⟩ rfl rfl hl.1 rfl (lv_room (Nat.le_of_ble_eq_true rfl)) dL_pass_4 ⟨Nat.le_of_ble_eq_true rfl, Nat.le_of_ble_eq_true rfl⟩) hS (fun q _ h => hF q h) hF (fun r9 u9 t H locs ht hvm hw9 hB hz9 hk9 hS9 => ?_)
  obtain ⟨hP1, hK1, hD1⟩ := hB
  rw [ht] at hP1
  obtain ⟨hP, hD⟩ := wj_r hP hD hk9 hF hP1 hD1
  have hP : va_P D vwCl (oW o cJ g (xW z a lv (sp_pl lv n lk tn) pu fa he n (sp_pn du w nv tn) du ta w mp mi k (nt + nI tn) fu re)) H := hP
  have hD : va_D A (oW o cJ g (xW z a lv (sp_pl lv n lk tn) pu fa he n (sp_pn du w nv tn) du ta w mp mi k (nt + nI tn) fu re)) := hD
  have hS := hS9
  rw [show r9 = sp_shk (sp_pn du w nv tn) w from hw9]
  refine lv_i2l hx hb dL_pass_7 rfl ?_
  refine w_last hC hJ hP hD hS dL_pass_8 (fun H locs hP hD hS => ?_)
  refine lv_goto (tgt := 15) hx hb dL_pass_9 (by decide) ?_
  refine lv_iconst (v := 0) hx hb dL_pass_15 (by decide) ?_
  exact W.iret (v := 0) hx hb hr (fun t ht hW => ⟨⟨0, _, rfl, ⟨rfl, (show vp_updL g 0 _ 0 = _ from if_pos rfl)⟩, by rw [ht]; exact hP, hD⟩, hS.F ht⟩) hS.2.2 dL_pass_16
set_option maxHeartbeats 4000000 in
set_option maxRecDepth 100000 in
theorem w_isAlive (l : Launch) (sz : Nat) {D : va_G} {z : ClassId × ClassId} {a : Nat → Nat} {lv lk pu fa he : Nat → Int32} {n : Nat} {nv du ta : Nat → Int32} {w : Nat} {mp mi : Nat → Int32} {k : Nat} {nt fu re : Int32} {o : Nat} {cJ : ClassId} {g : Nat → Int64} (i : Nat) (hi : i < n) (hn : n ≤ 10) (h01 : lv i = 0 ∨ lv i = 1) : Met l yL_isAlive (wsH_ yL_isAlive cL_isAlive 4 (some .int) [(0, 16, 19, 24)]) ({ frames := 3, cells := 0, slots := 0, locals := 63 } : Room) (va_Pc [.ref (a 0), .int (nI i), .ref o] (fun U => U.heap.size = sz ∧ va_P D vwCl (oW o cJ g (xW z a lv lk pu fa he n nv du ta w mp mi k nt fu re)) U.heap ∧ kK D z U ∧ kJ D cJ U ∧ va_D (fun _ => True) (oW o cJ g (xW z a lv lk pu fa he n nv du ta w mp mi k nt fu re)))) (va_Qi (fun (r : Int32) (u : Nat → Int64) => r = 0 ∧ u 0 = b64 (lv i)) (fun u t9 => va_P D vwCl (oW o cJ u (xW z a lv lk pu fa he n nv du ta w mp mi k nt fu re)) t9.heap ∧ va_D (va_A (oW o cJ g (xW z a lv lk pu fa he n nv du ta w mp mi k nt fu re)) sz) (oW o cJ u (xW z a lv lk pu fa he n nv du ta w mp mi k nt fu re))) (va_A (oW o cJ g (xW z a lv lk pu fa he n nv du ta w mp mi k nt fu re)) sz)) 0 0 (va_A (oW o cJ g (xW z a lv lk pu fa he n nv du ta w mp mi k nt fu re)) sz) := by
  refine va_MetW (hh := [(0, 16, 19, 24)]) (cc := cL_isAlive) (maxL := 4) (ret := (some .int)) (by decide) rfl ?_
  intro p e s m args below meth c s₁ B hml hv
  obtain ⟨rfl, hsz, hP, hK, hJ, hD0⟩ := hv
  have hx := B.exec
  have hb := B.bytes
  have hr := B.returns
  have hts0 := atoms_spec (ws := wsH_ yL_isAlive cL_isAlive 4 (some .int) [(0, 16, 19, 24)]) B.pre
  have hts : ∀ w ∈ lw_all, w.before _ s = true := fun w h => hts0 w (List.mem_cons_of_mem _ h)
  have hown : s.vm.findClass RL = some m.cls := findClass_of_methodNamed B.named
  have hlocks := B.notSynchronized
  have hC : CallFix p m c cL_isAlive 4 s _ lw_all RL := ⟨hx, hb, hml, hown, hts⟩
  subst hsz
  have hD := hD0.self (sz := s.heap.size)
  generalize hAe : va_A (oW o cJ g (xW z a lv lk pu fa he n nv du ta w mp mi k nt fu re)) s.heap.size = A at hD ⊢
  have hA : ∀ q : Nat, s.heap.size ≤ q → A q := fun q h => by rw [← hAe]; exact Or.inr h
  have hS : va_S A s.heap s.heap [] := va_S.rf
  have hl := lv_entry ([.ref (a 0), .int (nI i), .ref o]) (n := 4) (Nat.le_of_ble_eq_true rfl)
  rw [lg_entry_eq]
  generalize (lg_sl ([.ref (a 0), .int (nI i), .ref o]) ++ List.replicate (4 - (lg_sl ([.ref (a 0), .int (nI i), .ref o])).length) Slot.unset).toArray = ls at hl ⊢
  have hl : lv_has ls 4 [(0, .ref (a 0)), (1, .int (nI i)), (2, .ref o)] := hl
  refine lv_aload_n hx hb dL_isAlive_0 rfl (lv_at hl 2 rfl) ?_
  refine lv_iconst (v := 0) hx hb dL_isAlive_1 (by decide) ?_
  refine lv_aload_n hx hb dL_isAlive_2 rfl (lv_at hl 0 rfl) ?_
  refine lv_iload_n hx hb dL_isAlive_3 rfl (lv_at hl 1 rfl) ?_
  have hPX := wj_Pr hP
  refine vp_callSi (W.runV (As := [.int (nI i)]) (rest := [.int 0, .ref o]) hC (c_X0_isAlive l i hi hn h01) (cwV 1 hC.2.2.2.2 (gi_V mM_L_42 mV_X0_isAlive mS_X0_isAlive mI_MissRegistry mC_X0_isAlive) rfl rfl rfl (by decide +kernel) ⟨Nat.le_of_ble_eq_true rfl, Nat.le_of_ble_eq_true rfl⟩) (xpre hK hPX) rfl rfl hl.1 rfl (lv_room (Nat.le_of_ble_eq_true rfl)) dL_isAlive_4 ⟨Nat.le_of_ble_eq_true rfl, Nat.le_of_ble_eq_true rfl⟩) (fun r9 hr9 => ?_)
  rw [show r9 = lv i from hr9]
  refine lv_if_eq (tgt := 14) hx hb dL_isAlive_7 (by decide) (fun c_7 => ?_) (fun c_7 => ?_)
  · refine lv_lconst (v := 0) hx hb dL_isAlive_14 rfl ?_
    refine w_last hC hJ hP hD hS dL_isAlive_15 (fun H locs hP hD hS => ?_)
    refine lv_goto (tgt := 22) hx hb dL_isAlive_16 (by decide) ?_
    refine lv_iconst (v := 0) hx hb dL_isAlive_22 (by decide) ?_
    exact W.iret (v := 0) hx hb hr (fun t ht hW => ⟨⟨0, _, rfl, ⟨rfl, ((show vp_updL g 0 _ 0 = _ from if_pos rfl).trans (show _ = b64 _ by unfold b64; rw [if_pos c_7]))⟩, by rw [ht]; exact hP, hD⟩, hS.F ht⟩) hS.2.2 dL_isAlive_23
  · refine lv_lconst (v := 1) hx hb dL_isAlive_10 rfl ?_
    refine lv_goto (tgt := 15) hx hb dL_isAlive_11 (by decide) ?_
    refine w_last hC hJ hP hD hS dL_isAlive_15 (fun H locs hP hD hS => ?_)
    refine lv_goto (tgt := 22) hx hb dL_isAlive_16 (by decide) ?_
    refine lv_iconst (v := 0) hx hb dL_isAlive_22 (by decide) ?_
    exact W.iret (v := 0) hx hb hr (fun t ht hW => ⟨⟨0, _, rfl, ⟨rfl, ((show vp_updL g 0 _ 0 = _ from if_pos rfl).trans (show _ = b64 _ by unfold b64; rw [if_neg c_7]))⟩, by rw [ht]; exact hP, hD⟩, hS.F ht⟩) hS.2.2 dL_isAlive_23
set_option maxHeartbeats 4000000 in
set_option maxRecDepth 100000 in
theorem w_luckOf (l : Launch) (sz : Nat) {D : va_G} {z : ClassId × ClassId} {a : Nat → Nat} {lv lk pu fa he : Nat → Int32} {n : Nat} {nv du ta : Nat → Int32} {w : Nat} {mp mi : Nat → Int32} {k : Nat} {nt fu re : Int32} {o : Nat} {cJ : ClassId} {g : Nat → Int64} (i : Nat) (hi : i < n) (hn : n ≤ 10) : Met l yL_luckOf (wsH_ yL_luckOf cL_luckOf 4 (some .int) [(0, 9, 12, 24)]) ({ frames := 3, cells := 0, slots := 0, locals := 63 } : Room) (va_Pc [.ref (a 0), .int (nI i), .ref o] (fun U => U.heap.size = sz ∧ va_P D vwCl (oW o cJ g (xW z a lv lk pu fa he n nv du ta w mp mi k nt fu re)) U.heap ∧ kK D z U ∧ kJ D cJ U ∧ va_D (fun _ => True) (oW o cJ g (xW z a lv lk pu fa he n nv du ta w mp mi k nt fu re)))) (va_Qi (fun (r : Int32) (u : Nat → Int64) => r = 0 ∧ u 0 = (lk i).toInt64) (fun u t9 => va_P D vwCl (oW o cJ u (xW z a lv lk pu fa he n nv du ta w mp mi k nt fu re)) t9.heap ∧ va_D (va_A (oW o cJ g (xW z a lv lk pu fa he n nv du ta w mp mi k nt fu re)) sz) (oW o cJ u (xW z a lv lk pu fa he n nv du ta w mp mi k nt fu re))) (va_A (oW o cJ g (xW z a lv lk pu fa he n nv du ta w mp mi k nt fu re)) sz)) 0 0 (va_A (oW o cJ g (xW z a lv lk pu fa he n nv du ta w mp mi k nt fu re)) sz) := by
  refine va_MetW (hh := [(0, 9, 12, 24)]) (cc := cL_luckOf) (maxL := 4) (ret := (some .int)) (by decide) rfl ?_
  intro p e s m args below meth c s₁ B hml hv
  obtain ⟨rfl, hsz, hP, hK, hJ, hD0⟩ := hv
  have hx := B.exec
  have hb := B.bytes
  have hr := B.returns
  have hts0 := atoms_spec (ws := wsH_ yL_luckOf cL_luckOf 4 (some .int) [(0, 9, 12, 24)]) B.pre
  have hts : ∀ w ∈ lw_all, w.before _ s = true := fun w h => hts0 w (List.mem_cons_of_mem _ h)
  have hown : s.vm.findClass RL = some m.cls := findClass_of_methodNamed B.named
  have hlocks := B.notSynchronized
  have hC : CallFix p m c cL_luckOf 4 s _ lw_all RL := ⟨hx, hb, hml, hown, hts⟩
  subst hsz
  have hD := hD0.self (sz := s.heap.size)
  generalize hAe : va_A (oW o cJ g (xW z a lv lk pu fa he n nv du ta w mp mi k nt fu re)) s.heap.size = A at hD ⊢
  have hA : ∀ q : Nat, s.heap.size ≤ q → A q := fun q h => by rw [← hAe]; exact Or.inr h
  have hS : va_S A s.heap s.heap [] := va_S.rf
  have hl := lv_entry ([.ref (a 0), .int (nI i), .ref o]) (n := 4) (Nat.le_of_ble_eq_true rfl)
  rw [lg_entry_eq]
  generalize (lg_sl ([.ref (a 0), .int (nI i), .ref o]) ++ List.replicate (4 - (lg_sl ([.ref (a 0), .int (nI i), .ref o])).length) Slot.unset).toArray = ls at hl ⊢
  have hl : lv_has ls 4 [(0, .ref (a 0)), (1, .int (nI i)), (2, .ref o)] := hl
  refine lv_aload_n hx hb dL_luckOf_0 rfl (lv_at hl 2 rfl) ?_
  refine lv_iconst (v := 0) hx hb dL_luckOf_1 (by decide) ?_
  refine lv_aload_n hx hb dL_luckOf_2 rfl (lv_at hl 0 rfl) ?_
  refine lv_iload_n hx hb dL_luckOf_3 rfl (lv_at hl 1 rfl) ?_
  have hPX := wj_Pr hP
  refine vp_callSi (W.runV (As := [.int (nI i)]) (rest := [.int 0, .ref o]) hC (c_X0_luckOf l i hi hn) (cwV 1 hC.2.2.2.2 (gi_V mM_L_45 mV_X0_luckOf mS_X0_luckOf mI_MissRegistry mC_X0_luckOf) rfl rfl rfl (by decide +kernel) ⟨Nat.le_of_ble_eq_true rfl, Nat.le_of_ble_eq_true rfl⟩) (xpre hK hPX) rfl rfl hl.1 rfl (lv_room (Nat.le_of_ble_eq_true rfl)) dL_luckOf_4 ⟨Nat.le_of_ble_eq_true rfl, Nat.le_of_ble_eq_true rfl⟩) (fun r9 hr9 => ?_)
  rw [show r9 = lk i from hr9]
  refine lv_i2l hx hb dL_luckOf_7 rfl ?_
  refine w_last hC hJ hP hD hS dL_luckOf_8 (fun H locs hP hD hS => ?_)
  refine lv_goto (tgt := 15) hx hb dL_luckOf_9 (by decide) ?_
  refine lv_iconst (v := 0) hx hb dL_luckOf_15 (by decide) ?_
  exact W.iret (v := 0) hx hb hr (fun t ht hW => ⟨⟨0, _, rfl, ⟨rfl, (show vp_updL g 0 _ 0 = _ from if_pos rfl)⟩, by rw [ht]; exact hP, hD⟩, hS.F ht⟩) hS.2.2 dL_luckOf_16
set_option maxHeartbeats 4000000 in
set_option maxRecDepth 100000 in
theorem w_purseOf (l : Launch) (sz : Nat) {D : va_G} {z : ClassId × ClassId} {a : Nat → Nat} {lv lk pu fa he : Nat → Int32} {n : Nat} {nv du ta : Nat → Int32} {w : Nat} {mp mi : Nat → Int32} {k : Nat} {nt fu re : Int32} {o : Nat} {cJ : ClassId} {g : Nat → Int64} (i : Nat) (hi : i < n) (hn : n ≤ 10) : Met l yL_purseOf (wsH_ yL_purseOf cL_purseOf 4 (some .int) [(0, 9, 12, 24)]) ({ frames := 3, cells := 0, slots := 0, locals := 63 } : Room) (va_Pc [.ref (a 0), .int (nI i), .ref o] (fun U => U.heap.size = sz ∧ va_P D vwCl (oW o cJ g (xW z a lv lk pu fa he n nv du ta w mp mi k nt fu re)) U.heap ∧ kK D z U ∧ kJ D cJ U ∧ va_D (fun _ => True) (oW o cJ g (xW z a lv lk pu fa he n nv du ta w mp mi k nt fu re)))) (va_Qi (fun (r : Int32) (u : Nat → Int64) => r = 0 ∧ u 0 = (pu i).toInt64) (fun u t9 => va_P D vwCl (oW o cJ u (xW z a lv lk pu fa he n nv du ta w mp mi k nt fu re)) t9.heap ∧ va_D (va_A (oW o cJ g (xW z a lv lk pu fa he n nv du ta w mp mi k nt fu re)) sz) (oW o cJ u (xW z a lv lk pu fa he n nv du ta w mp mi k nt fu re))) (va_A (oW o cJ g (xW z a lv lk pu fa he n nv du ta w mp mi k nt fu re)) sz)) 0 0 (va_A (oW o cJ g (xW z a lv lk pu fa he n nv du ta w mp mi k nt fu re)) sz) := by
  refine va_MetW (hh := [(0, 9, 12, 24)]) (cc := cL_purseOf) (maxL := 4) (ret := (some .int)) (by decide) rfl ?_
  intro p e s m args below meth c s₁ B hml hv
  obtain ⟨rfl, hsz, hP, hK, hJ, hD0⟩ := hv
  have hx := B.exec
  have hb := B.bytes
  have hr := B.returns
  have hts0 := atoms_spec (ws := wsH_ yL_purseOf cL_purseOf 4 (some .int) [(0, 9, 12, 24)]) B.pre
  have hts : ∀ w ∈ lw_all, w.before _ s = true := fun w h => hts0 w (List.mem_cons_of_mem _ h)
  have hown : s.vm.findClass RL = some m.cls := findClass_of_methodNamed B.named
  have hlocks := B.notSynchronized
  have hC : CallFix p m c cL_purseOf 4 s _ lw_all RL := ⟨hx, hb, hml, hown, hts⟩
  subst hsz
  have hD := hD0.self (sz := s.heap.size)
  generalize hAe : va_A (oW o cJ g (xW z a lv lk pu fa he n nv du ta w mp mi k nt fu re)) s.heap.size = A at hD ⊢
  have hA : ∀ q : Nat, s.heap.size ≤ q → A q := fun q h => by rw [← hAe]; exact Or.inr h
  have hS : va_S A s.heap s.heap [] := va_S.rf
  have hl := lv_entry ([.ref (a 0), .int (nI i), .ref o]) (n := 4) (Nat.le_of_ble_eq_true rfl)
  rw [lg_entry_eq]
  generalize (lg_sl ([.ref (a 0), .int (nI i), .ref o]) ++ List.replicate (4 - (lg_sl ([.ref (a 0), .int (nI i), .ref o])).length) Slot.unset).toArray = ls at hl ⊢
  have hl : lv_has ls 4 [(0, .ref (a 0)), (1, .int (nI i)), (2, .ref o)] := hl
  refine lv_aload_n hx hb dL_purseOf_0 rfl (lv_at hl 2 rfl) ?_
  refine lv_iconst (v := 0) hx hb dL_purseOf_1 (by decide) ?_
  refine lv_aload_n hx hb dL_purseOf_2 rfl (lv_at hl 0 rfl) ?_
  refine lv_iload_n hx hb dL_purseOf_3 rfl (lv_at hl 1 rfl) ?_
  have hPX := wj_Pr hP
  refine vp_callSi (W.runV (As := [.int (nI i)]) (rest := [.int 0, .ref o]) hC (c_X0_purseOf l i hi hn) (cwV 1 hC.2.2.2.2 (gi_V mM_L_48 mV_X0_purseOf mS_X0_purseOf mI_MissRegistry mC_X0_purseOf) rfl rfl rfl (by decide +kernel) ⟨Nat.le_of_ble_eq_true rfl, Nat.le_of_ble_eq_true rfl⟩) (xpre hK hPX) rfl rfl hl.1 rfl (lv_room (Nat.le_of_ble_eq_true rfl)) dL_purseOf_4 ⟨Nat.le_of_ble_eq_true rfl, Nat.le_of_ble_eq_true rfl⟩) (fun r9 hr9 => ?_)
  rw [show r9 = pu i from hr9]
  refine lv_i2l hx hb dL_purseOf_7 rfl ?_
  refine w_last hC hJ hP hD hS dL_purseOf_8 (fun H locs hP hD hS => ?_)
  refine lv_goto (tgt := 15) hx hb dL_purseOf_9 (by decide) ?_
  refine lv_iconst (v := 0) hx hb dL_purseOf_15 (by decide) ?_
  exact W.iret (v := 0) hx hb hr (fun t ht hW => ⟨⟨0, _, rfl, ⟨rfl, (show vp_updL g 0 _ 0 = _ from if_pos rfl)⟩, by rw [ht]; exact hP, hD⟩, hS.F ht⟩) hS.2.2 dL_purseOf_16
set_option maxHeartbeats 4000000 in
set_option maxRecDepth 100000 in
theorem w_fatesOf (l : Launch) (sz : Nat) {D : va_G} {z : ClassId × ClassId} {a : Nat → Nat} {lv lk pu fa he : Nat → Int32} {n : Nat} {nv du ta : Nat → Int32} {w : Nat} {mp mi : Nat → Int32} {k : Nat} {nt fu re : Int32} {o : Nat} {cJ : ClassId} {g : Nat → Int64} (i : Nat) (hi : i < n) (hn : n ≤ 10) : Met l yL_fatesOf (wsH_ yL_fatesOf cL_fatesOf 4 (some .int) [(0, 9, 12, 24)]) ({ frames := 3, cells := 0, slots := 0, locals := 63 } : Room) (va_Pc [.ref (a 0), .int (nI i), .ref o] (fun U => U.heap.size = sz ∧ va_P D vwCl (oW o cJ g (xW z a lv lk pu fa he n nv du ta w mp mi k nt fu re)) U.heap ∧ kK D z U ∧ kJ D cJ U ∧ va_D (fun _ => True) (oW o cJ g (xW z a lv lk pu fa he n nv du ta w mp mi k nt fu re)))) (va_Qi (fun (r : Int32) (u : Nat → Int64) => r = 0 ∧ u 0 = (fa i).toInt64) (fun u t9 => va_P D vwCl (oW o cJ u (xW z a lv lk pu fa he n nv du ta w mp mi k nt fu re)) t9.heap ∧ va_D (va_A (oW o cJ g (xW z a lv lk pu fa he n nv du ta w mp mi k nt fu re)) sz) (oW o cJ u (xW z a lv lk pu fa he n nv du ta w mp mi k nt fu re))) (va_A (oW o cJ g (xW z a lv lk pu fa he n nv du ta w mp mi k nt fu re)) sz)) 0 0 (va_A (oW o cJ g (xW z a lv lk pu fa he n nv du ta w mp mi k nt fu re)) sz) := by
  refine va_MetW (hh := [(0, 9, 12, 24)]) (cc := cL_fatesOf) (maxL := 4) (ret := (some .int)) (by decide) rfl ?_
  intro p e s m args below meth c s₁ B hml hv
  obtain ⟨rfl, hsz, hP, hK, hJ, hD0⟩ := hv
  have hx := B.exec
  have hb := B.bytes
  have hr := B.returns
  have hts0 := atoms_spec (ws := wsH_ yL_fatesOf cL_fatesOf 4 (some .int) [(0, 9, 12, 24)]) B.pre
  have hts : ∀ w ∈ lw_all, w.before _ s = true := fun w h => hts0 w (List.mem_cons_of_mem _ h)
  have hown : s.vm.findClass RL = some m.cls := findClass_of_methodNamed B.named
  have hlocks := B.notSynchronized
  have hC : CallFix p m c cL_fatesOf 4 s _ lw_all RL := ⟨hx, hb, hml, hown, hts⟩
  subst hsz
  have hD := hD0.self (sz := s.heap.size)
  generalize hAe : va_A (oW o cJ g (xW z a lv lk pu fa he n nv du ta w mp mi k nt fu re)) s.heap.size = A at hD ⊢
  have hA : ∀ q : Nat, s.heap.size ≤ q → A q := fun q h => by rw [← hAe]; exact Or.inr h
  have hS : va_S A s.heap s.heap [] := va_S.rf
  have hl := lv_entry ([.ref (a 0), .int (nI i), .ref o]) (n := 4) (Nat.le_of_ble_eq_true rfl)
  rw [lg_entry_eq]
  generalize (lg_sl ([.ref (a 0), .int (nI i), .ref o]) ++ List.replicate (4 - (lg_sl ([.ref (a 0), .int (nI i), .ref o])).length) Slot.unset).toArray = ls at hl ⊢
  have hl : lv_has ls 4 [(0, .ref (a 0)), (1, .int (nI i)), (2, .ref o)] := hl
  refine lv_aload_n hx hb dL_fatesOf_0 rfl (lv_at hl 2 rfl) ?_
  refine lv_iconst (v := 0) hx hb dL_fatesOf_1 (by decide) ?_
  refine lv_aload_n hx hb dL_fatesOf_2 rfl (lv_at hl 0 rfl) ?_
  refine lv_iload_n hx hb dL_fatesOf_3 rfl (lv_at hl 1 rfl) ?_
  have hPX := wj_Pr hP
  refine vp_callSi (W.runV (As := [.int (nI i)]) (rest := [.int 0, .ref o]) hC (c_X0_fatesOf l i hi hn) (cwV 1 hC.2.2.2.2 (gi_V mM_L_51 mV_X0_fatesOf mS_X0_fatesOf mI_MissRegistry mC_X0_fatesOf) rfl rfl rfl (by decide +kernel) ⟨Nat.le_of_ble_eq_true rfl, Nat.le_of_ble_eq_true rfl⟩) (xpre hK hPX) rfl rfl hl.1 rfl (lv_room (Nat.le_of_ble_eq_true rfl)) dL_fatesOf_4 ⟨Nat.le_of_ble_eq_true rfl, Nat.le_of_ble_eq_true rfl⟩) (fun r9 hr9 => ?_)
  rw [show r9 = fa i from hr9]
  refine lv_i2l hx hb dL_fatesOf_7 rfl ?_
  refine w_last hC hJ hP hD hS dL_fatesOf_8 (fun H locs hP hD hS => ?_)
  refine lv_goto (tgt := 15) hx hb dL_fatesOf_9 (by decide) ?_
  refine lv_iconst (v := 0) hx hb dL_fatesOf_15 (by decide) ?_
  exact W.iret (v := 0) hx hb hr (fun t ht hW => ⟨⟨0, _, rfl, ⟨rfl, (show vp_updL g 0 _ 0 = _ from if_pos rfl)⟩, by rw [ht]; exact hP, hD⟩, hS.F ht⟩) hS.2.2 dL_fatesOf_16
set_option maxHeartbeats 4000000 in
set_option maxRecDepth 100000 in
theorem w_heirOf (l : Launch) (sz : Nat) {D : va_G} {z : ClassId × ClassId} {a : Nat → Nat} {lv lk pu fa he : Nat → Int32} {n : Nat} {nv du ta : Nat → Int32} {w : Nat} {mp mi : Nat → Int32} {k : Nat} {nt fu re : Int32} {o : Nat} {cJ : ClassId} {g : Nat → Int64} (i : Nat) (hi : i < n) (hn : n ≤ 10) : Met l yL_heirOf (wsH_ yL_heirOf cL_heirOf 4 (some .int) [(0, 9, 12, 24)]) ({ frames := 3, cells := 0, slots := 0, locals := 63 } : Room) (va_Pc [.ref (a 0), .int (nI i), .ref o] (fun U => U.heap.size = sz ∧ va_P D vwCl (oW o cJ g (xW z a lv lk pu fa he n nv du ta w mp mi k nt fu re)) U.heap ∧ kK D z U ∧ kJ D cJ U ∧ va_D (fun _ => True) (oW o cJ g (xW z a lv lk pu fa he n nv du ta w mp mi k nt fu re)))) (va_Qi (fun (r : Int32) (u : Nat → Int64) => r = 0 ∧ u 0 = (he i).toInt64) (fun u t9 => va_P D vwCl (oW o cJ u (xW z a lv lk pu fa he n nv du ta w mp mi k nt fu re)) t9.heap ∧ va_D (va_A (oW o cJ g (xW z a lv lk pu fa he n nv du ta w mp mi k nt fu re)) sz) (oW o cJ u (xW z a lv lk pu fa he n nv du ta w mp mi k nt fu re))) (va_A (oW o cJ g (xW z a lv lk pu fa he n nv du ta w mp mi k nt fu re)) sz)) 0 0 (va_A (oW o cJ g (xW z a lv lk pu fa he n nv du ta w mp mi k nt fu re)) sz) := by
  refine va_MetW (hh := [(0, 9, 12, 24)]) (cc := cL_heirOf) (maxL := 4) (ret := (some .int)) (by decide) rfl ?_
  intro p e s m args below meth c s₁ B hml hv
  obtain ⟨rfl, hsz, hP, hK, hJ, hD0⟩ := hv
  have hx := B.exec
  have hb := B.bytes
  have hr := B.returns
  have hts0 := atoms_spec (ws := wsH_ yL_heirOf cL_heirOf 4 (some .int) [(0, 9, 12, 24)]) B.pre
  have hts : ∀ w ∈ lw_all, w.before _ s = true := fun w h => hts0 w (List.mem_cons_of_mem _ h)
  have hown : s.vm.findClass RL = some m.cls := findClass_of_methodNamed B.named
  have hlocks := B.notSynchronized
  have hC : CallFix p m c cL_heirOf 4 s _ lw_all RL := ⟨hx, hb, hml, hown, hts⟩
  subst hsz
  have hD := hD0.self (sz := s.heap.size)
  generalize hAe : va_A (oW o cJ g (xW z a lv lk pu fa he n nv du ta w mp mi k nt fu re)) s.heap.size = A at hD ⊢
  have hA : ∀ q : Nat, s.heap.size ≤ q → A q := fun q h => by rw [← hAe]; exact Or.inr h
  have hS : va_S A s.heap s.heap [] := va_S.rf
  have hl := lv_entry ([.ref (a 0), .int (nI i), .ref o]) (n := 4) (Nat.le_of_ble_eq_true rfl)
  rw [lg_entry_eq]
  generalize (lg_sl ([.ref (a 0), .int (nI i), .ref o]) ++ List.replicate (4 - (lg_sl ([.ref (a 0), .int (nI i), .ref o])).length) Slot.unset).toArray = ls at hl ⊢
  have hl : lv_has ls 4 [(0, .ref (a 0)), (1, .int (nI i)), (2, .ref o)] := hl
  refine lv_aload_n hx hb dL_heirOf_0 rfl (lv_at hl 2 rfl) ?_
  refine lv_iconst (v := 0) hx hb dL_heirOf_1 (by decide) ?_
  refine lv_aload_n hx hb dL_heirOf_2 rfl (lv_at hl 0 rfl) ?_
  refine lv_iload_n hx hb dL_heirOf_3 rfl (lv_at hl 1 rfl) ?_
  have hPX := wj_Pr hP
  refine vp_callSi (W.runV (As := [.int (nI i)]) (rest := [.int 0, .ref o]) hC (c_X0_heirOf l i hi hn) (cwV 1 hC.2.2.2.2 (gi_V mM_L_54 mV_X0_heirOf mS_X0_heirOf mI_MissRegistry mC_X0_heirOf) rfl rfl rfl (by decide +kernel) ⟨Nat.le_of_ble_eq_true rfl, Nat.le_of_ble_eq_true rfl⟩) (xpre hK hPX) rfl rfl hl.1 rfl (lv_room (Nat.le_of_ble_eq_true rfl)) dL_heirOf_4 ⟨Nat.le_of_ble_eq_true rfl, Nat.le_of_ble_eq_true rfl⟩) (fun r9 hr9 => ?_)
  rw [show r9 = he i from hr9]
  refine lv_i2l hx hb dL_heirOf_7 rfl ?_
  refine w_last hC hJ hP hD hS dL_heirOf_8 (fun H locs hP hD hS => ?_)
  refine lv_goto (tgt := 15) hx hb dL_heirOf_9 (by decide) ?_
  refine lv_iconst (v := 0) hx hb dL_heirOf_15 (by decide) ?_
  exact W.iret (v := 0) hx hb hr (fun t ht hW => ⟨⟨0, _, rfl, ⟨rfl, (show vp_updL g 0 _ 0 = _ from if_pos rfl)⟩, by rw [ht]; exact hP, hD⟩, hS.F ht⟩) hS.2.2 dL_heirOf_16
set_option maxHeartbeats 4000000 in
set_option maxRecDepth 100000 in
theorem w_lastHeirOf (l : Launch) (sz : Nat) {D : va_G} {z : ClassId × ClassId} {a : Nat → Nat} {lv lk pu fa he : Nat → Int32} {n : Nat} {nv du ta : Nat → Int32} {w : Nat} {mp mi : Nat → Int32} {k : Nat} {nt fu re : Int32} {o : Nat} {cJ : ClassId} {g : Nat → Int64} (i : Nat) (hi : i < n) (hn : n ≤ 10) : Met l yL_lastHeirOf (wsH_ yL_lastHeirOf cL_lastHeirOf 4 (some .int) [(0, 9, 12, 24)]) ({ frames := 3, cells := 0, slots := 0, locals := 65 } : Room) (va_Pc [.ref (a 0), .int (nI i), .ref o] (fun U => U.heap.size = sz ∧ va_P D vwCl (oW o cJ g (xW z a lv lk pu fa he n nv du ta w mp mi k nt fu re)) U.heap ∧ kK D z U ∧ kJ D cJ U ∧ va_D (fun _ => True) (oW o cJ g (xW z a lv lk pu fa he n nv du ta w mp mi k nt fu re)))) (va_Qi (fun (r : Int32) (u : Nat → Int64) => r = 0 ∧ u 0 = (sp_heir he lv n i n (he i)).toInt64) (fun u t9 => va_P D vwCl (oW o cJ u (xW z a lv lk pu fa he n nv du ta w mp mi k nt fu re)) t9.heap ∧ va_D (va_A (oW o cJ g (xW z a lv lk pu fa he n nv du ta w mp mi k nt fu re)) sz) (oW o cJ u (xW z a lv lk pu fa he n nv du ta w mp mi k nt fu re))) (va_A (oW o cJ g (xW z a lv lk pu fa he n nv du ta w mp mi k nt fu re)) sz)) 0 0 (va_A (oW o cJ g (xW z a lv lk pu fa he n nv du ta w mp mi k nt fu re)) sz) := by
  refine va_MetW (hh := [(0, 9, 12, 24)]) (cc := cL_lastHeirOf) (maxL := 4) (ret := (some .int)) (by decide) rfl ?_
  intro p e s m args below meth c s₁ B hml hv
  obtain ⟨rfl, hsz, hP, hK, hJ, hD0⟩ := hv
  have hx := B.exec
  have hb := B.bytes
  have hr := B.returns
  have hts0 := atoms_spec (ws := wsH_ yL_lastHeirOf cL_lastHeirOf 4 (some .int) [(0, 9, 12, 24)]) B.pre
  have hts : ∀ w ∈ lw_all, w.before _ s = true := fun w h => hts0 w (List.mem_cons_of_mem _ h)
  have hown : s.vm.findClass RL = some m.cls := findClass_of_methodNamed B.named
  have hlocks := B.notSynchronized
  have hC : CallFix p m c cL_lastHeirOf 4 s _ lw_all RL := ⟨hx, hb, hml, hown, hts⟩
  subst hsz
  have hD := hD0.self (sz := s.heap.size)
  generalize hAe : va_A (oW o cJ g (xW z a lv lk pu fa he n nv du ta w mp mi k nt fu re)) s.heap.size = A at hD ⊢
  have hA : ∀ q : Nat, s.heap.size ≤ q → A q := fun q h => by rw [← hAe]; exact Or.inr h
  have hS : va_S A s.heap s.heap [] := va_S.rf
  have hl := lv_entry ([.ref (a 0), .int (nI i), .ref o]) (n := 4) (Nat.le_of_ble_eq_true rfl)
  rw [lg_entry_eq]
  generalize (lg_sl ([.ref (a 0), .int (nI i), .ref o]) ++ List.replicate (4 - (lg_sl ([.ref (a 0), .int (nI i), .ref o])).length) Slot.unset).toArray = ls at hl ⊢
  have hl : lv_has ls 4 [(0, .ref (a 0)), (1, .int (nI i)), (2, .ref o)] := hl
  refine lv_aload_n hx hb dL_lastHeirOf_0 rfl (lv_at hl 2 rfl) ?_
  refine lv_iconst (v := 0) hx hb dL_lastHeirOf_1 (by decide) ?_
  refine lv_aload_n hx hb dL_lastHeirOf_2 rfl (lv_at hl 0 rfl) ?_
  refine lv_iload_n hx hb dL_lastHeirOf_3 rfl (lv_at hl 1 rfl) ?_
  have hPX := wj_Pr hP
  refine vp_callSi (W.runV (As := [.int (nI i)]) (rest := [.int 0, .ref o]) hC (c_X0_lastHeirOf l i hi hn) (cwV 1 hC.2.2.2.2 (gi_V mM_L_57 mV_X0_lastHeirOf mS_X0_lastHeirOf mI_MissRegistry mC_X0_lastHeirOf) rfl rfl rfl (by decide +kernel) ⟨Nat.le_of_ble_eq_true rfl, Nat.le_of_ble_eq_true rfl⟩) (xpre hK hPX) rfl rfl hl.1 rfl (lv_room (Nat.le_of_ble_eq_true rfl)) dL_lastHeirOf_4 ⟨Nat.le_of_ble_eq_true rfl, Nat.le_of_ble_eq_true rfl⟩) (fun r9 hr9 => ?_)
  rw [show r9 = sp_heir he lv n i n (he i) from hr9]
  refine lv_i2l hx hb dL_lastHeirOf_7 rfl ?_
  refine w_last hC hJ hP hD hS dL_lastHeirOf_8 (fun H locs hP hD hS => ?_)
  refine lv_goto (tgt := 15) hx hb dL_lastHeirOf_9 (by decide) ?_
  refine lv_iconst (v := 0) hx hb dL_lastHeirOf_15 (by decide) ?_
  exact W.iret (v := 0) hx hb hr (fun t ht hW => ⟨⟨0, _, rfl, ⟨rfl, (show vp_updL g 0 _ 0 = _ from if_pos rfl)⟩, by rw [ht]; exact hP, hD⟩, hS.F ht⟩) hS.2.2 dL_lastHeirOf_16
set_option maxHeartbeats 4000000 in
set_option maxRecDepth 100000 in
theorem w_priceFor (l : Launch) (sz : Nat) {D : va_G} {z : ClassId × ClassId} {a : Nat → Nat} {lv lk pu fa he : Nat → Int32} {n : Nat} {nv du ta : Nat → Int32} {w : Nat} {mp mi : Nat → Int32} {k : Nat} {nt fu re : Int32} {o : Nat} {cJ : ClassId} {g : Nat → Int64} (i : Nat) (hi : i < n) (hn : n ≤ 10) : Met l yL_priceFor (wsH_ yL_priceFor cL_priceFor 4 (some .int) [(0, 9, 12, 24)]) ({ frames := 3, cells := 0, slots := 0, locals := 63 } : Room) (va_Pc [.ref (a 0), .int (nI i), .ref o] (fun U => U.heap.size = sz ∧ va_P D vwCl (oW o cJ g (xW z a lv lk pu fa he n nv du ta w mp mi k nt fu re)) U.heap ∧ kK D z U ∧ kJ D cJ U ∧ va_D (fun _ => True) (oW o cJ g (xW z a lv lk pu fa he n nv du ta w mp mi k nt fu re)))) (va_Qi (fun (r : Int32) (u : Nat → Int64) => r = 0 ∧ u 0 = (sp_price (lk i)).toInt64) (fun u t9 => va_P D vwCl (oW o cJ u (xW z a lv lk pu fa he n nv du ta w mp mi k nt fu re)) t9.heap ∧ va_D (va_A (oW o cJ g (xW z a lv lk pu fa he n nv du ta w mp mi k nt fu re)) sz) (oW o cJ u (xW z a lv lk pu fa he n nv du ta w mp mi k nt fu re))) (va_A (oW o cJ g (xW z a lv lk pu fa he n nv du ta w mp mi k nt fu re)) sz)) 0 0 (va_A (oW o cJ g (xW z a lv lk pu fa he n nv du ta w mp mi k nt fu re)) sz) := by
  refine va_MetW (hh := [(0, 9, 12, 24)]) (cc := cL_priceFor) (maxL := 4) (ret := (some .int)) (by decide) rfl ?_
  intro p e s m args below meth c s₁ B hml hv
  obtain ⟨rfl, hsz, hP, hK, hJ, hD0⟩ := hv
  have hx := B.exec
  have hb := B.bytes
  have hr := B.returns
  have hts0 := atoms_spec (ws := wsH_ yL_priceFor cL_priceFor 4 (some .int) [(0, 9, 12, 24)]) B.pre
  have hts : ∀ w ∈ lw_all, w.before _ s = true := fun w h => hts0 w (List.mem_cons_of_mem _ h)
  have hown : s.vm.findClass RL = some m.cls := findClass_of_methodNamed B.named
  have hlocks := B.notSynchronized
  have hC : CallFix p m c cL_priceFor 4 s _ lw_all RL := ⟨hx, hb, hml, hown, hts⟩
  subst hsz
  have hD := hD0.self (sz := s.heap.size)
  generalize hAe : va_A (oW o cJ g (xW z a lv lk pu fa he n nv du ta w mp mi k nt fu re)) s.heap.size = A at hD ⊢
  have hA : ∀ q : Nat, s.heap.size ≤ q → A q := fun q h => by rw [← hAe]; exact Or.inr h
  have hS : va_S A s.heap s.heap [] := va_S.rf
  have hl := lv_entry ([.ref (a 0), .int (nI i), .ref o]) (n := 4) (Nat.le_of_ble_eq_true rfl)
  rw [lg_entry_eq]
  generalize (lg_sl ([.ref (a 0), .int (nI i), .ref o]) ++ List.replicate (4 - (lg_sl ([.ref (a 0), .int (nI i), .ref o])).length) Slot.unset).toArray = ls at hl ⊢
  have hl : lv_has ls 4 [(0, .ref (a 0)), (1, .int (nI i)), (2, .ref o)] := hl
  refine lv_aload_n hx hb dL_priceFor_0 rfl (lv_at hl 2 rfl) ?_
  refine lv_iconst (v := 0) hx hb dL_priceFor_1 (by decide) ?_
  refine lv_aload_n hx hb dL_priceFor_2 rfl (lv_at hl 0 rfl) ?_
  refine lv_iload_n hx hb dL_priceFor_3 rfl (lv_at hl 1 rfl) ?_
  have hPX := wj_Pr hP
  refine vp_callSi (W.runV (As := [.int (nI i)]) (rest := [.int 0, .ref o]) hC (c_X0_priceFor l i hi hn) (cwV 1 hC.2.2.2.2 (gi_V mM_L_60 mV_X0_priceFor mS_X0_priceFor mI_MissRegistry mC_X0_priceFor) rfl rfl rfl (by decide +kernel) ⟨Nat.le_of_ble_eq_true rfl, Nat.le_of_ble_eq_true rfl⟩) (xpre hK hPX) rfl rfl hl.1 rfl (lv_room (Nat.le_of_ble_eq_true rfl)) dL_priceFor_4 ⟨Nat.le_of_ble_eq_true rfl, Nat.le_of_ble_eq_true rfl⟩) (fun r9 hr9 => ?_)
  rw [show r9 = sp_price (lk i) from hr9]
  refine lv_i2l hx hb dL_priceFor_7 rfl ?_
  refine w_last hC hJ hP hD hS dL_priceFor_8 (fun H locs hP hD hS => ?_)
  refine lv_goto (tgt := 15) hx hb dL_priceFor_9 (by decide) ?_
  refine lv_iconst (v := 0) hx hb dL_priceFor_15 (by decide) ?_
  exact W.iret (v := 0) hx hb hr (fun t ht hW => ⟨⟨0, _, rfl, ⟨rfl, (show vp_updL g 0 _ 0 = _ from if_pos rfl)⟩, by rw [ht]; exact hP, hD⟩, hS.F ht⟩) hS.2.2 dL_priceFor_16
set_option maxHeartbeats 4000000 in
set_option maxRecDepth 100000 in
theorem w_missesOf (l : Launch) (sz : Nat) {D : va_G} {z : ClassId × ClassId} {a : Nat → Nat} {lv lk pu fa he : Nat → Int32} {n : Nat} {nv du ta : Nat → Int32} {w : Nat} {mp mi : Nat → Int32} {k : Nat} {nt fu re : Int32} {o : Nat} {cJ : ClassId} {g : Nat → Int64} (i : Nat) (hi : i < n) (hn : n ≤ 10) (hk : k ≤ 60) : Met l yL_missesOf (wsH_ yL_missesOf cL_missesOf 4 (some .int) [(0, 9, 12, 24)]) ({ frames := 3, cells := 0, slots := 0, locals := 65 } : Room) (va_Pc [.ref (a 0), .int (nI i), .ref o] (fun U => U.heap.size = sz ∧ va_P D vwCl (oW o cJ g (xW z a lv lk pu fa he n nv du ta w mp mi k nt fu re)) U.heap ∧ kK D z U ∧ kJ D cJ U ∧ va_D (fun _ => True) (oW o cJ g (xW z a lv lk pu fa he n nv du ta w mp mi k nt fu re)))) (va_Qi (fun (r : Int32) (u : Nat → Int64) => r = 0 ∧ u 0 = (sp_many mp (nI i) k).toInt64) (fun u t9 => va_P D vwCl (oW o cJ u (xW z a lv lk pu fa he n nv du ta w mp mi k nt fu re)) t9.heap ∧ va_D (va_A (oW o cJ g (xW z a lv lk pu fa he n nv du ta w mp mi k nt fu re)) sz) (oW o cJ u (xW z a lv lk pu fa he n nv du ta w mp mi k nt fu re))) (va_A (oW o cJ g (xW z a lv lk pu fa he n nv du ta w mp mi k nt fu re)) sz)) 0 0 (va_A (oW o cJ g (xW z a lv lk pu fa he n nv du ta w mp mi k nt fu re)) sz) := by
  refine va_MetW (hh := [(0, 9, 12, 24)]) (cc := cL_missesOf) (maxL := 4) (ret := (some .int)) (by decide) rfl ?_
  intro p e s m args below meth c s₁ B hml hv
  obtain ⟨rfl, hsz, hP, hK, hJ, hD0⟩ := hv
  have hx := B.exec
  have hb := B.bytes
  have hr := B.returns
  have hts0 := atoms_spec (ws := wsH_ yL_missesOf cL_missesOf 4 (some .int) [(0, 9, 12, 24)]) B.pre
  have hts : ∀ w ∈ lw_all, w.before _ s = true := fun w h => hts0 w (List.mem_cons_of_mem _ h)
  have hown : s.vm.findClass RL = some m.cls := findClass_of_methodNamed B.named
  have hlocks := B.notSynchronized
  have hC : CallFix p m c cL_missesOf 4 s _ lw_all RL := ⟨hx, hb, hml, hown, hts⟩
  subst hsz
  have hD := hD0.self (sz := s.heap.size)
  generalize hAe : va_A (oW o cJ g (xW z a lv lk pu fa he n nv du ta w mp mi k nt fu re)) s.heap.size = A at hD ⊢
  have hA : ∀ q : Nat, s.heap.size ≤ q → A q := fun q h => by rw [← hAe]; exact Or.inr h
  have hS : va_S A s.heap s.heap [] := va_S.rf
  have hl := lv_entry ([.ref (a 0), .int (nI i), .ref o]) (n := 4) (Nat.le_of_ble_eq_true rfl)
  rw [lg_entry_eq]
  generalize (lg_sl ([.ref (a 0), .int (nI i), .ref o]) ++ List.replicate (4 - (lg_sl ([.ref (a 0), .int (nI i), .ref o])).length) Slot.unset).toArray = ls at hl ⊢
  have hl : lv_has ls 4 [(0, .ref (a 0)), (1, .int (nI i)), (2, .ref o)] := hl
  refine lv_aload_n hx hb dL_missesOf_0 rfl (lv_at hl 2 rfl) ?_
  refine lv_iconst (v := 0) hx hb dL_missesOf_1 (by decide) ?_
  refine lv_aload_n hx hb dL_missesOf_2 rfl (lv_at hl 0 rfl) ?_
  refine lv_iload_n hx hb dL_missesOf_3 rfl (lv_at hl 1 rfl) ?_
  have hPX := wj_Pr hP
  refine vp_callSi (W.runV (As := [.int (nI i)]) (rest := [.int 0, .ref o]) hC (c_X0_missesOf l i hi hn hk) (cwV 1 hC.2.2.2.2 (gi_V mM_L_63 mV_X0_missesOf mS_X0_missesOf mI_MissRegistry mC_X0_missesOf) rfl rfl rfl (by decide +kernel) ⟨Nat.le_of_ble_eq_true rfl, Nat.le_of_ble_eq_true rfl⟩) (xpre hK hPX) rfl rfl hl.1 rfl (lv_room (Nat.le_of_ble_eq_true rfl)) dL_missesOf_4 ⟨Nat.le_of_ble_eq_true rfl, Nat.le_of_ble_eq_true rfl⟩) (fun r9 hr9 => ?_)
  rw [show r9 = sp_many mp (nI i) k from hr9]
  refine lv_i2l hx hb dL_missesOf_7 rfl ?_
  refine w_last hC hJ hP hD hS dL_missesOf_8 (fun H locs hP hD hS => ?_)
  refine lv_goto (tgt := 15) hx hb dL_missesOf_9 (by decide) ?_
  refine lv_iconst (v := 0) hx hb dL_missesOf_15 (by decide) ?_
  exact W.iret (v := 0) hx hb hr (fun t ht hW => ⟨⟨0, _, rfl, ⟨rfl, (show vp_updL g 0 _ 0 = _ from if_pos rfl)⟩, by rw [ht]; exact hP, hD⟩, hS.F ht⟩) hS.2.2 dL_missesOf_16
set_option maxHeartbeats 4000000 in
set_option maxRecDepth 100000 in
theorem w_closestOf (l : Launch) (sz : Nat) {D : va_G} {z : ClassId × ClassId} {a : Nat → Nat} {lv lk pu fa he : Nat → Int32} {n : Nat} {nv du ta : Nat → Int32} {w : Nat} {mp mi : Nat → Int32} {k : Nat} {nt fu re : Int32} {o : Nat} {cJ : ClassId} {g : Nat → Int64} (i : Nat) (hi : i < n) (hn : n ≤ 10) (hk : k ≤ 60) : Met l yL_closestOf (wsH_ yL_closestOf cL_closestOf 4 (some .int) [(0, 9, 12, 24)]) ({ frames := 3, cells := 0, slots := 0, locals := 66 } : Room) (va_Pc [.ref (a 0), .int (nI i), .ref o] (fun U => U.heap.size = sz ∧ va_P D vwCl (oW o cJ g (xW z a lv lk pu fa he n nv du ta w mp mi k nt fu re)) U.heap ∧ kK D z U ∧ kJ D cJ U ∧ va_D (fun _ => True) (oW o cJ g (xW z a lv lk pu fa he n nv du ta w mp mi k nt fu re)))) (va_Qi (fun (r : Int32) (u : Nat → Int64) => r = 0 ∧ u 0 = (sp_close mp mi (nI i) k).toInt64) (fun u t9 => va_P D vwCl (oW o cJ u (xW z a lv lk pu fa he n nv du ta w mp mi k nt fu re)) t9.heap ∧ va_D (va_A (oW o cJ g (xW z a lv lk pu fa he n nv du ta w mp mi k nt fu re)) sz) (oW o cJ u (xW z a lv lk pu fa he n nv du ta w mp mi k nt fu re))) (va_A (oW o cJ g (xW z a lv lk pu fa he n nv du ta w mp mi k nt fu re)) sz)) 0 0 (va_A (oW o cJ g (xW z a lv lk pu fa he n nv du ta w mp mi k nt fu re)) sz) := by
  refine va_MetW (hh := [(0, 9, 12, 24)]) (cc := cL_closestOf) (maxL := 4) (ret := (some .int)) (by decide) rfl ?_
  intro p e s m args below meth c s₁ B hml hv
  obtain ⟨rfl, hsz, hP, hK, hJ, hD0⟩ := hv
  have hx := B.exec
  have hb := B.bytes
  have hr := B.returns
  have hts0 := atoms_spec (ws := wsH_ yL_closestOf cL_closestOf 4 (some .int) [(0, 9, 12, 24)]) B.pre
  have hts : ∀ w ∈ lw_all, w.before _ s = true := fun w h => hts0 w (List.mem_cons_of_mem _ h)
  have hown : s.vm.findClass RL = some m.cls := findClass_of_methodNamed B.named
  have hlocks := B.notSynchronized
  have hC : CallFix p m c cL_closestOf 4 s _ lw_all RL := ⟨hx, hb, hml, hown, hts⟩
  subst hsz
  have hD := hD0.self (sz := s.heap.size)
  generalize hAe : va_A (oW o cJ g (xW z a lv lk pu fa he n nv du ta w mp mi k nt fu re)) s.heap.size = A at hD ⊢
  have hA : ∀ q : Nat, s.heap.size ≤ q → A q := fun q h => by rw [← hAe]; exact Or.inr h
  have hS : va_S A s.heap s.heap [] := va_S.rf
  have hl := lv_entry ([.ref (a 0), .int (nI i), .ref o]) (n := 4) (Nat.le_of_ble_eq_true rfl)
  rw [lg_entry_eq]
  generalize (lg_sl ([.ref (a 0), .int (nI i), .ref o]) ++ List.replicate (4 - (lg_sl ([.ref (a 0), .int (nI i), .ref o])).length) Slot.unset).toArray = ls at hl ⊢
  have hl : lv_has ls 4 [(0, .ref (a 0)), (1, .int (nI i)), (2, .ref o)] := hl
  refine lv_aload_n hx hb dL_closestOf_0 rfl (lv_at hl 2 rfl) ?_
  refine lv_iconst (v := 0) hx hb dL_closestOf_1 (by decide) ?_
  refine lv_aload_n hx hb dL_closestOf_2 rfl (lv_at hl 0 rfl) ?_
  refine lv_iload_n hx hb dL_closestOf_3 rfl (lv_at hl 1 rfl) ?_
  have hPX := wj_Pr hP
  refine vp_callSi (W.runV (As := [.int (nI i)]) (rest := [.int 0, .ref o]) hC (c_X0_closestOf l i hi hn hk) (cwV 1 hC.2.2.2.2 (gi_V mM_L_66 mV_X0_closestOf mS_X0_closestOf mI_MissRegistry mC_X0_closestOf) rfl rfl rfl (by decide +kernel) ⟨Nat.le_of_ble_eq_true rfl, Nat.le_of_ble_eq_true rfl⟩) (xpre hK hPX) rfl rfl hl.1 rfl (lv_room (Nat.le_of_ble_eq_true rfl)) dL_closestOf_4 ⟨Nat.le_of_ble_eq_true rfl, Nat.le_of_ble_eq_true rfl⟩) (fun r9 hr9 => ?_)
  rw [show r9 = sp_close mp mi (nI i) k from hr9]
  refine lv_i2l hx hb dL_closestOf_7 rfl ?_
  refine w_last hC hJ hP hD hS dL_closestOf_8 (fun H locs hP hD hS => ?_)
  refine lv_goto (tgt := 15) hx hb dL_closestOf_9 (by decide) ?_
  refine lv_iconst (v := 0) hx hb dL_closestOf_15 (by decide) ?_
  exact W.iret (v := 0) hx hb hr (fun t ht hW => ⟨⟨0, _, rfl, ⟨rfl, (show vp_updL g 0 _ 0 = _ from if_pos rfl)⟩, by rw [ht]; exact hP, hD⟩, hS.F ht⟩) hS.2.2 dL_closestOf_16
set_option maxHeartbeats 4000000 in
set_option maxRecDepth 100000 in
theorem w_nerveOf (l : Launch) (sz : Nat) {D : va_G} {z : ClassId × ClassId} {a : Nat → Nat} {lv lk pu fa he : Nat → Int32} {n : Nat} {nv du ta : Nat → Int32} {w : Nat} {mp mi : Nat → Int32} {k : Nat} {nt fu re : Int32} {o : Nat} {cJ : ClassId} {g : Nat → Int64} (i : Nat) (hi : i < w) (hw : w ≤ 6) : Met l yL_nerveOf (wsH_ yL_nerveOf cL_nerveOf 4 (some .int) [(0, 9, 12, 24)]) ({ frames := 3, cells := 0, slots := 0, locals := 63 } : Room) (va_Pc [.ref (a 0), .int (nI i), .ref o] (fun U => U.heap.size = sz ∧ va_P D vwCl (oW o cJ g (xW z a lv lk pu fa he n nv du ta w mp mi k nt fu re)) U.heap ∧ kK D z U ∧ kJ D cJ U ∧ va_D (fun _ => True) (oW o cJ g (xW z a lv lk pu fa he n nv du ta w mp mi k nt fu re)))) (va_Qi (fun (r : Int32) (u : Nat → Int64) => r = 0 ∧ u 0 = (nv i).toInt64) (fun u t9 => va_P D vwCl (oW o cJ u (xW z a lv lk pu fa he n nv du ta w mp mi k nt fu re)) t9.heap ∧ va_D (va_A (oW o cJ g (xW z a lv lk pu fa he n nv du ta w mp mi k nt fu re)) sz) (oW o cJ u (xW z a lv lk pu fa he n nv du ta w mp mi k nt fu re))) (va_A (oW o cJ g (xW z a lv lk pu fa he n nv du ta w mp mi k nt fu re)) sz)) 0 0 (va_A (oW o cJ g (xW z a lv lk pu fa he n nv du ta w mp mi k nt fu re)) sz) := by
  refine va_MetW (hh := [(0, 9, 12, 24)]) (cc := cL_nerveOf) (maxL := 4) (ret := (some .int)) (by decide) rfl ?_
  intro p e s m args below meth c s₁ B hml hv
  obtain ⟨rfl, hsz, hP, hK, hJ, hD0⟩ := hv
  have hx := B.exec
  have hb := B.bytes
  have hr := B.returns
  have hts0 := atoms_spec (ws := wsH_ yL_nerveOf cL_nerveOf 4 (some .int) [(0, 9, 12, 24)]) B.pre
  have hts : ∀ w ∈ lw_all, w.before _ s = true := fun w h => hts0 w (List.mem_cons_of_mem _ h)
  have hown : s.vm.findClass RL = some m.cls := findClass_of_methodNamed B.named
  have hlocks := B.notSynchronized
  have hC : CallFix p m c cL_nerveOf 4 s _ lw_all RL := ⟨hx, hb, hml, hown, hts⟩
  subst hsz
  have hD := hD0.self (sz := s.heap.size)
  generalize hAe : va_A (oW o cJ g (xW z a lv lk pu fa he n nv du ta w mp mi k nt fu re)) s.heap.size = A at hD ⊢
  have hA : ∀ q : Nat, s.heap.size ≤ q → A q := fun q h => by rw [← hAe]; exact Or.inr h
  have hS : va_S A s.heap s.heap [] := va_S.rf
  have hl := lv_entry ([.ref (a 0), .int (nI i), .ref o]) (n := 4) (Nat.le_of_ble_eq_true rfl)
  rw [lg_entry_eq]
  generalize (lg_sl ([.ref (a 0), .int (nI i), .ref o]) ++ List.replicate (4 - (lg_sl ([.ref (a 0), .int (nI i), .ref o])).length) Slot.unset).toArray = ls at hl ⊢
  have hl : lv_has ls 4 [(0, .ref (a 0)), (1, .int (nI i)), (2, .ref o)] := hl
  refine lv_aload_n hx hb dL_nerveOf_0 rfl (lv_at hl 2 rfl) ?_
  refine lv_iconst (v := 0) hx hb dL_nerveOf_1 (by decide) ?_
  refine lv_aload_n hx hb dL_nerveOf_2 rfl (lv_at hl 0 rfl) ?_
  refine lv_iload_n hx hb dL_nerveOf_3 rfl (lv_at hl 1 rfl) ?_
  have hPX := wj_Pr hP
  refine vp_callSi (W.runV (As := [.int (nI i)]) (rest := [.int 0, .ref o]) hC (c_X0_nerveOf l i hi hw) (cwV 1 hC.2.2.2.2 (gi_V mM_L_69 mV_X0_nerveOf mS_X0_nerveOf mI_MissRegistry mC_X0_nerveOf) rfl rfl rfl (by decide +kernel) ⟨Nat.le_of_ble_eq_true rfl, Nat.le_of_ble_eq_true rfl⟩) (xpre hK hPX) rfl rfl hl.1 rfl (lv_room (Nat.le_of_ble_eq_true rfl)) dL_nerveOf_4 ⟨Nat.le_of_ble_eq_true rfl, Nat.le_of_ble_eq_true rfl⟩) (fun r9 hr9 => ?_)
  rw [show r9 = nv i from hr9]
  refine lv_i2l hx hb dL_nerveOf_7 rfl ?_
  refine w_last hC hJ hP hD hS dL_nerveOf_8 (fun H locs hP hD hS => ?_)
  refine lv_goto (tgt := 15) hx hb dL_nerveOf_9 (by decide) ?_
  refine lv_iconst (v := 0) hx hb dL_nerveOf_15 (by decide) ?_
  exact W.iret (v := 0) hx hb hr (fun t ht hW => ⟨⟨0, _, rfl, ⟨rfl, (show vp_updL g 0 _ 0 = _ from if_pos rfl)⟩, by rw [ht]; exact hP, hD⟩, hS.F ht⟩) hS.2.2 dL_nerveOf_16
set_option maxHeartbeats 4000000 in
set_option maxRecDepth 100000 in
theorem w_isOnDuty (l : Launch) (sz : Nat) {D : va_G} {z : ClassId × ClassId} {a : Nat → Nat} {lv lk pu fa he : Nat → Int32} {n : Nat} {nv du ta : Nat → Int32} {w : Nat} {mp mi : Nat → Int32} {k : Nat} {nt fu re : Int32} {o : Nat} {cJ : ClassId} {g : Nat → Int64} (i : Nat) (hi : i < w) (hw : w ≤ 6) (h01 : du i = 0 ∨ du i = 1) : Met l yL_isOnDuty (wsH_ yL_isOnDuty cL_isOnDuty 4 (some .int) [(0, 16, 19, 24)]) ({ frames := 3, cells := 0, slots := 0, locals := 63 } : Room) (va_Pc [.ref (a 0), .int (nI i), .ref o] (fun U => U.heap.size = sz ∧ va_P D vwCl (oW o cJ g (xW z a lv lk pu fa he n nv du ta w mp mi k nt fu re)) U.heap ∧ kK D z U ∧ kJ D cJ U ∧ va_D (fun _ => True) (oW o cJ g (xW z a lv lk pu fa he n nv du ta w mp mi k nt fu re)))) (va_Qi (fun (r : Int32) (u : Nat → Int64) => r = 0 ∧ u 0 = b64 (du i)) (fun u t9 => va_P D vwCl (oW o cJ u (xW z a lv lk pu fa he n nv du ta w mp mi k nt fu re)) t9.heap ∧ va_D (va_A (oW o cJ g (xW z a lv lk pu fa he n nv du ta w mp mi k nt fu re)) sz) (oW o cJ u (xW z a lv lk pu fa he n nv du ta w mp mi k nt fu re))) (va_A (oW o cJ g (xW z a lv lk pu fa he n nv du ta w mp mi k nt fu re)) sz)) 0 0 (va_A (oW o cJ g (xW z a lv lk pu fa he n nv du ta w mp mi k nt fu re)) sz) := by
  refine va_MetW (hh := [(0, 16, 19, 24)]) (cc := cL_isOnDuty) (maxL := 4) (ret := (some .int)) (by decide) rfl ?_
  intro p e s m args below meth c s₁ B hml hv
  obtain ⟨rfl, hsz, hP, hK, hJ, hD0⟩ := hv
  have hx := B.exec
  have hb := B.bytes
  have hr := B.returns
  have hts0 := atoms_spec (ws := wsH_ yL_isOnDuty cL_isOnDuty 4 (some .int) [(0, 16, 19, 24)]) B.pre
  have hts : ∀ w ∈ lw_all, w.before _ s = true := fun w h => hts0 w (List.mem_cons_of_mem _ h)
  have hown : s.vm.findClass RL = some m.cls := findClass_of_methodNamed B.named
  have hlocks := B.notSynchronized
  have hC : CallFix p m c cL_isOnDuty 4 s _ lw_all RL := ⟨hx, hb, hml, hown, hts⟩
  subst hsz
  have hD := hD0.self (sz := s.heap.size)
  generalize hAe : va_A (oW o cJ g (xW z a lv lk pu fa he n nv du ta w mp mi k nt fu re)) s.heap.size = A at hD ⊢
  have hA : ∀ q : Nat, s.heap.size ≤ q → A q := fun q h => by rw [← hAe]; exact Or.inr h
  have hS : va_S A s.heap s.heap [] := va_S.rf
  have hl := lv_entry ([.ref (a 0), .int (nI i), .ref o]) (n := 4) (Nat.le_of_ble_eq_true rfl)
  rw [lg_entry_eq]
  generalize (lg_sl ([.ref (a 0), .int (nI i), .ref o]) ++ List.replicate (4 - (lg_sl ([.ref (a 0), .int (nI i), .ref o])).length) Slot.unset).toArray = ls at hl ⊢
  have hl : lv_has ls 4 [(0, .ref (a 0)), (1, .int (nI i)), (2, .ref o)] := hl
  refine lv_aload_n hx hb dL_isOnDuty_0 rfl (lv_at hl 2 rfl) ?_
  refine lv_iconst (v := 0) hx hb dL_isOnDuty_1 (by decide) ?_
  refine lv_aload_n hx hb dL_isOnDuty_2 rfl (lv_at hl 0 rfl) ?_
  refine lv_iload_n hx hb dL_isOnDuty_3 rfl (lv_at hl 1 rfl) ?_
  have hPX := wj_Pr hP
  refine vp_callSi (W.runV (As := [.int (nI i)]) (rest := [.int 0, .ref o]) hC (c_X0_isOnDuty l i hi hw h01) (cwV 1 hC.2.2.2.2 (gi_V mM_L_72 mV_X0_isOnDuty mS_X0_isOnDuty mI_MissRegistry mC_X0_isOnDuty) rfl rfl rfl (by decide +kernel) ⟨Nat.le_of_ble_eq_true rfl, Nat.le_of_ble_eq_true rfl⟩) (xpre hK hPX) rfl rfl hl.1 rfl (lv_room (Nat.le_of_ble_eq_true rfl)) dL_isOnDuty_4 ⟨Nat.le_of_ble_eq_true rfl, Nat.le_of_ble_eq_true rfl⟩) (fun r9 hr9 => ?_)
  rw [show r9 = du i from hr9]
  refine lv_if_eq (tgt := 14) hx hb dL_isOnDuty_7 (by decide) (fun c_7 => ?_) (fun c_7 => ?_)
  · refine lv_lconst (v := 0) hx hb dL_isOnDuty_14 rfl ?_
    refine w_last hC hJ hP hD hS dL_isOnDuty_15 (fun H locs hP hD hS => ?_)
    refine lv_goto (tgt := 22) hx hb dL_isOnDuty_16 (by decide) ?_
    refine lv_iconst (v := 0) hx hb dL_isOnDuty_22 (by decide) ?_
    exact W.iret (v := 0) hx hb hr (fun t ht hW => ⟨⟨0, _, rfl, ⟨rfl, ((show vp_updL g 0 _ 0 = _ from if_pos rfl).trans (show _ = b64 _ by unfold b64; rw [if_pos c_7]))⟩, by rw [ht]; exact hP, hD⟩, hS.F ht⟩) hS.2.2 dL_isOnDuty_23
  · refine lv_lconst (v := 1) hx hb dL_isOnDuty_10 rfl ?_
    refine lv_goto (tgt := 15) hx hb dL_isOnDuty_11 (by decide) ?_
    refine w_last hC hJ hP hD hS dL_isOnDuty_15 (fun H locs hP hD hS => ?_)
    refine lv_goto (tgt := 22) hx hb dL_isOnDuty_16 (by decide) ?_
    refine lv_iconst (v := 0) hx hb dL_isOnDuty_22 (by decide) ?_
    exact W.iret (v := 0) hx hb hr (fun t ht hW => ⟨⟨0, _, rfl, ⟨rfl, ((show vp_updL g 0 _ 0 = _ from if_pos rfl).trans (show _ = b64 _ by unfold b64; rw [if_neg c_7]))⟩, by rw [ht]; exact hP, hD⟩, hS.F ht⟩) hS.2.2 dL_isOnDuty_23
set_option maxHeartbeats 4000000 in
set_option maxRecDepth 100000 in
theorem w_wouldTell (l : Launch) (sz : Nat) {D : va_G} {z : ClassId × ClassId} {a : Nat → Nat} {lv lk pu fa he : Nat → Int32} {n : Nat} {nv du ta : Nat → Int32} {w : Nat} {mp mi : Nat → Int32} {k : Nat} {nt fu re : Int32} {o : Nat} {cJ : ClassId} {g : Nat → Int64} (i : Nat) (hi : i < w) (hw : w ≤ 6) (b : Int32) (h1 : ¬ b < 1) (h2 : b ≤ 60) : Met l yL_wouldTell (wsH_ yL_wouldTell cL_wouldTell 5 (some .int) [(0, 10, 13, 24), (0, 10, 17, 13)]) ({ frames := 3, cells := 0, slots := 0, locals := 65 } : Room) (va_Pc [.ref (a 0), .int (nI i), .int b, .ref o] (fun U => U.heap.size = sz ∧ va_P D vwCl (oW o cJ g (xW z a lv lk pu fa he n nv du ta w mp mi k nt fu re)) U.heap ∧ kK D z U ∧ kJ D cJ U ∧ va_D (fun _ => True) (oW o cJ g (xW z a lv lk pu fa he n nv du ta w mp mi k nt fu re)))) (va_Qi (fun (r : Int32) (u : Nat → Int64) => r = 0 ∧ u 0 = (sp_tale (nv i) b).toInt64) (fun u t9 => va_P D vwCl (oW o cJ u (xW z a lv lk pu fa he n nv du ta w mp mi k nt fu re)) t9.heap ∧ va_D (va_A (oW o cJ g (xW z a lv lk pu fa he n nv du ta w mp mi k nt fu re)) sz) (oW o cJ u (xW z a lv lk pu fa he n nv du ta w mp mi k nt fu re))) (va_A (oW o cJ g (xW z a lv lk pu fa he n nv du ta w mp mi k nt fu re)) sz)) 0 0 (va_A (oW o cJ g (xW z a lv lk pu fa he n nv du ta w mp mi k nt fu re)) sz) := by
  refine va_MetW (hh := [(0, 10, 13, 24), (0, 10, 17, 13)]) (cc := cL_wouldTell) (maxL := 5) (ret := (some .int)) (by decide) rfl ?_
  intro p e s m args below meth c s₁ B hml hv
  obtain ⟨rfl, hsz, hP, hK, hJ, hD0⟩ := hv
  have hx := B.exec
  have hb := B.bytes
  have hr := B.returns
  have hts0 := atoms_spec (ws := wsH_ yL_wouldTell cL_wouldTell 5 (some .int) [(0, 10, 13, 24), (0, 10, 17, 13)]) B.pre
  have hts : ∀ w ∈ lw_all, w.before _ s = true := fun w h => hts0 w (List.mem_cons_of_mem _ h)
  have hown : s.vm.findClass RL = some m.cls := findClass_of_methodNamed B.named
  have hlocks := B.notSynchronized
  have hC : CallFix p m c cL_wouldTell 5 s _ lw_all RL := ⟨hx, hb, hml, hown, hts⟩
  subst hsz
  have hD := hD0.self (sz := s.heap.size)
  generalize hAe : va_A (oW o cJ g (xW z a lv lk pu fa he n nv du ta w mp mi k nt fu re)) s.heap.size = A at hD ⊢
  have hA : ∀ q : Nat, s.heap.size ≤ q → A q := fun q h => by rw [← hAe]; exact Or.inr h
  have hS : va_S A s.heap s.heap [] := va_S.rf
  have hl := lv_entry ([.ref (a 0), .int (nI i), .int b, .ref o]) (n := 5) (Nat.le_of_ble_eq_true rfl)
  rw [lg_entry_eq]
  generalize (lg_sl ([.ref (a 0), .int (nI i), .int b, .ref o]) ++ List.replicate (5 - (lg_sl ([.ref (a 0), .int (nI i), .int b, .ref o])).length) Slot.unset).toArray = ls at hl ⊢
  have hl : lv_has ls 5 [(0, .ref (a 0)), (1, .int (nI i)), (2, .int b), (3, .ref o)] := hl
  refine lv_aload_n hx hb dL_wouldTell_0 rfl (lv_at hl 3 rfl) ?_
  refine lv_iconst (v := 0) hx hb dL_wouldTell_1 (by decide) ?_
  refine lv_aload_n hx hb dL_wouldTell_2 rfl (lv_at hl 0 rfl) ?_
  refine lv_iload_n hx hb dL_wouldTell_3 rfl (lv_at hl 1 rfl) ?_
  refine lv_iload_n hx hb dL_wouldTell_4 rfl (lv_at hl 2 rfl) ?_
  have hPX := wj_Pr hP
  refine vp_callSi (W.runV (As := [.int (nI i), .int b]) (rest := [.int 0, .ref o]) hC (c_X0_wouldTell l i hi hw b h1 h2) (cwV 2 hC.2.2.2.2 (gi_V mM_L_75 mV_X0_wouldTell mS_X0_wouldTell mI_MissRegistry mC_X0_wouldTell) rfl rfl rfl (by decide +kernel) ⟨Nat.le_of_ble_eq_true rfl, Nat.le_of_ble_eq_true rfl⟩) (xpre hK hPX) rfl rfl hl.1 rfl (lv_room (Nat.le_of_ble_eq_true rfl)) dL_wouldTell_5 ⟨Nat.le_of_ble_eq_true rfl, Nat.le_of_ble_eq_true rfl⟩) (fun r9 hr9 => ?_)
  rw [show r9 = sp_tale (nv i) b from hr9]
  refine lv_i2l hx hb dL_wouldTell_8 rfl ?_
  refine w_last hC hJ hP hD hS dL_wouldTell_9 (fun H locs hP hD hS => ?_)
  refine lv_goto (tgt := 21) hx hb dL_wouldTell_10 (by decide) ?_
  refine lv_iconst (v := 0) hx hb dL_wouldTell_21 (by decide) ?_
  exact W.iret (v := 0) hx hb hr (fun t ht hW => ⟨⟨0, _, rfl, ⟨rfl, (show vp_updL g 0 _ 0 = _ from if_pos rfl)⟩, by rw [ht]; exact hP, hD⟩, hS.F ht⟩) hS.2.2 dL_wouldTell_22
set_option maxHeartbeats 4000000 in
set_option maxRecDepth 100000 in
theorem w_personOf (l : Launch) (sz : Nat) {D : va_G} {z : ClassId × ClassId} {a : Nat → Nat} {lv lk pu fa he : Nat → Int32} {n : Nat} {nv du ta : Nat → Int32} {w : Nat} {mp mi : Nat → Int32} {k : Nat} {nt fu re : Int32} {o : Nat} {cJ : ClassId} {g : Nat → Int64} (i : Nat) (hi : i < k) (hk : k ≤ 60) : Met l yL_personOf (wsH_ yL_personOf cL_personOf 4 (some .int) [(0, 9, 12, 24)]) ({ frames := 2, cells := 0, slots := 0, locals := 42 } : Room) (va_Pc [.ref (a 0), .int (nI i), .ref o] (fun U => U.heap.size = sz ∧ va_P D vwCl (oW o cJ g (xW z a lv lk pu fa he n nv du ta w mp mi k nt fu re)) U.heap ∧ kK D z U ∧ kJ D cJ U ∧ va_D (fun _ => True) (oW o cJ g (xW z a lv lk pu fa he n nv du ta w mp mi k nt fu re)))) (va_Qi (fun (r : Int32) (u : Nat → Int64) => r = 0 ∧ u 0 = (mp i).toInt64) (fun u t9 => va_P D vwCl (oW o cJ u (xW z a lv lk pu fa he n nv du ta w mp mi k nt fu re)) t9.heap ∧ va_D (va_A (oW o cJ g (xW z a lv lk pu fa he n nv du ta w mp mi k nt fu re)) sz) (oW o cJ u (xW z a lv lk pu fa he n nv du ta w mp mi k nt fu re))) (va_A (oW o cJ g (xW z a lv lk pu fa he n nv du ta w mp mi k nt fu re)) sz)) 0 0 (va_A (oW o cJ g (xW z a lv lk pu fa he n nv du ta w mp mi k nt fu re)) sz) := by
  refine va_MetW (hh := [(0, 9, 12, 24)]) (cc := cL_personOf) (maxL := 4) (ret := (some .int)) (by decide) rfl ?_
  intro p e s m args below meth c s₁ B hml hv
  obtain ⟨rfl, hsz, hP, hK, hJ, hD0⟩ := hv
  have hx := B.exec
  have hb := B.bytes
  have hr := B.returns
  have hts0 := atoms_spec (ws := wsH_ yL_personOf cL_personOf 4 (some .int) [(0, 9, 12, 24)]) B.pre
  have hts : ∀ w ∈ lw_all, w.before _ s = true := fun w h => hts0 w (List.mem_cons_of_mem _ h)
  have hown : s.vm.findClass RL = some m.cls := findClass_of_methodNamed B.named
  have hlocks := B.notSynchronized
  have hC : CallFix p m c cL_personOf 4 s _ lw_all RL := ⟨hx, hb, hml, hown, hts⟩
  subst hsz
  have hD := hD0.self (sz := s.heap.size)
  generalize hAe : va_A (oW o cJ g (xW z a lv lk pu fa he n nv du ta w mp mi k nt fu re)) s.heap.size = A at hD ⊢
  have hA : ∀ q : Nat, s.heap.size ≤ q → A q := fun q h => by rw [← hAe]; exact Or.inr h
  have hS : va_S A s.heap s.heap [] := va_S.rf
  have hl := lv_entry ([.ref (a 0), .int (nI i), .ref o]) (n := 4) (Nat.le_of_ble_eq_true rfl)
  rw [lg_entry_eq]
  generalize (lg_sl ([.ref (a 0), .int (nI i), .ref o]) ++ List.replicate (4 - (lg_sl ([.ref (a 0), .int (nI i), .ref o])).length) Slot.unset).toArray = ls at hl ⊢
  have hl : lv_has ls 4 [(0, .ref (a 0)), (1, .int (nI i)), (2, .ref o)] := hl
  refine lv_aload_n hx hb dL_personOf_0 rfl (lv_at hl 2 rfl) ?_
  refine lv_iconst (v := 0) hx hb dL_personOf_1 (by decide) ?_
  refine lv_aload_n hx hb dL_personOf_2 rfl (lv_at hl 0 rfl) ?_
  refine lv_iload_n hx hb dL_personOf_3 rfl (lv_at hl 1 rfl) ?_
  have hPX := wj_Pr hP
  refine vp_callSi (W.runV (As := [.int (nI i)]) (rest := [.int 0, .ref o]) hC (c_X0_personOf l i hi hk) (cwV 1 hC.2.2.2.2 (gi_V mM_L_78 mV_X0_personOf mS_X0_personOf mI_MissRegistry mC_X0_personOf) rfl rfl rfl (by decide +kernel) ⟨Nat.le_of_ble_eq_true rfl, Nat.le_of_ble_eq_true rfl⟩) (xpre hK hPX) rfl rfl hl.1 rfl (lv_room (Nat.le_of_ble_eq_true rfl)) dL_personOf_4 ⟨Nat.le_of_ble_eq_true rfl, Nat.le_of_ble_eq_true rfl⟩) (fun r9 hr9 => ?_)
  rw [show r9 = mp i from hr9]
  refine lv_i2l hx hb dL_personOf_7 rfl ?_
  refine w_last hC hJ hP hD hS dL_personOf_8 (fun H locs hP hD hS => ?_)
  refine lv_goto (tgt := 15) hx hb dL_personOf_9 (by decide) ?_
  refine lv_iconst (v := 0) hx hb dL_personOf_15 (by decide) ?_
  exact W.iret (v := 0) hx hb hr (fun t ht hW => ⟨⟨0, _, rfl, ⟨rfl, (show vp_updL g 0 _ 0 = _ from if_pos rfl)⟩, by rw [ht]; exact hP, hD⟩, hS.F ht⟩) hS.2.2 dL_personOf_16
set_option maxHeartbeats 4000000 in
set_option maxRecDepth 100000 in
theorem w_inchesOf (l : Launch) (sz : Nat) {D : va_G} {z : ClassId × ClassId} {a : Nat → Nat} {lv lk pu fa he : Nat → Int32} {n : Nat} {nv du ta : Nat → Int32} {w : Nat} {mp mi : Nat → Int32} {k : Nat} {nt fu re : Int32} {o : Nat} {cJ : ClassId} {g : Nat → Int64} (i : Nat) (hi : i < k) (hk : k ≤ 60) : Met l yL_inchesOf (wsH_ yL_inchesOf cL_inchesOf 4 (some .int) [(0, 9, 12, 24)]) ({ frames := 2, cells := 0, slots := 0, locals := 42 } : Room) (va_Pc [.ref (a 0), .int (nI i), .ref o] (fun U => U.heap.size = sz ∧ va_P D vwCl (oW o cJ g (xW z a lv lk pu fa he n nv du ta w mp mi k nt fu re)) U.heap ∧ kK D z U ∧ kJ D cJ U ∧ va_D (fun _ => True) (oW o cJ g (xW z a lv lk pu fa he n nv du ta w mp mi k nt fu re)))) (va_Qi (fun (r : Int32) (u : Nat → Int64) => r = 0 ∧ u 0 = (mi i).toInt64) (fun u t9 => va_P D vwCl (oW o cJ u (xW z a lv lk pu fa he n nv du ta w mp mi k nt fu re)) t9.heap ∧ va_D (va_A (oW o cJ g (xW z a lv lk pu fa he n nv du ta w mp mi k nt fu re)) sz) (oW o cJ u (xW z a lv lk pu fa he n nv du ta w mp mi k nt fu re))) (va_A (oW o cJ g (xW z a lv lk pu fa he n nv du ta w mp mi k nt fu re)) sz)) 0 0 (va_A (oW o cJ g (xW z a lv lk pu fa he n nv du ta w mp mi k nt fu re)) sz) := by
  refine va_MetW (hh := [(0, 9, 12, 24)]) (cc := cL_inchesOf) (maxL := 4) (ret := (some .int)) (by decide) rfl ?_
  intro p e s m args below meth c s₁ B hml hv
  obtain ⟨rfl, hsz, hP, hK, hJ, hD0⟩ := hv
  have hx := B.exec
  have hb := B.bytes
  have hr := B.returns
  have hts0 := atoms_spec (ws := wsH_ yL_inchesOf cL_inchesOf 4 (some .int) [(0, 9, 12, 24)]) B.pre
  have hts : ∀ w ∈ lw_all, w.before _ s = true := fun w h => hts0 w (List.mem_cons_of_mem _ h)
  have hown : s.vm.findClass RL = some m.cls := findClass_of_methodNamed B.named
  have hlocks := B.notSynchronized
  have hC : CallFix p m c cL_inchesOf 4 s _ lw_all RL := ⟨hx, hb, hml, hown, hts⟩
  subst hsz
  have hD := hD0.self (sz := s.heap.size)
  generalize hAe : va_A (oW o cJ g (xW z a lv lk pu fa he n nv du ta w mp mi k nt fu re)) s.heap.size = A at hD ⊢
  have hA : ∀ q : Nat, s.heap.size ≤ q → A q := fun q h => by rw [← hAe]; exact Or.inr h
  have hS : va_S A s.heap s.heap [] := va_S.rf
  have hl := lv_entry ([.ref (a 0), .int (nI i), .ref o]) (n := 4) (Nat.le_of_ble_eq_true rfl)
  rw [lg_entry_eq]
  generalize (lg_sl ([.ref (a 0), .int (nI i), .ref o]) ++ List.replicate (4 - (lg_sl ([.ref (a 0), .int (nI i), .ref o])).length) Slot.unset).toArray = ls at hl ⊢
  have hl : lv_has ls 4 [(0, .ref (a 0)), (1, .int (nI i)), (2, .ref o)] := hl
  refine lv_aload_n hx hb dL_inchesOf_0 rfl (lv_at hl 2 rfl) ?_
  refine lv_iconst (v := 0) hx hb dL_inchesOf_1 (by decide) ?_
  refine lv_aload_n hx hb dL_inchesOf_2 rfl (lv_at hl 0 rfl) ?_
  refine lv_iload_n hx hb dL_inchesOf_3 rfl (lv_at hl 1 rfl) ?_
  have hPX := wj_Pr hP
  refine vp_callSi (W.runV (As := [.int (nI i)]) (rest := [.int 0, .ref o]) hC (c_X0_inchesOf l i hi hk) (cwV 1 hC.2.2.2.2 (gi_V mM_L_81 mV_X0_inchesOf mS_X0_inchesOf mI_MissRegistry mC_X0_inchesOf) rfl rfl rfl (by decide +kernel) ⟨Nat.le_of_ble_eq_true rfl, Nat.le_of_ble_eq_true rfl⟩) (xpre hK hPX) rfl rfl hl.1 rfl (lv_room (Nat.le_of_ble_eq_true rfl)) dL_inchesOf_4 ⟨Nat.le_of_ble_eq_true rfl, Nat.le_of_ble_eq_true rfl⟩) (fun r9 hr9 => ?_)
  rw [show r9 = mi i from hr9]
  refine lv_i2l hx hb dL_inchesOf_7 rfl ?_
  refine w_last hC hJ hP hD hS dL_inchesOf_8 (fun H locs hP hD hS => ?_)
  refine lv_goto (tgt := 15) hx hb dL_inchesOf_9 (by decide) ?_
  refine lv_iconst (v := 0) hx hb dL_inchesOf_15 (by decide) ?_
  exact W.iret (v := 0) hx hb hr (fun t ht hW => ⟨⟨0, _, rfl, ⟨rfl, (show vp_updL g 0 _ 0 = _ from if_pos rfl)⟩, by rw [ht]; exact hP, hD⟩, hS.F ht⟩) hS.2.2 dL_inchesOf_16
set_option maxHeartbeats 4000000 in
set_option maxRecDepth 100000 in
theorem w_sealOf (l : Launch) (sz : Nat) {D : va_G} {z : ClassId × ClassId} {a : Nat → Nat} {lv lk pu fa he : Nat → Int32} {n : Nat} {nv du ta : Nat → Int32} {w : Nat} {mp mi : Nat → Int32} {k : Nat} {nt fu re : Int32} {o : Nat} {cJ : ClassId} {g : Nat → Int64} {q9 t9 : Nat → Nat} (i : Nat) (hi : i < k) (hk : k ≤ 60) : Met l yL_sealOf (wsH_ yL_sealOf cL_sealOf 4 (some .int) [(0, 9, 12, 24)]) ({ frames := 7, cells := 0, slots := 0, locals := 150 } : Room) (va_Pc [.ref (a 0), .int (nI i), .ref o] (fun U => U.heap.size = sz ∧ va_P D vwCl (oW o cJ g (xW z a lv lk pu fa he n nv du ta w mp mi k nt fu re)) U.heap ∧ kK D z U ∧ kJ D cJ U ∧ va_D (fun _ => True) (oW o cJ g (xW z a lv lk pu fa he n nv du ta w mp mi k nt fu re)) ∧ cH q9 t9 nA U U.heap)) (va_Qi (fun (r : Int32) (u : Nat → Int64) => r = 0 ∧ u 0 = (sp_seal (mp i) (mi i)).toInt64) (fun u t9 => va_P D vwCl (oW o cJ u (xW z a lv lk pu fa he n nv du ta w mp mi k nt fu re)) t9.heap ∧ va_D (va_A (oW o cJ g (xW z a lv lk pu fa he n nv du ta w mp mi k nt fu re)) sz) (oW o cJ u (xW z a lv lk pu fa he n nv du ta w mp mi k nt fu re))) (va_A (oW o cJ g (xW z a lv lk pu fa he n nv du ta w mp mi k nt fu re)) sz)) 0 0 (va_A (oW o cJ g (xW z a lv lk pu fa he n nv du ta w mp mi k nt fu re)) sz) := by
  refine va_MetW (hh := [(0, 9, 12, 24)]) (cc := cL_sealOf) (maxL := 4) (ret := (some .int)) (by decide) rfl ?_
  intro p e s m args below meth c s₁ B hml hv
  obtain ⟨rfl, hsz, hP, hK, hJ, hD0, hE⟩ := hv
  have hx := B.exec
  have hb := B.bytes
  have hr := B.returns
  have hts0 := atoms_spec (ws := wsH_ yL_sealOf cL_sealOf 4 (some .int) [(0, 9, 12, 24)]) B.pre
  have hts : ∀ w ∈ lw_all, w.before _ s = true := fun w h => hts0 w (List.mem_cons_of_mem _ h)
  have hown : s.vm.findClass RL = some m.cls := findClass_of_methodNamed B.named
  have hlocks := B.notSynchronized
  have hC : CallFix p m c cL_sealOf 4 s _ lw_all RL := ⟨hx, hb, hml, hown, hts⟩
  subst hsz
  have hD := hD0.self (sz := s.heap.size)
  generalize hAe : va_A (oW o cJ g (xW z a lv lk pu fa he n nv du ta w mp mi k nt fu re)) s.heap.size = A at hD ⊢
  have hA : ∀ q : Nat, s.heap.size ≤ q → A q := fun q h => by rw [← hAe]; exact Or.inr h
  have hS : va_S A s.heap s.heap [] := va_S.rf
  have hl := lv_entry ([.ref (a 0), .int (nI i), .ref o]) (n := 4) (Nat.le_of_ble_eq_true rfl)
  rw [lg_entry_eq]
  generalize (lg_sl ([.ref (a 0), .int (nI i), .ref o]) ++ List.replicate (4 - (lg_sl ([.ref (a 0), .int (nI i), .ref o])).length) Slot.unset).toArray = ls at hl ⊢
  have hl : lv_has ls 4 [(0, .ref (a 0)), (1, .int (nI i)), (2, .ref o)] := hl
  refine lv_aload_n hx hb dL_sealOf_0 rfl (lv_at hl 2 rfl) ?_
  refine lv_iconst (v := 0) hx hb dL_sealOf_1 (by decide) ?_
  refine lv_aload_n hx hb dL_sealOf_2 rfl (lv_at hl 0 rfl) ?_
  refine lv_iload_n hx hb dL_sealOf_3 rfl (lv_at hl 1 rfl) ?_
  have hPX := wj_Pr hP
  refine vp_callSi (W.runV (As := [.int (nI i)]) (rest := [.int 0, .ref o]) hC (c_X0_sealOf l i hi hk) (cwV 1 hC.2.2.2.2 (gi_V mM_L_84 mV_X0_sealOf mS_X0_sealOf mI_MissRegistry mC_X0_sealOf) rfl rfl rfl (by decide +kernel) ⟨Nat.le_of_ble_eq_true rfl, Nat.le_of_ble_eq_true rfl⟩) ⟨fun a1 U g mk q8 => ⟨q8.1, ⟨q8.2.1.1, va_K.moved (u := U) (U := U.calling g mk a1) (Vm.Alike.refl U.vm) q8.2.1.2⟩, cH.same (u := U) (U := U.calling g mk a1) rfl q8.2.2⟩, va_recv hK hPX (ci := 0) (q0 := 0) rfl rfl, fun U hU hW => ⟨rfl, ⟨by rw [hU]; exact hPX, va_K.moved hW.alike hK⟩, by rw [hU]; exact hE.warm hW⟩⟩ rfl rfl hl.1 rfl (lv_room (Nat.le_of_ble_eq_true rfl)) dL_sealOf_4 ⟨Nat.le_of_ble_eq_true rfl, Nat.le_of_ble_eq_true rfl⟩) (fun r9 hr9 => ?_)
  rw [show r9 = sp_seal (mp i) (mi i) from hr9]
  refine lv_i2l hx hb dL_sealOf_7 rfl ?_
  refine w_last hC hJ hP hD hS dL_sealOf_8 (fun H locs hP hD hS => ?_)
  refine lv_goto (tgt := 15) hx hb dL_sealOf_9 (by decide) ?_
  refine lv_iconst (v := 0) hx hb dL_sealOf_15 (by decide) ?_
  exact W.iret (v := 0) hx hb hr (fun t ht hW => ⟨⟨0, _, rfl, ⟨rfl, (show vp_updL g 0 _ 0 = _ from if_pos rfl)⟩, by rw [ht]; exact hP, hD⟩, hS.F ht⟩) hS.2.2 dL_sealOf_16
set_option maxHeartbeats 4000000 in
set_option maxRecDepth 100000 in
theorem w_wouldCertify (l : Launch) (sz : Nat) {D : va_G} {z : ClassId × ClassId} {a : Nat → Nat} {lv lk pu fa he : Nat → Int32} {n : Nat} {nv du ta : Nat → Int32} {w : Nat} {mp mi : Nat → Int32} {k : Nat} {nt fu re : Int32} {o : Nat} {cJ : ClassId} {g : Nat → Int64} (b : Int32) (h1 : ¬ b < 1) (h2 : b ≤ 60) (hw : w ≤ 6) : Met l yL_wouldCertify (wsH_ yL_wouldCertify cL_wouldCertify 4 (some .int) [(0, 9, 12, 13)]) ({ frames := 4, cells := 0, slots := 0, locals := 87 } : Room) (va_Pc [.ref (a 0), .int b, .ref o] (fun U => U.heap.size = sz ∧ va_P D vwCl (oW o cJ g (xW z a lv lk pu fa he n nv du ta w mp mi k nt fu re)) U.heap ∧ kK D z U ∧ kJ D cJ U ∧ va_D (fun _ => True) (oW o cJ g (xW z a lv lk pu fa he n nv du ta w mp mi k nt fu re)))) (va_Qi (fun (r : Int32) (u : Nat → Int64) => r = 0 ∧ u 0 = (sp_mid du nv b ta w).toInt64) (fun u t9 => va_P D vwCl (oW o cJ u (xW z a lv lk pu fa he n nv du (sp_tarr du nv b ta w) w mp mi k nt fu re)) t9.heap ∧ va_D (va_A (oW o cJ g (xW z a lv lk pu fa he n nv du ta w mp mi k nt fu re)) sz) (oW o cJ u (xW z a lv lk pu fa he n nv du (sp_tarr du nv b ta w) w mp mi k nt fu re))) (va_A (oW o cJ g (xW z a lv lk pu fa he n nv du ta w mp mi k nt fu re)) sz)) 0 0 (va_A (oW o cJ g (xW z a lv lk pu fa he n nv du ta w mp mi k nt fu re)) sz) := by
  refine va_MetW (hh := [(0, 9, 12, 13)]) (cc := cL_wouldCertify) (maxL := 4) (ret := (some .int)) (by decide) rfl ?_
  intro p e s m args below meth c s₁ B hml hv
  obtain ⟨rfl, hsz, hP, hK, hJ, hD0⟩ := hv
  have hx := B.exec
  have hb := B.bytes
  have hr := B.returns
  have hts0 := atoms_spec (ws := wsH_ yL_wouldCertify cL_wouldCertify 4 (some .int) [(0, 9, 12, 13)]) B.pre
  have hts : ∀ w ∈ lw_all, w.before _ s = true := fun w h => hts0 w (List.mem_cons_of_mem _ h)
  have hown : s.vm.findClass RL = some m.cls := findClass_of_methodNamed B.named
  have hlocks := B.notSynchronized
  have hC : CallFix p m c cL_wouldCertify 4 s _ lw_all RL := ⟨hx, hb, hml, hown, hts⟩
  subst hsz
  have hD := hD0.self (sz := s.heap.size)
  generalize hAe : va_A (oW o cJ g (xW z a lv lk pu fa he n nv du ta w mp mi k nt fu re)) s.heap.size = A at hD ⊢
  have hA : ∀ q : Nat, s.heap.size ≤ q → A q := fun q h => by rw [← hAe]; exact Or.inr h
  have hS : va_S A s.heap s.heap [] := va_S.rf
  have hl := lv_entry ([.ref (a 0), .int b, .ref o]) (n := 4) (Nat.le_of_ble_eq_true rfl)
  rw [lg_entry_eq]
  generalize (lg_sl ([.ref (a 0), .int b, .ref o]) ++ List.replicate (4 - (lg_sl ([.ref (a 0), .int b, .ref o])).length) Slot.unset).toArray = ls at hl ⊢
  have hl : lv_has ls 4 [(0, .ref (a 0)), (1, .int b), (2, .ref o)] := hl
  refine lv_aload_n hx hb dL_wouldCertify_0 rfl (lv_at hl 2 rfl) ?_
  refine lv_iconst (v := 0) hx hb dL_wouldCertify_1 (by decide) ?_
  refine lv_aload_n hx hb dL_wouldCertify_2 rfl (lv_at hl 0 rfl) ?_
  refine lv_iload_n hx hb dL_wouldCertify_3 rfl (lv_at hl 1 rfl) ?_
  have hPX := wj_Pr hP
  have hF := wj_Fr hD hS hA
  refine va_calli (va_runV (As := [.int b]) (rest := [.int 0, .ref o]) hC (c_X0_wouldCertify l s.heap.size b h1 h2 hw) (cwV 1 hC.2.2.2.2 (gi_V mM_L_87 mV_X0_wouldCertify mS_X0_wouldCertify mI_MissRegistry mC_X0_wouldCertify) rfl rfl rfl (by decide +kernel) ⟨Nat.le_of_ble_eq_true rfl, Nat.le_of_ble_eq_true rfl⟩) ⟨fun a1 U g mk q => ⟨q.1, q.2.1, ⟨q.2.2.1.1, va_K.moved (u := U) (U := U.calling g mk a1) (Vm.Alike.refl U.vm) q.2.2.1.2⟩, q.2.2.2⟩, va_recv hK hPX (ci := 0) (q0 := 0) rfl rfl, fun U hU hW => ⟨rfl, by rw [hU], ⟨by rw [hU]; exact hPX, va_K.moved hW.alike hK⟩, (wj_Dr hD).weaken (fun _ _ _ _ => trivial)⟩⟩ rfl rfl hl.1 rfl (lv_room (Nat.le_of_ble_eq_true rfl)) dL_wouldCertify_4 ⟨Nat.le_of_ble_eq_true rfl, Nat.le_of_ble_eq_true rfl⟩) hS (fun q _ h => hF q h) hF (fun r9 u9 t H locs ht hvm hw9 hB hz9 hk9 hS9 => ?_)
  obtain ⟨hP1, hK1, hD1⟩ := hB
  rw [ht] at hP1
  obtain ⟨hP, hD⟩ := wj_r hP hD hk9 hF hP1 hD1
  have hP : va_P D vwCl (oW o cJ g (xW z a lv lk pu fa he n nv du (sp_tarr du nv b ta w) w mp mi k nt fu re)) H := hP
  have hD : va_D A (oW o cJ g (xW z a lv lk pu fa he n nv du (sp_tarr du nv b ta w) w mp mi k nt fu re)) := hD
  have hS := hS9
  rw [show r9 = sp_mid du nv b ta w from hw9]
  refine lv_i2l hx hb dL_wouldCertify_7 rfl ?_
  refine w_last hC hJ hP hD hS dL_wouldCertify_8 (fun H locs hP hD hS => ?_)
  refine lv_goto (tgt := 15) hx hb dL_wouldCertify_9 (by decide) ?_
  refine lv_iconst (v := 0) hx hb dL_wouldCertify_15 (by decide) ?_
  exact W.iret (v := 0) hx hb hr (fun t ht hW => ⟨⟨0, _, rfl, ⟨rfl, (show vp_updL g 0 _ 0 = _ from if_pos rfl)⟩, by rw [ht]; exact hP, hD⟩, hS.F ht⟩) hS.2.2 dL_wouldCertify_16
set_option maxHeartbeats 4000000 in
set_option maxRecDepth 100000 in
theorem w_wouldRefund (l : Launch) (sz : Nat) {D : va_G} {z : ClassId × ClassId} {a : Nat → Nat} {lv lk pu fa he : Nat → Int32} {n : Nat} {nv du ta : Nat → Int32} {w : Nat} {mp mi : Nat → Int32} {k : Nat} {nt fu re : Int32} {o : Nat} {cJ : ClassId} {g : Nat → Int64} (i : Nat) (b : Int32) (hi : i < n) (hn : n ≤ 10) (h1 : ¬ b < 1) (h2 : b ≤ 60) (hw : w ≤ 6) : Met l yL_wouldRefund (wsH_ yL_wouldRefund cL_wouldRefund 5 (some .int) [(0, 10, 13, 24), (0, 10, 17, 13)]) ({ frames := 4, cells := 0, slots := 0, locals := 88 } : Room) (va_Pc [.ref (a 0), .int (nI i), .int b, .ref o] (fun U => U.heap.size = sz ∧ va_P D vwCl (oW o cJ g (xW z a lv lk pu fa he n nv du ta w mp mi k nt fu re)) U.heap ∧ kK D z U ∧ kJ D cJ U ∧ va_D (fun _ => True) (oW o cJ g (xW z a lv lk pu fa he n nv du ta w mp mi k nt fu re)))) (va_Qi (fun (r : Int32) (u : Nat → Int64) => r = 0 ∧ u 0 = (sp_coins (lv i) (fa i) (lk i) fu (sp_mid du nv b ta w)).toInt64) (fun u t9 => va_P D vwCl (oW o cJ u (xW z a lv lk pu fa he n nv du (sp_tarr du nv b ta w) w mp mi k nt fu re)) t9.heap ∧ va_D (va_A (oW o cJ g (xW z a lv lk pu fa he n nv du ta w mp mi k nt fu re)) sz) (oW o cJ u (xW z a lv lk pu fa he n nv du (sp_tarr du nv b ta w) w mp mi k nt fu re))) (va_A (oW o cJ g (xW z a lv lk pu fa he n nv du ta w mp mi k nt fu re)) sz)) 0 0 (va_A (oW o cJ g (xW z a lv lk pu fa he n nv du ta w mp mi k nt fu re)) sz) := by
  refine va_MetW (hh := [(0, 10, 13, 24), (0, 10, 17, 13)]) (cc := cL_wouldRefund) (maxL := 5) (ret := (some .int)) (by decide) rfl ?_
  intro p e s m args below meth c s₁ B hml hv
  obtain ⟨rfl, hsz, hP, hK, hJ, hD0⟩ := hv
  have hx := B.exec
  have hb := B.bytes
  have hr := B.returns
  have hts0 := atoms_spec (ws := wsH_ yL_wouldRefund cL_wouldRefund 5 (some .int) [(0, 10, 13, 24), (0, 10, 17, 13)]) B.pre
  have hts : ∀ w ∈ lw_all, w.before _ s = true := fun w h => hts0 w (List.mem_cons_of_mem _ h)
  have hown : s.vm.findClass RL = some m.cls := findClass_of_methodNamed B.named
  have hlocks := B.notSynchronized
  have hC : CallFix p m c cL_wouldRefund 5 s _ lw_all RL := ⟨hx, hb, hml, hown, hts⟩
  subst hsz
  have hD := hD0.self (sz := s.heap.size)
  generalize hAe : va_A (oW o cJ g (xW z a lv lk pu fa he n nv du ta w mp mi k nt fu re)) s.heap.size = A at hD ⊢
  have hA : ∀ q : Nat, s.heap.size ≤ q → A q := fun q h => by rw [← hAe]; exact Or.inr h
  have hS : va_S A s.heap s.heap [] := va_S.rf
  have hl := lv_entry ([.ref (a 0), .int (nI i), .int b, .ref o]) (n := 5) (Nat.le_of_ble_eq_true rfl)
  rw [lg_entry_eq]
  generalize (lg_sl ([.ref (a 0), .int (nI i), .int b, .ref o]) ++ List.replicate (5 - (lg_sl ([.ref (a 0), .int (nI i), .int b, .ref o])).length) Slot.unset).toArray = ls at hl ⊢
  have hl : lv_has ls 5 [(0, .ref (a 0)), (1, .int (nI i)), (2, .int b), (3, .ref o)] := hl
  refine lv_aload_n hx hb dL_wouldRefund_0 rfl (lv_at hl 3 rfl) ?_
  refine lv_iconst (v := 0) hx hb dL_wouldRefund_1 (by decide) ?_
  refine lv_aload_n hx hb dL_wouldRefund_2 rfl (lv_at hl 0 rfl) ?_
  refine lv_iload_n hx hb dL_wouldRefund_3 rfl (lv_at hl 1 rfl) ?_
  refine lv_iload_n hx hb dL_wouldRefund_4 rfl (lv_at hl 2 rfl) ?_
  have hPX := wj_Pr hP
  have hF := wj_Fr hD hS hA
  refine va_calli (va_runV (As := [.int (nI i), .int b]) (rest := [.int 0, .ref o]) hC (c_X0_wouldRefund l s.heap.size i b hi hn h1 h2 hw) (cwV 2 hC.2.2.2.2 (gi_V mM_L_90 mV_X0_wouldRefund mS_X0_wouldRefund mI_MissRegistry mC_X0_wouldRefund) rfl rfl rfl (by decide +kernel) ⟨Nat.le_of_ble_eq_true rfl, Nat.le_of_ble_eq_true rfl⟩) ⟨fun a1 U g mk q => ⟨q.1, q.2.1, ⟨q.2.2.1.1, va_K.moved (u := U) (U := U.calling g mk a1) (Vm.Alike.refl U.vm) q.2.2.1.2⟩, q.2.2.2⟩, va_recv hK hPX (ci := 0) (q0 := 0) rfl rfl, fun U hU hW => ⟨rfl, by rw [hU], ⟨by rw [hU]; exact hPX, va_K.moved hW.alike hK⟩, (wj_Dr hD).weaken (fun _ _ _ _ => trivial)⟩⟩ rfl rfl hl.1 rfl (lv_room (Nat.le_of_ble_eq_true rfl)) dL_wouldRefund_5 ⟨Nat.le_of_ble_eq_true rfl, Nat.le_of_ble_eq_true rfl⟩) hS (fun q _ h => hF q h) hF (fun r9 u9 t H locs ht hvm hw9 hB hz9 hk9 hS9 => ?_)
  obtain ⟨hP1, hK1, hD1⟩ := hB
  rw [ht] at hP1
  obtain ⟨hP, hD⟩ := wj_r hP hD hk9 hF hP1 hD1
  have hP : va_P D vwCl (oW o cJ g (xW z a lv lk pu fa he n nv du (sp_tarr du nv b ta w) w mp mi k nt fu re)) H := hP
  have hD : va_D A (oW o cJ g (xW z a lv lk pu fa he n nv du (sp_tarr du nv b ta w) w mp mi k nt fu re)) := hD
  have hS := hS9
  rw [show r9 = sp_coins (lv i) (fa i) (lk i) fu (sp_mid du nv b ta w) from hw9]
  refine lv_i2l hx hb dL_wouldRefund_8 rfl ?_
  refine w_last hC hJ hP hD hS dL_wouldRefund_9 (fun H locs hP hD hS => ?_)
  refine lv_goto (tgt := 21) hx hb dL_wouldRefund_10 (by decide) ?_
  refine lv_iconst (v := 0) hx hb dL_wouldRefund_21 (by decide) ?_
  exact W.iret (v := 0) hx hb hr (fun t ht hW => ⟨⟨0, _, rfl, ⟨rfl, (show vp_updL g 0 _ 0 = _ from if_pos rfl)⟩, by rw [ht]; exact hP, hD⟩, hS.F ht⟩) hS.2.2 dL_wouldRefund_22
set_option maxHeartbeats 4000000 in
set_option maxRecDepth 100000 in
theorem w_missesUntilShaken (l : Launch) (sz : Nat) {D : va_G} {z : ClassId × ClassId} {a : Nat → Nat} {lv lk pu fa he : Nat → Int32} {n : Nat} {nv du ta : Nat → Int32} {w : Nat} {mp mi : Nat → Int32} {k : Nat} {nt fu re : Int32} {o : Nat} {cJ : ClassId} {g : Nat → Int64} (b : Int32) (h1 : ¬ b < 1) (h2 : b ≤ 60) (hw : w ≤ 6) : Met l yL_missesUntilShaken (wsH_ yL_missesUntilShaken cL_missesUntilShaken 4 (some .int) [(0, 9, 12, 13)]) ({ frames := 2, cells := 0, slots := 0, locals := 47 } : Room) (va_Pc [.ref (a 0), .int b, .ref o] (fun U => U.heap.size = sz ∧ va_P D vwCl (oW o cJ g (xW z a lv lk pu fa he n nv du ta w mp mi k nt fu re)) U.heap ∧ kK D z U ∧ kJ D cJ U ∧ va_D (fun _ => True) (oW o cJ g (xW z a lv lk pu fa he n nv du ta w mp mi k nt fu re)))) (va_Qi (fun (r : Int32) (u : Nat → Int64) => r = 0 ∧ u 0 = (sp_mus nv du w b).toInt64) (fun u t9 => va_P D vwCl (oW o cJ u (xW z a lv lk pu fa he n nv du ta w mp mi k nt fu re)) t9.heap ∧ va_D (va_A (oW o cJ g (xW z a lv lk pu fa he n nv du ta w mp mi k nt fu re)) sz) (oW o cJ u (xW z a lv lk pu fa he n nv du ta w mp mi k nt fu re))) (va_A (oW o cJ g (xW z a lv lk pu fa he n nv du ta w mp mi k nt fu re)) sz)) 0 0 (va_A (oW o cJ g (xW z a lv lk pu fa he n nv du ta w mp mi k nt fu re)) sz) := by
  refine va_MetW (hh := [(0, 9, 12, 13)]) (cc := cL_missesUntilShaken) (maxL := 4) (ret := (some .int)) (by decide) rfl ?_
  intro p e s m args below meth c s₁ B hml hv
  obtain ⟨rfl, hsz, hP, hK, hJ, hD0⟩ := hv
  have hx := B.exec
  have hb := B.bytes
  have hr := B.returns
  have hts0 := atoms_spec (ws := wsH_ yL_missesUntilShaken cL_missesUntilShaken 4 (some .int) [(0, 9, 12, 13)]) B.pre
  have hts : ∀ w ∈ lw_all, w.before _ s = true := fun w h => hts0 w (List.mem_cons_of_mem _ h)
  have hown : s.vm.findClass RL = some m.cls := findClass_of_methodNamed B.named
  have hlocks := B.notSynchronized
  have hC : CallFix p m c cL_missesUntilShaken 4 s _ lw_all RL := ⟨hx, hb, hml, hown, hts⟩
  subst hsz
  have hD := hD0.self (sz := s.heap.size)
  generalize hAe : va_A (oW o cJ g (xW z a lv lk pu fa he n nv du ta w mp mi k nt fu re)) s.heap.size = A at hD ⊢
  have hA : ∀ q : Nat, s.heap.size ≤ q → A q := fun q h => by rw [← hAe]; exact Or.inr h
  have hS : va_S A s.heap s.heap [] := va_S.rf
  have hl := lv_entry ([.ref (a 0), .int b, .ref o]) (n := 4) (Nat.le_of_ble_eq_true rfl)
  rw [lg_entry_eq]
  generalize (lg_sl ([.ref (a 0), .int b, .ref o]) ++ List.replicate (4 - (lg_sl ([.ref (a 0), .int b, .ref o])).length) Slot.unset).toArray = ls at hl ⊢
  have hl : lv_has ls 4 [(0, .ref (a 0)), (1, .int b), (2, .ref o)] := hl
  refine lv_aload_n hx hb dL_missesUntilShaken_0 rfl (lv_at hl 2 rfl) ?_
  refine lv_iconst (v := 0) hx hb dL_missesUntilShaken_1 (by decide) ?_
  refine lv_aload_n hx hb dL_missesUntilShaken_2 rfl (lv_at hl 0 rfl) ?_
  refine lv_iload_n hx hb dL_missesUntilShaken_3 rfl (lv_at hl 1 rfl) ?_
  have hPX := wj_Pr hP
  refine vp_callSi (W.runV (As := [.int b]) (rest := [.int 0, .ref o]) hC (c_X0_missesUntilShaken l b h1 h2 hw) (cwV 1 hC.2.2.2.2 (gi_V mM_L_93 mV_X0_missesUntilShaken mS_X0_missesUntilShaken mI_MissRegistry mC_X0_missesUntilShaken) rfl rfl rfl (by decide +kernel) ⟨Nat.le_of_ble_eq_true rfl, Nat.le_of_ble_eq_true rfl⟩) (xpre hK hPX) rfl rfl hl.1 rfl (lv_room (Nat.le_of_ble_eq_true rfl)) dL_missesUntilShaken_4 ⟨Nat.le_of_ble_eq_true rfl, Nat.le_of_ble_eq_true rfl⟩) (fun r9 hr9 => ?_)
  rw [show r9 = sp_mus nv du w b from hr9]
  refine lv_i2l hx hb dL_missesUntilShaken_7 rfl ?_
  refine w_last hC hJ hP hD hS dL_missesUntilShaken_8 (fun H locs hP hD hS => ?_)
  refine lv_goto (tgt := 15) hx hb dL_missesUntilShaken_9 (by decide) ?_
  refine lv_iconst (v := 0) hx hb dL_missesUntilShaken_15 (by decide) ?_
  exact W.iret (v := 0) hx hb hr (fun t ht hW => ⟨⟨0, _, rfl, ⟨rfl, (show vp_updL g 0 _ 0 = _ from if_pos rfl)⟩, by rw [ht]; exact hP, hD⟩, hS.F ht⟩) hS.2.2 dL_missesUntilShaken_16
set_option maxHeartbeats 4000000 in
set_option maxRecDepth 100000 in
theorem w_addPerson_a (l : Launch) (hst : l.stackTraces = false) (sz : Nat) {D : va_G} {z : ClassId × ClassId} {a : Nat → Nat} {lv lk pu fa he : Nat → Int32} {n : Nat} {nv du ta : Nat → Int32} {w : Nat} {mp mi : Nat → Int32} {k : Nat} {nt fu re : Int32} {o : Nat} {cJ : ClassId} {g : Nat → Int64} (x : Int32) (hbad : x < 0 ∨ ¬ x ≤ 99) : Met l yL_addPerson (wsH_ yL_addPerson cL_addPerson 4 (some .int) [(0, 9, 12, 13), (0, 9, 15, 15)]) ({ frames := 7, cells := 1, slots := 6, locals := 112 } : Room) (va_Pc [.ref (a 0), .int x, .ref o] (fun U => U.heap.size = sz ∧ va_P D vwCl (oW o cJ g (xW z a lv lk pu fa he n nv du ta w mp mi k nt fu re)) U.heap ∧ kK D z U ∧ kJ D cJ U ∧ va_D (fun _ => True) (oW o cJ g (xW z a lv lk pu fa he n nv du ta w mp mi k nt fu re)) ∧ tH nA U U.heap ∧ tN U)) (va_Qi (fun (r : Int32) (_ : Unit) => r = 1) (fun _ t9 => va_P D vwCl (oW o cJ g (xW z a lv lk pu fa he n nv du ta w mp mi k nt fu re)) t9.heap ∧ va_D (va_A (oW o cJ g (xW z a lv lk pu fa he n nv du ta w mp mi k nt fu re)) sz) (oW o cJ g (xW z a lv lk pu fa he n nv du ta w mp mi k nt fu re))) (va_A (oW o cJ g (xW z a lv lk pu fa he n nv du ta w mp mi k nt fu re)) sz)) 1 6 (va_A (oW o cJ g (xW z a lv lk pu fa he n nv du ta w mp mi k nt fu re)) sz) := by
  refine va_MetW (hh := [(0, 9, 12, 13), (0, 9, 15, 15)]) (cc := cL_addPerson) (maxL := 4) (ret := (some .int)) (by decide) rfl ?_
  intro p e s m args below meth c s₁ B hml hv
  obtain ⟨rfl, hsz, hP, hK, hJ, hD0, hT, hN⟩ := hv
  have hx := B.exec
  have hb := B.bytes
  have hr := B.returns
  have hts0 := atoms_spec (ws := wsH_ yL_addPerson cL_addPerson 4 (some .int) [(0, 9, 12, 13), (0, 9, 15, 15)]) B.pre
  have hts : ∀ w ∈ lw_all, w.before _ s = true := fun w h => hts0 w (List.mem_cons_of_mem _ h)
  have hown : s.vm.findClass RL = some m.cls := findClass_of_methodNamed B.named
  have hlocks := B.notSynchronized
  have hC : CallFix p m c cL_addPerson 4 s _ lw_all RL := ⟨hx, hb, hml, hown, hts⟩
  have htab := vx_table (x := yL_addPerson) B (hts0 _ List.mem_cons_self)
  subst hsz
  have hD := hD0.self (sz := s.heap.size)
  generalize hAe : va_A (oW o cJ g (xW z a lv lk pu fa he n nv du ta w mp mi k nt fu re)) s.heap.size = A at hD ⊢
  have hA : ∀ q : Nat, s.heap.size ≤ q → A q := fun q h => by rw [← hAe]; exact Or.inr h
  have hS : va_S A s.heap s.heap [] := va_S.rf
  have hl := lv_entry ([.ref (a 0), .int x, .ref o]) (n := 4) (Nat.le_of_ble_eq_true rfl)
  rw [lg_entry_eq]
  generalize (lg_sl ([.ref (a 0), .int x, .ref o]) ++ List.replicate (4 - (lg_sl ([.ref (a 0), .int x, .ref o])).length) Slot.unset).toArray = ls at hl ⊢
  have hl : lv_has ls 4 [(0, .ref (a 0)), (1, .int x), (2, .ref o)] := hl
  refine lv_aload_n hx hb dL_addPerson_0 rfl (lv_at hl 2 rfl) ?_
  refine lv_iconst (v := 0) hx hb dL_addPerson_1 (by decide) ?_
  refine lv_aload_n hx hb dL_addPerson_2 rfl (lv_at hl 0 rfl) ?_
  refine lv_iload_n hx hb dL_addPerson_3 rfl (lv_at hl 1 rfl) ?_
  have hPX := wj_Pr hP
  refine vx_calli (vx_runV (As := [.int x]) (rest := [.int 0, .ref o]) hC (ct_X0_addPerson_a l hst x hbad) (cwV 1 hC.2.2.2.2 (gi_V mM_L_7 mV_X0_addPerson mS_X0_addPerson mI_MissRegistry mC_X0_addPerson) rfl rfl rfl (by decide +kernel) ⟨Nat.le_of_ble_eq_true rfl, Nat.le_of_ble_eq_true rfl⟩) ⟨fun a1 U g mk q8 => ⟨q8.1, ⟨q8.2.1.1, va_K.moved (u := U) (U := U.calling g mk a1) (Vm.Alike.refl U.vm) q8.2.1.2⟩, tH.same (u := U) (U := U.calling g mk a1) rfl q8.2.2⟩, va_recv hK hPX (ci := 0) (q0 := 0) rfl rfl, fun U hU hW => ⟨rfl, ⟨by rw [hU]; exact hPX, va_K.moved hW.alike hK⟩, by rw [hU]; exact hT.warm hW⟩⟩ rfl rfl hl.1 rfl (lv_room (Nat.le_of_ble_eq_true rfl)) dL_addPerson_4 ⟨Nat.le_of_ble_eq_true rfl, Nat.le_of_ble_eq_true rfl⟩) hS (fun _ _ h => h.elim) (fun _ h => h.elim) (fun _ _ h => h.elim) (fun E9 ce q9 u t H1 locs ht hvm hp hB hz9 hk9 hS9 hce hcv hcl => ?_) (fun r9 u9 t H1 locs ht hvm hw9 hB hz9 hk9 hS9 => hw9.elim)
  have hB : E9 = "java/lang/IllegalArgumentException" := hB
  subst hB
  have hP : va_P D vwCl (oW o cJ g (xW z a lv lk pu fa he n nv du ta w mp mi k nt fu re)) H1 := wj_kept hP hk9
  have hS := hS9
  refine vx_catch (name := "java/lang/IllegalArgumentException") hown [] ⟨0, 9, 12, 13⟩ [⟨0, 9, 15, 15⟩] htab (fun z9 h9 => absurd h9 List.not_mem_nil) (by decide) (by decide) (hts _ mK_L_13) (va_Nw.use rfl hT.2.2.1.1.1) hce hcv hcl ?_
  refine W.widen (k := 1) (n := 6) (by omega) (by omega) ?_
  refine W.eq (g2 := F0 m 12 ls [.ref q9]) rfl ?_
  refine lv_astore_n (lv' := [(3, .ref q9), (0, .ref (a 0)), (1, .int x), (2, .ref o)]) hx hb dL_addPerson_12 rfl hl (by decide) rfl (fun ls hl => ?_)
  refine lv_iconst (v := 1) hx hb dL_addPerson_13 (by decide) ?_
  exact W.iret (v := 1) hx hb hr (fun t ht hW => ⟨⟨1, (), rfl, rfl, by rw [ht]; exact hP, hD⟩, hS.F ht⟩) hS.2.2 dL_addPerson_14
set_option maxHeartbeats 4000000 in
set_option maxRecDepth 100000 in
theorem w_addPerson_b (l : Launch) (hst : l.stackTraces = false) (sz : Nat) {D : va_G} {z : ClassId × ClassId} {a : Nat → Nat} {lv lk pu fa he : Nat → Int32} {n : Nat} {nv du ta : Nat → Int32} {w : Nat} {mp mi : Nat → Int32} {k : Nat} {nt fu re : Int32} {o : Nat} {cJ : ClassId} {g : Nat → Int64} (x : Int32) (h1 : ¬ x < 0) (h2 : x ≤ 99) (hn : n = 10) : Met l yL_addPerson (wsH_ yL_addPerson cL_addPerson 4 (some .int) [(0, 9, 12, 13), (0, 9, 15, 15)]) ({ frames := 7, cells := 1, slots := 6, locals := 112 } : Room) (va_Pc [.ref (a 0), .int x, .ref o] (fun U => U.heap.size = sz ∧ va_P D vwCl (oW o cJ g (xW z a lv lk pu fa he n nv du ta w mp mi k nt fu re)) U.heap ∧ kK D z U ∧ kJ D cJ U ∧ va_D (fun _ => True) (oW o cJ g (xW z a lv lk pu fa he n nv du ta w mp mi k nt fu re)) ∧ tH nA U U.heap ∧ tN U)) (va_Qi (fun (r : Int32) (_ : Unit) => r = 2) (fun _ t9 => va_P D vwCl (oW o cJ g (xW z a lv lk pu fa he n nv du ta w mp mi k nt fu re)) t9.heap ∧ va_D (va_A (oW o cJ g (xW z a lv lk pu fa he n nv du ta w mp mi k nt fu re)) sz) (oW o cJ g (xW z a lv lk pu fa he n nv du ta w mp mi k nt fu re))) (va_A (oW o cJ g (xW z a lv lk pu fa he n nv du ta w mp mi k nt fu re)) sz)) 1 6 (va_A (oW o cJ g (xW z a lv lk pu fa he n nv du ta w mp mi k nt fu re)) sz) := by
  refine va_MetW (hh := [(0, 9, 12, 13), (0, 9, 15, 15)]) (cc := cL_addPerson) (maxL := 4) (ret := (some .int)) (by decide) rfl ?_
  intro p e s m args below meth c s₁ B hml hv
  obtain ⟨rfl, hsz, hP, hK, hJ, hD0, hT, hN⟩ := hv
  have hx := B.exec
  have hb := B.bytes
  have hr := B.returns
  have hts0 := atoms_spec (ws := wsH_ yL_addPerson cL_addPerson 4 (some .int) [(0, 9, 12, 13), (0, 9, 15, 15)]) B.pre
  have hts : ∀ w ∈ lw_all, w.before _ s = true := fun w h => hts0 w (List.mem_cons_of_mem _ h)
  have hown : s.vm.findClass RL = some m.cls := findClass_of_methodNamed B.named
  have hlocks := B.notSynchronized
  have hC : CallFix p m c cL_addPerson 4 s _ lw_all RL := ⟨hx, hb, hml, hown, hts⟩
  have htab := vx_table (x := yL_addPerson) B (hts0 _ List.mem_cons_self)
  subst hsz
  have hD := hD0.self (sz := s.heap.size)
  generalize hAe : va_A (oW o cJ g (xW z a lv lk pu fa he n nv du ta w mp mi k nt fu re)) s.heap.size = A at hD ⊢
  have hA : ∀ q : Nat, s.heap.size ≤ q → A q := fun q h => by rw [← hAe]; exact Or.inr h
  have hS : va_S A s.heap s.heap [] := va_S.rf
  have hl := lv_entry ([.ref (a 0), .int x, .ref o]) (n := 4) (Nat.le_of_ble_eq_true rfl)
  rw [lg_entry_eq]
  generalize (lg_sl ([.ref (a 0), .int x, .ref o]) ++ List.replicate (4 - (lg_sl ([.ref (a 0), .int x, .ref o])).length) Slot.unset).toArray = ls at hl ⊢
  have hl : lv_has ls 4 [(0, .ref (a 0)), (1, .int x), (2, .ref o)] := hl
  refine lv_aload_n hx hb dL_addPerson_0 rfl (lv_at hl 2 rfl) ?_
  refine lv_iconst (v := 0) hx hb dL_addPerson_1 (by decide) ?_
  refine lv_aload_n hx hb dL_addPerson_2 rfl (lv_at hl 0 rfl) ?_
  refine lv_iload_n hx hb dL_addPerson_3 rfl (lv_at hl 1 rfl) ?_
  have hPX := wj_Pr hP
  refine vx_calli (vx_runV (As := [.int x]) (rest := [.int 0, .ref o]) hC (ct_X0_addPerson_b l hst x h1 h2 hn) (cwV 1 hC.2.2.2.2 (gi_V mM_L_7 mV_X0_addPerson mS_X0_addPerson mI_MissRegistry mC_X0_addPerson) rfl rfl rfl (by decide +kernel) ⟨Nat.le_of_ble_eq_true rfl, Nat.le_of_ble_eq_true rfl⟩) ⟨fun a1 U g mk q8 => ⟨q8.1, ⟨q8.2.1.1, va_K.moved (u := U) (U := U.calling g mk a1) (Vm.Alike.refl U.vm) q8.2.1.2⟩, tH.same (u := U) (U := U.calling g mk a1) rfl q8.2.2⟩, va_recv hK hPX (ci := 0) (q0 := 0) rfl rfl, fun U hU hW => ⟨rfl, ⟨by rw [hU]; exact hPX, va_K.moved hW.alike hK⟩, by rw [hU]; exact hT.warm hW⟩⟩ rfl rfl hl.1 rfl (lv_room (Nat.le_of_ble_eq_true rfl)) dL_addPerson_4 ⟨Nat.le_of_ble_eq_true rfl, Nat.le_of_ble_eq_true rfl⟩) hS (fun _ _ h => h.elim) (fun _ h => h.elim) (fun _ _ h => h.elim) (fun E9 ce q9 u t H1 locs ht hvm hp hB hz9 hk9 hS9 hce hcv hcl => ?_) (fun r9 u9 t H1 locs ht hvm hw9 hB hz9 hk9 hS9 => hw9.elim)
  have hB : E9 = "java/lang/IllegalStateException" := hB
  subst hB
  have hP : va_P D vwCl (oW o cJ g (xW z a lv lk pu fa he n nv du ta w mp mi k nt fu re)) H1 := wj_kept hP hk9
  have hS := hS9
  refine vx_catch (name := "java/lang/IllegalStateException") hown [⟨0, 9, 12, 13⟩] ⟨0, 9, 15, 15⟩ [] htab (fun z9 h9 => by rw [List.mem_singleton.mp h9]; exact Or.inr ⟨by decide, "java/lang/IllegalArgumentException", hts _ mK_L_13, hN.2⟩) (by decide) (by decide) (hts _ mK_L_15) (va_Nw.use rfl hT.2.2.1.1.2.1) hce hcv hcl ?_
  refine W.widen (k := 1) (n := 6) (by omega) (by omega) ?_
  refine W.eq (g2 := F0 m 15 ls [.ref q9]) rfl ?_
  refine lv_astore_n (lv' := [(3, .ref q9), (0, .ref (a 0)), (1, .int x), (2, .ref o)]) hx hb dL_addPerson_15 rfl hl (by decide) rfl (fun ls hl => ?_)
  refine lv_iconst (v := 2) hx hb dL_addPerson_16 (by decide) ?_
  exact W.iret (v := 2) hx hb hr (fun t ht hW => ⟨⟨2, (), rfl, rfl, by rw [ht]; exact hP, hD⟩, hS.F ht⟩) hS.2.2 dL_addPerson_17
set_option maxHeartbeats 4000000 in
set_option maxRecDepth 100000 in
theorem w_addWitness_a (l : Launch) (hst : l.stackTraces = false) (sz : Nat) {D : va_G} {z : ClassId × ClassId} {a : Nat → Nat} {lv lk pu fa he : Nat → Int32} {n : Nat} {nv du ta : Nat → Int32} {w : Nat} {mp mi : Nat → Int32} {k : Nat} {nt fu re : Int32} {o : Nat} {cJ : ClassId} {g : Nat → Int64} (x : Int32) (hbad : x < 0 ∨ ¬ x ≤ 9) : Met l yL_addWitness (wsH_ yL_addWitness cL_addWitness 4 (some .int) [(0, 9, 12, 13), (0, 9, 15, 15)]) ({ frames := 7, cells := 1, slots := 6, locals := 112 } : Room) (va_Pc [.ref (a 0), .int x, .ref o] (fun U => U.heap.size = sz ∧ va_P D vwCl (oW o cJ g (xW z a lv lk pu fa he n nv du ta w mp mi k nt fu re)) U.heap ∧ kK D z U ∧ kJ D cJ U ∧ va_D (fun _ => True) (oW o cJ g (xW z a lv lk pu fa he n nv du ta w mp mi k nt fu re)) ∧ tH nA U U.heap ∧ tN U)) (va_Qi (fun (r : Int32) (_ : Unit) => r = 1) (fun _ t9 => va_P D vwCl (oW o cJ g (xW z a lv lk pu fa he n nv du ta w mp mi k nt fu re)) t9.heap ∧ va_D (va_A (oW o cJ g (xW z a lv lk pu fa he n nv du ta w mp mi k nt fu re)) sz) (oW o cJ g (xW z a lv lk pu fa he n nv du ta w mp mi k nt fu re))) (va_A (oW o cJ g (xW z a lv lk pu fa he n nv du ta w mp mi k nt fu re)) sz)) 1 6 (va_A (oW o cJ g (xW z a lv lk pu fa he n nv du ta w mp mi k nt fu re)) sz) := by
  refine va_MetW (hh := [(0, 9, 12, 13), (0, 9, 15, 15)]) (cc := cL_addWitness) (maxL := 4) (ret := (some .int)) (by decide) rfl ?_
  intro p e s m args below meth c s₁ B hml hv
  obtain ⟨rfl, hsz, hP, hK, hJ, hD0, hT, hN⟩ := hv
  have hx := B.exec
  have hb := B.bytes
  have hr := B.returns
  have hts0 := atoms_spec (ws := wsH_ yL_addWitness cL_addWitness 4 (some .int) [(0, 9, 12, 13), (0, 9, 15, 15)]) B.pre
  have hts : ∀ w ∈ lw_all, w.before _ s = true := fun w h => hts0 w (List.mem_cons_of_mem _ h)
  have hown : s.vm.findClass RL = some m.cls := findClass_of_methodNamed B.named
  have hlocks := B.notSynchronized
  have hC : CallFix p m c cL_addWitness 4 s _ lw_all RL := ⟨hx, hb, hml, hown, hts⟩
  have htab := vx_table (x := yL_addWitness) B (hts0 _ List.mem_cons_self)
  subst hsz
  have hD := hD0.self (sz := s.heap.size)
  generalize hAe : va_A (oW o cJ g (xW z a lv lk pu fa he n nv du ta w mp mi k nt fu re)) s.heap.size = A at hD ⊢
  have hA : ∀ q : Nat, s.heap.size ≤ q → A q := fun q h => by rw [← hAe]; exact Or.inr h
  have hS : va_S A s.heap s.heap [] := va_S.rf
  have hl := lv_entry ([.ref (a 0), .int x, .ref o]) (n := 4) (Nat.le_of_ble_eq_true rfl)
  rw [lg_entry_eq]
  generalize (lg_sl ([.ref (a 0), .int x, .ref o]) ++ List.replicate (4 - (lg_sl ([.ref (a 0), .int x, .ref o])).length) Slot.unset).toArray = ls at hl ⊢
  have hl : lv_has ls 4 [(0, .ref (a 0)), (1, .int x), (2, .ref o)] := hl
  refine lv_aload_n hx hb dL_addWitness_0 rfl (lv_at hl 2 rfl) ?_
  refine lv_iconst (v := 0) hx hb dL_addWitness_1 (by decide) ?_
  refine lv_aload_n hx hb dL_addWitness_2 rfl (lv_at hl 0 rfl) ?_
  refine lv_iload_n hx hb dL_addWitness_3 rfl (lv_at hl 1 rfl) ?_
  have hPX := wj_Pr hP
  refine vx_calli (vx_runV (As := [.int x]) (rest := [.int 0, .ref o]) hC (ct_X0_addWitness_a l hst x hbad) (cwV 1 hC.2.2.2.2 (gi_V mM_L_17 mV_X0_addWitness mS_X0_addWitness mI_MissRegistry mC_X0_addWitness) rfl rfl rfl (by decide +kernel) ⟨Nat.le_of_ble_eq_true rfl, Nat.le_of_ble_eq_true rfl⟩) ⟨fun a1 U g mk q8 => ⟨q8.1, ⟨q8.2.1.1, va_K.moved (u := U) (U := U.calling g mk a1) (Vm.Alike.refl U.vm) q8.2.1.2⟩, tH.same (u := U) (U := U.calling g mk a1) rfl q8.2.2⟩, va_recv hK hPX (ci := 0) (q0 := 0) rfl rfl, fun U hU hW => ⟨rfl, ⟨by rw [hU]; exact hPX, va_K.moved hW.alike hK⟩, by rw [hU]; exact hT.warm hW⟩⟩ rfl rfl hl.1 rfl (lv_room (Nat.le_of_ble_eq_true rfl)) dL_addWitness_4 ⟨Nat.le_of_ble_eq_true rfl, Nat.le_of_ble_eq_true rfl⟩) hS (fun _ _ h => h.elim) (fun _ h => h.elim) (fun _ _ h => h.elim) (fun E9 ce q9 u t H1 locs ht hvm hp hB hz9 hk9 hS9 hce hcv hcl => ?_) (fun r9 u9 t H1 locs ht hvm hw9 hB hz9 hk9 hS9 => hw9.elim)
  have hB : E9 = "java/lang/IllegalArgumentException" := hB
  subst hB
  have hP : va_P D vwCl (oW o cJ g (xW z a lv lk pu fa he n nv du ta w mp mi k nt fu re)) H1 := wj_kept hP hk9
  have hS := hS9
  refine vx_catch (name := "java/lang/IllegalArgumentException") hown [] ⟨0, 9, 12, 13⟩ [⟨0, 9, 15, 15⟩] htab (fun z9 h9 => absurd h9 List.not_mem_nil) (by decide) (by decide) (hts _ mK_L_13) (va_Nw.use rfl hT.2.2.1.1.1) hce hcv hcl ?_
  refine W.widen (k := 1) (n := 6) (by omega) (by omega) ?_
  refine W.eq (g2 := F0 m 12 ls [.ref q9]) rfl ?_
  refine lv_astore_n (lv' := [(3, .ref q9), (0, .ref (a 0)), (1, .int x), (2, .ref o)]) hx hb dL_addWitness_12 rfl hl (by decide) rfl (fun ls hl => ?_)
  refine lv_iconst (v := 1) hx hb dL_addWitness_13 (by decide) ?_
  exact W.iret (v := 1) hx hb hr (fun t ht hW => ⟨⟨1, (), rfl, rfl, by rw [ht]; exact hP, hD⟩, hS.F ht⟩) hS.2.2 dL_addWitness_14
set_option maxHeartbeats 4000000 in
set_option maxRecDepth 100000 in
theorem w_addWitness_b (l : Launch) (hst : l.stackTraces = false) (sz : Nat) {D : va_G} {z : ClassId × ClassId} {a : Nat → Nat} {lv lk pu fa he : Nat → Int32} {n : Nat} {nv du ta : Nat → Int32} {w : Nat} {mp mi : Nat → Int32} {k : Nat} {nt fu re : Int32} {o : Nat} {cJ : ClassId} {g : Nat → Int64} (x : Int32) (h1 : ¬ x < 0) (h2 : x ≤ 9) (hw : w = 6) : Met l yL_addWitness (wsH_ yL_addWitness cL_addWitness 4 (some .int) [(0, 9, 12, 13), (0, 9, 15, 15)]) ({ frames := 7, cells := 1, slots := 6, locals := 112 } : Room) (va_Pc [.ref (a 0), .int x, .ref o] (fun U => U.heap.size = sz ∧ va_P D vwCl (oW o cJ g (xW z a lv lk pu fa he n nv du ta w mp mi k nt fu re)) U.heap ∧ kK D z U ∧ kJ D cJ U ∧ va_D (fun _ => True) (oW o cJ g (xW z a lv lk pu fa he n nv du ta w mp mi k nt fu re)) ∧ tH nA U U.heap ∧ tN U)) (va_Qi (fun (r : Int32) (_ : Unit) => r = 2) (fun _ t9 => va_P D vwCl (oW o cJ g (xW z a lv lk pu fa he n nv du ta w mp mi k nt fu re)) t9.heap ∧ va_D (va_A (oW o cJ g (xW z a lv lk pu fa he n nv du ta w mp mi k nt fu re)) sz) (oW o cJ g (xW z a lv lk pu fa he n nv du ta w mp mi k nt fu re))) (va_A (oW o cJ g (xW z a lv lk pu fa he n nv du ta w mp mi k nt fu re)) sz)) 1 6 (va_A (oW o cJ g (xW z a lv lk pu fa he n nv du ta w mp mi k nt fu re)) sz) := by
  refine va_MetW (hh := [(0, 9, 12, 13), (0, 9, 15, 15)]) (cc := cL_addWitness) (maxL := 4) (ret := (some .int)) (by decide) rfl ?_
  intro p e s m args below meth c s₁ B hml hv
  obtain ⟨rfl, hsz, hP, hK, hJ, hD0, hT, hN⟩ := hv
  have hx := B.exec
  have hb := B.bytes
  have hr := B.returns
  have hts0 := atoms_spec (ws := wsH_ yL_addWitness cL_addWitness 4 (some .int) [(0, 9, 12, 13), (0, 9, 15, 15)]) B.pre
  have hts : ∀ w ∈ lw_all, w.before _ s = true := fun w h => hts0 w (List.mem_cons_of_mem _ h)
  have hown : s.vm.findClass RL = some m.cls := findClass_of_methodNamed B.named
  have hlocks := B.notSynchronized
  have hC : CallFix p m c cL_addWitness 4 s _ lw_all RL := ⟨hx, hb, hml, hown, hts⟩
  have htab := vx_table (x := yL_addWitness) B (hts0 _ List.mem_cons_self)
  subst hsz
  have hD := hD0.self (sz := s.heap.size)
  generalize hAe : va_A (oW o cJ g (xW z a lv lk pu fa he n nv du ta w mp mi k nt fu re)) s.heap.size = A at hD ⊢
  have hA : ∀ q : Nat, s.heap.size ≤ q → A q := fun q h => by rw [← hAe]; exact Or.inr h
  have hS : va_S A s.heap s.heap [] := va_S.rf
  have hl := lv_entry ([.ref (a 0), .int x, .ref o]) (n := 4) (Nat.le_of_ble_eq_true rfl)
  rw [lg_entry_eq]
  generalize (lg_sl ([.ref (a 0), .int x, .ref o]) ++ List.replicate (4 - (lg_sl ([.ref (a 0), .int x, .ref o])).length) Slot.unset).toArray = ls at hl ⊢
  have hl : lv_has ls 4 [(0, .ref (a 0)), (1, .int x), (2, .ref o)] := hl
  refine lv_aload_n hx hb dL_addWitness_0 rfl (lv_at hl 2 rfl) ?_
  refine lv_iconst (v := 0) hx hb dL_addWitness_1 (by decide) ?_
  refine lv_aload_n hx hb dL_addWitness_2 rfl (lv_at hl 0 rfl) ?_
  refine lv_iload_n hx hb dL_addWitness_3 rfl (lv_at hl 1 rfl) ?_
  have hPX := wj_Pr hP
  refine vx_calli (vx_runV (As := [.int x]) (rest := [.int 0, .ref o]) hC (ct_X0_addWitness_b l hst x h1 h2 hw) (cwV 1 hC.2.2.2.2 (gi_V mM_L_17 mV_X0_addWitness mS_X0_addWitness mI_MissRegistry mC_X0_addWitness) rfl rfl rfl (by decide +kernel) ⟨Nat.le_of_ble_eq_true rfl, Nat.le_of_ble_eq_true rfl⟩) ⟨fun a1 U g mk q8 => ⟨q8.1, ⟨q8.2.1.1, va_K.moved (u := U) (U := U.calling g mk a1) (Vm.Alike.refl U.vm) q8.2.1.2⟩, tH.same (u := U) (U := U.calling g mk a1) rfl q8.2.2⟩, va_recv hK hPX (ci := 0) (q0 := 0) rfl rfl, fun U hU hW => ⟨rfl, ⟨by rw [hU]; exact hPX, va_K.moved hW.alike hK⟩, by rw [hU]; exact hT.warm hW⟩⟩ rfl rfl hl.1 rfl (lv_room (Nat.le_of_ble_eq_true rfl)) dL_addWitness_4 ⟨Nat.le_of_ble_eq_true rfl, Nat.le_of_ble_eq_true rfl⟩) hS (fun _ _ h => h.elim) (fun _ h => h.elim) (fun _ _ h => h.elim) (fun E9 ce q9 u t H1 locs ht hvm hp hB hz9 hk9 hS9 hce hcv hcl => ?_) (fun r9 u9 t H1 locs ht hvm hw9 hB hz9 hk9 hS9 => hw9.elim)
  have hB : E9 = "java/lang/IllegalStateException" := hB
  subst hB
  have hP : va_P D vwCl (oW o cJ g (xW z a lv lk pu fa he n nv du ta w mp mi k nt fu re)) H1 := wj_kept hP hk9
  have hS := hS9
  refine vx_catch (name := "java/lang/IllegalStateException") hown [⟨0, 9, 12, 13⟩] ⟨0, 9, 15, 15⟩ [] htab (fun z9 h9 => by rw [List.mem_singleton.mp h9]; exact Or.inr ⟨by decide, "java/lang/IllegalArgumentException", hts _ mK_L_13, hN.2⟩) (by decide) (by decide) (hts _ mK_L_15) (va_Nw.use rfl hT.2.2.1.1.2.1) hce hcv hcl ?_
  refine W.widen (k := 1) (n := 6) (by omega) (by omega) ?_
  refine W.eq (g2 := F0 m 15 ls [.ref q9]) rfl ?_
  refine lv_astore_n (lv' := [(3, .ref q9), (0, .ref (a 0)), (1, .int x), (2, .ref o)]) hx hb dL_addWitness_15 rfl hl (by decide) rfl (fun ls hl => ?_)
  refine lv_iconst (v := 2) hx hb dL_addWitness_16 (by decide) ?_
  exact W.iret (v := 2) hx hb hr (fun t ht hW => ⟨⟨2, (), rfl, rfl, by rw [ht]; exact hP, hD⟩, hS.F ht⟩) hS.2.2 dL_addWitness_17
set_option maxHeartbeats 4000000 in
set_option maxRecDepth 100000 in
theorem w_setHeir_a (l : Launch) (hst : l.stackTraces = false) (sz : Nat) {D : va_G} {z : ClassId × ClassId} {a : Nat → Nat} {lv lk pu fa he : Nat → Int32} {n : Nat} {nv du ta : Nat → Int32} {w : Nat} {mp mi : Nat → Int32} {k : Nat} {nt fu re : Int32} {o : Nat} {cJ : ClassId} {g : Nat → Int64} (x y : Int32) (hbad : sp_isP n x = 0) : Met l yL_setHeir (wsH_ yL_setHeir cL_setHeir 5 (some .int) [(0, 10, 13, 24), (0, 10, 17, 13), (0, 10, 21, 15)]) ({ frames := 8, cells := 1, slots := 6, locals := 134 } : Room) (va_Pc [.ref (a 0), .int x, .int y, .ref o] (fun U => U.heap.size = sz ∧ va_P D vwCl (oW o cJ g (xW z a lv lk pu fa he n nv du ta w mp mi k nt fu re)) U.heap ∧ kK D z U ∧ kJ D cJ U ∧ va_D (fun _ => True) (oW o cJ g (xW z a lv lk pu fa he n nv du ta w mp mi k nt fu re)) ∧ tH nA U U.heap ∧ tN U)) (va_Qi (fun (r : Int32) (_ : Unit) => r = 1) (fun _ t9 => va_P D vwCl (oW o cJ g (xW z a lv lk pu fa he n nv du ta w mp mi k nt fu re)) t9.heap ∧ va_D (va_A (oW o cJ g (xW z a lv lk pu fa he n nv du ta w mp mi k nt fu re)) sz) (oW o cJ g (xW z a lv lk pu fa he n nv du ta w mp mi k nt fu re))) (va_A (oW o cJ g (xW z a lv lk pu fa he n nv du ta w mp mi k nt fu re)) sz)) 1 6 (va_A (oW o cJ g (xW z a lv lk pu fa he n nv du ta w mp mi k nt fu re)) sz) := by
  refine va_MetW (hh := [(0, 10, 13, 24), (0, 10, 17, 13), (0, 10, 21, 15)]) (cc := cL_setHeir) (maxL := 5) (ret := (some .int)) (by decide) rfl ?_
  intro p e s m args below meth c s₁ B hml hv
  obtain ⟨rfl, hsz, hP, hK, hJ, hD0, hT, hN⟩ := hv
  have hx := B.exec
  have hb := B.bytes
  have hr := B.returns
  have hts0 := atoms_spec (ws := wsH_ yL_setHeir cL_setHeir 5 (some .int) [(0, 10, 13, 24), (0, 10, 17, 13), (0, 10, 21, 15)]) B.pre
  have hts : ∀ w ∈ lw_all, w.before _ s = true := fun w h => hts0 w (List.mem_cons_of_mem _ h)
  have hown : s.vm.findClass RL = some m.cls := findClass_of_methodNamed B.named
  have hlocks := B.notSynchronized
  have hC : CallFix p m c cL_setHeir 5 s _ lw_all RL := ⟨hx, hb, hml, hown, hts⟩
  have htab := vx_table (x := yL_setHeir) B (hts0 _ List.mem_cons_self)
  subst hsz
  have hD := hD0.self (sz := s.heap.size)
  generalize hAe : va_A (oW o cJ g (xW z a lv lk pu fa he n nv du ta w mp mi k nt fu re)) s.heap.size = A at hD ⊢
  have hA : ∀ q : Nat, s.heap.size ≤ q → A q := fun q h => by rw [← hAe]; exact Or.inr h
  have hS : va_S A s.heap s.heap [] := va_S.rf
  have hl := lv_entry ([.ref (a 0), .int x, .int y, .ref o]) (n := 5) (Nat.le_of_ble_eq_true rfl)
  rw [lg_entry_eq]
  generalize (lg_sl ([.ref (a 0), .int x, .int y, .ref o]) ++ List.replicate (5 - (lg_sl ([.ref (a 0), .int x, .int y, .ref o])).length) Slot.unset).toArray = ls at hl ⊢
  have hl : lv_has ls 5 [(0, .ref (a 0)), (1, .int x), (2, .int y), (3, .ref o)] := hl
  refine lv_aload_n hx hb dL_setHeir_0 rfl (lv_at hl 3 rfl) ?_
  refine lv_iconst (v := 0) hx hb dL_setHeir_1 (by decide) ?_
  refine lv_aload_n hx hb dL_setHeir_2 rfl (lv_at hl 0 rfl) ?_
  refine lv_iload_n hx hb dL_setHeir_3 rfl (lv_at hl 1 rfl) ?_
  refine lv_iload_n hx hb dL_setHeir_4 rfl (lv_at hl 2 rfl) ?_
  have hPX := wj_Pr hP
  refine vx_calli (vx_runV (As := [.int x, .int y]) (rest := [.int 0, .ref o]) hC (ct_X0_setHeir_a l hst x y hbad) (cwV 2 hC.2.2.2.2 (gi_V mM_L_20 mV_X0_setHeir mS_X0_setHeir mI_MissRegistry mC_X0_setHeir) rfl rfl rfl (by decide +kernel) ⟨Nat.le_of_ble_eq_true rfl, Nat.le_of_ble_eq_true rfl⟩) ⟨fun a1 U g mk q8 => ⟨q8.1, ⟨q8.2.1.1, va_K.moved (u := U) (U := U.calling g mk a1) (Vm.Alike.refl U.vm) q8.2.1.2⟩, tH.same (u := U) (U := U.calling g mk a1) rfl q8.2.2⟩, va_recv hK hPX (ci := 0) (q0 := 0) rfl rfl, fun U hU hW => ⟨rfl, ⟨by rw [hU]; exact hPX, va_K.moved hW.alike hK⟩, by rw [hU]; exact hT.warm hW⟩⟩ rfl rfl hl.1 rfl (lv_room (Nat.le_of_ble_eq_true rfl)) dL_setHeir_5 ⟨Nat.le_of_ble_eq_true rfl, Nat.le_of_ble_eq_true rfl⟩) hS (fun _ _ h => h.elim) (fun _ h => h.elim) (fun _ _ h => h.elim) (fun E9 ce q9 u t H1 locs ht hvm hp hB hz9 hk9 hS9 hce hcv hcl => ?_) (fun r9 u9 t H1 locs ht hvm hw9 hB hz9 hk9 hS9 => hw9.elim)
  have hB : E9 = "java/lang/IndexOutOfBoundsException" := hB
  subst hB
  have hP : va_P D vwCl (oW o cJ g (xW z a lv lk pu fa he n nv du ta w mp mi k nt fu re)) H1 := wj_kept hP hk9
  have hS := hS9
  refine vx_catch (name := "java/lang/IndexOutOfBoundsException") hown [] ⟨0, 10, 13, 24⟩ [⟨0, 10, 17, 13⟩, ⟨0, 10, 21, 15⟩] htab (fun z9 h9 => absurd h9 List.not_mem_nil) (by decide) (by decide) (hts _ mK_L_24) (va_Nw.use rfl hT.2.2.1.1.2.2) hce hcv hcl ?_
  refine W.widen (k := 1) (n := 6) (by omega) (by omega) ?_
  refine W.eq (g2 := F0 m 13 ls [.ref q9]) rfl ?_
  refine lv_astore (lv' := [(4, .ref q9), (0, .ref (a 0)), (1, .int x), (2, .int y), (3, .ref o)]) hx hb dL_setHeir_13 hl (by decide) rfl (fun ls hl => ?_)
  refine lv_iconst (v := 1) hx hb dL_setHeir_15 (by decide) ?_
  exact W.iret (v := 1) hx hb hr (fun t ht hW => ⟨⟨1, (), rfl, rfl, by rw [ht]; exact hP, hD⟩, hS.F ht⟩) hS.2.2 dL_setHeir_16
set_option maxHeartbeats 4000000 in
set_option maxRecDepth 100000 in
theorem w_setHeir_b (l : Launch) (hst : l.stackTraces = false) (sz : Nat) {D : va_G} {z : ClassId × ClassId} {a : Nat → Nat} {lv lk pu fa he : Nat → Int32} {n : Nat} {nv du ta : Nat → Int32} {w : Nat} {mp mi : Nat → Int32} {k : Nat} {nt fu re : Int32} {o : Nat} {cJ : ClassId} {g : Nat → Int64} (i : Nat) (hi : i < n) (hn : n ≤ 10) (y : Int32) (hy : ¬ y = -1) (hbad : sp_isP n y = 0) : Met l yL_setHeir (wsH_ yL_setHeir cL_setHeir 5 (some .int) [(0, 10, 13, 24), (0, 10, 17, 13), (0, 10, 21, 15)]) ({ frames := 8, cells := 1, slots := 6, locals := 134 } : Room) (va_Pc [.ref (a 0), .int (nI i), .int y, .ref o] (fun U => U.heap.size = sz ∧ va_P D vwCl (oW o cJ g (xW z a lv lk pu fa he n nv du ta w mp mi k nt fu re)) U.heap ∧ kK D z U ∧ kJ D cJ U ∧ va_D (fun _ => True) (oW o cJ g (xW z a lv lk pu fa he n nv du ta w mp mi k nt fu re)) ∧ tH nA U U.heap ∧ tN U)) (va_Qi (fun (r : Int32) (_ : Unit) => r = 1) (fun _ t9 => va_P D vwCl (oW o cJ g (xW z a lv lk pu fa he n nv du ta w mp mi k nt fu re)) t9.heap ∧ va_D (va_A (oW o cJ g (xW z a lv lk pu fa he n nv du ta w mp mi k nt fu re)) sz) (oW o cJ g (xW z a lv lk pu fa he n nv du ta w mp mi k nt fu re))) (va_A (oW o cJ g (xW z a lv lk pu fa he n nv du ta w mp mi k nt fu re)) sz)) 1 6 (va_A (oW o cJ g (xW z a lv lk pu fa he n nv du ta w mp mi k nt fu re)) sz) := by
  refine va_MetW (hh := [(0, 10, 13, 24), (0, 10, 17, 13), (0, 10, 21, 15)]) (cc := cL_setHeir) (maxL := 5) (ret := (some .int)) (by decide) rfl ?_
  intro p e s m args below meth c s₁ B hml hv
  obtain ⟨rfl, hsz, hP, hK, hJ, hD0, hT, hN⟩ := hv
  have hx := B.exec
  have hb := B.bytes
  have hr := B.returns
  have hts0 := atoms_spec (ws := wsH_ yL_setHeir cL_setHeir 5 (some .int) [(0, 10, 13, 24), (0, 10, 17, 13), (0, 10, 21, 15)]) B.pre
  have hts : ∀ w ∈ lw_all, w.before _ s = true := fun w h => hts0 w (List.mem_cons_of_mem _ h)
  have hown : s.vm.findClass RL = some m.cls := findClass_of_methodNamed B.named
  have hlocks := B.notSynchronized
  have hC : CallFix p m c cL_setHeir 5 s _ lw_all RL := ⟨hx, hb, hml, hown, hts⟩
  have htab := vx_table (x := yL_setHeir) B (hts0 _ List.mem_cons_self)
  subst hsz
  have hD := hD0.self (sz := s.heap.size)
  generalize hAe : va_A (oW o cJ g (xW z a lv lk pu fa he n nv du ta w mp mi k nt fu re)) s.heap.size = A at hD ⊢
  have hA : ∀ q : Nat, s.heap.size ≤ q → A q := fun q h => by rw [← hAe]; exact Or.inr h
  have hS : va_S A s.heap s.heap [] := va_S.rf
  have hl := lv_entry ([.ref (a 0), .int (nI i), .int y, .ref o]) (n := 5) (Nat.le_of_ble_eq_true rfl)
  rw [lg_entry_eq]
  generalize (lg_sl ([.ref (a 0), .int (nI i), .int y, .ref o]) ++ List.replicate (5 - (lg_sl ([.ref (a 0), .int (nI i), .int y, .ref o])).length) Slot.unset).toArray = ls at hl ⊢
  have hl : lv_has ls 5 [(0, .ref (a 0)), (1, .int (nI i)), (2, .int y), (3, .ref o)] := hl
  refine lv_aload_n hx hb dL_setHeir_0 rfl (lv_at hl 3 rfl) ?_
  refine lv_iconst (v := 0) hx hb dL_setHeir_1 (by decide) ?_
  refine lv_aload_n hx hb dL_setHeir_2 rfl (lv_at hl 0 rfl) ?_
  refine lv_iload_n hx hb dL_setHeir_3 rfl (lv_at hl 1 rfl) ?_
  refine lv_iload_n hx hb dL_setHeir_4 rfl (lv_at hl 2 rfl) ?_
  have hPX := wj_Pr hP
  refine vx_calli (vx_runV (As := [.int (nI i), .int y]) (rest := [.int 0, .ref o]) hC (ct_X0_setHeir_b l hst i hi hn y hy hbad) (cwV 2 hC.2.2.2.2 (gi_V mM_L_20 mV_X0_setHeir mS_X0_setHeir mI_MissRegistry mC_X0_setHeir) rfl rfl rfl (by decide +kernel) ⟨Nat.le_of_ble_eq_true rfl, Nat.le_of_ble_eq_true rfl⟩) ⟨fun a1 U g mk q8 => ⟨q8.1, ⟨q8.2.1.1, va_K.moved (u := U) (U := U.calling g mk a1) (Vm.Alike.refl U.vm) q8.2.1.2⟩, tH.same (u := U) (U := U.calling g mk a1) rfl q8.2.2⟩, va_recv hK hPX (ci := 0) (q0 := 0) rfl rfl, fun U hU hW => ⟨rfl, ⟨by rw [hU]; exact hPX, va_K.moved hW.alike hK⟩, by rw [hU]; exact hT.warm hW⟩⟩ rfl rfl hl.1 rfl (lv_room (Nat.le_of_ble_eq_true rfl)) dL_setHeir_5 ⟨Nat.le_of_ble_eq_true rfl, Nat.le_of_ble_eq_true rfl⟩) hS (fun _ _ h => h.elim) (fun _ h => h.elim) (fun _ _ h => h.elim) (fun E9 ce q9 u t H1 locs ht hvm hp hB hz9 hk9 hS9 hce hcv hcl => ?_) (fun r9 u9 t H1 locs ht hvm hw9 hB hz9 hk9 hS9 => hw9.elim)
  have hB : E9 = "java/lang/IndexOutOfBoundsException" := hB
  subst hB
  have hP : va_P D vwCl (oW o cJ g (xW z a lv lk pu fa he n nv du ta w mp mi k nt fu re)) H1 := wj_kept hP hk9
  have hS := hS9
  refine vx_catch (name := "java/lang/IndexOutOfBoundsException") hown [] ⟨0, 10, 13, 24⟩ [⟨0, 10, 17, 13⟩, ⟨0, 10, 21, 15⟩] htab (fun z9 h9 => absurd h9 List.not_mem_nil) (by decide) (by decide) (hts _ mK_L_24) (va_Nw.use rfl hT.2.2.1.1.2.2) hce hcv hcl ?_
  refine W.widen (k := 1) (n := 6) (by omega) (by omega) ?_
  refine W.eq (g2 := F0 m 13 ls [.ref q9]) rfl ?_
  refine lv_astore (lv' := [(4, .ref q9), (0, .ref (a 0)), (1, .int (nI i)), (2, .int y), (3, .ref o)]) hx hb dL_setHeir_13 hl (by decide) rfl (fun ls hl => ?_)
  refine lv_iconst (v := 1) hx hb dL_setHeir_15 (by decide) ?_
  exact W.iret (v := 1) hx hb hr (fun t ht hW => ⟨⟨1, (), rfl, rfl, by rw [ht]; exact hP, hD⟩, hS.F ht⟩) hS.2.2 dL_setHeir_16
set_option maxHeartbeats 4000000 in
set_option maxRecDepth 100000 in
theorem w_setHeir_c (l : Launch) (hst : l.stackTraces = false) (sz : Nat) {D : va_G} {z : ClassId × ClassId} {a : Nat → Nat} {lv lk pu fa he : Nat → Int32} {n : Nat} {nv du ta : Nat → Int32} {w : Nat} {mp mi : Nat → Int32} {k : Nat} {nt fu re : Int32} {o : Nat} {cJ : ClassId} {g : Nat → Int64} (i : Nat) (hi : i < n) (hn : n ≤ 10) : Met l yL_setHeir (wsH_ yL_setHeir cL_setHeir 5 (some .int) [(0, 10, 13, 24), (0, 10, 17, 13), (0, 10, 21, 15)]) ({ frames := 7, cells := 1, slots := 6, locals := 113 } : Room) (va_Pc [.ref (a 0), .int (nI i), .int (nI i), .ref o] (fun U => U.heap.size = sz ∧ va_P D vwCl (oW o cJ g (xW z a lv lk pu fa he n nv du ta w mp mi k nt fu re)) U.heap ∧ kK D z U ∧ kJ D cJ U ∧ va_D (fun _ => True) (oW o cJ g (xW z a lv lk pu fa he n nv du ta w mp mi k nt fu re)) ∧ tH nA U U.heap ∧ tN U)) (va_Qi (fun (r : Int32) (_ : Unit) => r = 2) (fun _ t9 => va_P D vwCl (oW o cJ g (xW z a lv lk pu fa he n nv du ta w mp mi k nt fu re)) t9.heap ∧ va_D (va_A (oW o cJ g (xW z a lv lk pu fa he n nv du ta w mp mi k nt fu re)) sz) (oW o cJ g (xW z a lv lk pu fa he n nv du ta w mp mi k nt fu re))) (va_A (oW o cJ g (xW z a lv lk pu fa he n nv du ta w mp mi k nt fu re)) sz)) 1 6 (va_A (oW o cJ g (xW z a lv lk pu fa he n nv du ta w mp mi k nt fu re)) sz) := by
  refine va_MetW (hh := [(0, 10, 13, 24), (0, 10, 17, 13), (0, 10, 21, 15)]) (cc := cL_setHeir) (maxL := 5) (ret := (some .int)) (by decide) rfl ?_
  intro p e s m args below meth c s₁ B hml hv
  obtain ⟨rfl, hsz, hP, hK, hJ, hD0, hT, hN⟩ := hv
  have hx := B.exec
  have hb := B.bytes
  have hr := B.returns
  have hts0 := atoms_spec (ws := wsH_ yL_setHeir cL_setHeir 5 (some .int) [(0, 10, 13, 24), (0, 10, 17, 13), (0, 10, 21, 15)]) B.pre
  have hts : ∀ w ∈ lw_all, w.before _ s = true := fun w h => hts0 w (List.mem_cons_of_mem _ h)
  have hown : s.vm.findClass RL = some m.cls := findClass_of_methodNamed B.named
  have hlocks := B.notSynchronized
  have hC : CallFix p m c cL_setHeir 5 s _ lw_all RL := ⟨hx, hb, hml, hown, hts⟩
  have htab := vx_table (x := yL_setHeir) B (hts0 _ List.mem_cons_self)
  subst hsz
  have hD := hD0.self (sz := s.heap.size)
  generalize hAe : va_A (oW o cJ g (xW z a lv lk pu fa he n nv du ta w mp mi k nt fu re)) s.heap.size = A at hD ⊢
  have hA : ∀ q : Nat, s.heap.size ≤ q → A q := fun q h => by rw [← hAe]; exact Or.inr h
  have hS : va_S A s.heap s.heap [] := va_S.rf
  have hl := lv_entry ([.ref (a 0), .int (nI i), .int (nI i), .ref o]) (n := 5) (Nat.le_of_ble_eq_true rfl)
  rw [lg_entry_eq]
  generalize (lg_sl ([.ref (a 0), .int (nI i), .int (nI i), .ref o]) ++ List.replicate (5 - (lg_sl ([.ref (a 0), .int (nI i), .int (nI i), .ref o])).length) Slot.unset).toArray = ls at hl ⊢
  have hl : lv_has ls 5 [(0, .ref (a 0)), (1, .int (nI i)), (2, .int (nI i)), (3, .ref o)] := hl
  refine lv_aload_n hx hb dL_setHeir_0 rfl (lv_at hl 3 rfl) ?_
  refine lv_iconst (v := 0) hx hb dL_setHeir_1 (by decide) ?_
  refine lv_aload_n hx hb dL_setHeir_2 rfl (lv_at hl 0 rfl) ?_
  refine lv_iload_n hx hb dL_setHeir_3 rfl (lv_at hl 1 rfl) ?_
  refine lv_iload_n hx hb dL_setHeir_4 rfl (lv_at hl 2 rfl) ?_
  have hPX := wj_Pr hP
  refine vx_calli (vx_runV (As := [.int (nI i), .int (nI i)]) (rest := [.int 0, .ref o]) hC (ct_X0_setHeir_c l hst i hi hn) (cwV 2 hC.2.2.2.2 (gi_V mM_L_20 mV_X0_setHeir mS_X0_setHeir mI_MissRegistry mC_X0_setHeir) rfl rfl rfl (by decide +kernel) ⟨Nat.le_of_ble_eq_true rfl, Nat.le_of_ble_eq_true rfl⟩) ⟨fun a1 U g mk q8 => ⟨q8.1, ⟨q8.2.1.1, va_K.moved (u := U) (U := U.calling g mk a1) (Vm.Alike.refl U.vm) q8.2.1.2⟩, tH.same (u := U) (U := U.calling g mk a1) rfl q8.2.2⟩, va_recv hK hPX (ci := 0) (q0 := 0) rfl rfl, fun U hU hW => ⟨rfl, ⟨by rw [hU]; exact hPX, va_K.moved hW.alike hK⟩, by rw [hU]; exact hT.warm hW⟩⟩ rfl rfl hl.1 rfl (lv_room (Nat.le_of_ble_eq_true rfl)) dL_setHeir_5 ⟨Nat.le_of_ble_eq_true rfl, Nat.le_of_ble_eq_true rfl⟩) hS (fun _ _ h => h.elim) (fun _ h => h.elim) (fun _ _ h => h.elim) (fun E9 ce q9 u t H1 locs ht hvm hp hB hz9 hk9 hS9 hce hcv hcl => ?_) (fun r9 u9 t H1 locs ht hvm hw9 hB hz9 hk9 hS9 => hw9.elim)
  have hB : E9 = "java/lang/IllegalArgumentException" := hB
  subst hB
  have hP : va_P D vwCl (oW o cJ g (xW z a lv lk pu fa he n nv du ta w mp mi k nt fu re)) H1 := wj_kept hP hk9
  have hS := hS9
  refine vx_catch (name := "java/lang/IllegalArgumentException") hown [⟨0, 10, 13, 24⟩] ⟨0, 10, 17, 13⟩ [⟨0, 10, 21, 15⟩] htab (fun z9 h9 => by rw [List.mem_singleton.mp h9]; exact Or.inr ⟨by decide, "java/lang/IndexOutOfBoundsException", hts _ mK_L_24, hN.1.1⟩) (by decide) (by decide) (hts _ mK_L_13) (va_Nw.use rfl hT.2.2.1.1.1) hce hcv hcl ?_
  refine W.widen (k := 1) (n := 6) (by omega) (by omega) ?_
  refine W.eq (g2 := F0 m 17 ls [.ref q9]) rfl ?_
  refine lv_astore (lv' := [(4, .ref q9), (0, .ref (a 0)), (1, .int (nI i)), (2, .int (nI i)), (3, .ref o)]) hx hb dL_setHeir_17 hl (by decide) rfl (fun ls hl => ?_)
  refine lv_iconst (v := 2) hx hb dL_setHeir_19 (by decide) ?_
  exact W.iret (v := 2) hx hb hr (fun t ht hW => ⟨⟨2, (), rfl, rfl, by rw [ht]; exact hP, hD⟩, hS.F ht⟩) hS.2.2 dL_setHeir_20
set_option maxHeartbeats 4000000 in
set_option maxRecDepth 100000 in
theorem w_setHeir_d (l : Launch) (hst : l.stackTraces = false) (sz : Nat) {D : va_G} {z : ClassId × ClassId} {a : Nat → Nat} {lv lk pu fa he : Nat → Int32} {n : Nat} {nv du ta : Nat → Int32} {w : Nat} {mp mi : Nat → Int32} {k : Nat} {nt fu re : Int32} {o : Nat} {cJ : ClassId} {g : Nat → Int64} (i : Nat) (hi : i < n) (hn : n ≤ 10) (ha : lv i = 0) : Met l yL_setHeir (wsH_ yL_setHeir cL_setHeir 5 (some .int) [(0, 10, 13, 24), (0, 10, 17, 13), (0, 10, 21, 15)]) ({ frames := 8, cells := 1, slots := 6, locals := 134 } : Room) (va_Pc [.ref (a 0), .int (nI i), .int (-1), .ref o] (fun U => U.heap.size = sz ∧ va_P D vwCl (oW o cJ g (xW z a lv lk pu fa he n nv du ta w mp mi k nt fu re)) U.heap ∧ kK D z U ∧ kJ D cJ U ∧ va_D (fun _ => True) (oW o cJ g (xW z a lv lk pu fa he n nv du ta w mp mi k nt fu re)) ∧ tH nA U U.heap ∧ tN U)) (va_Qi (fun (r : Int32) (_ : Unit) => r = 3) (fun _ t9 => va_P D vwCl (oW o cJ g (xW z a lv lk pu fa he n nv du ta w mp mi k nt fu re)) t9.heap ∧ va_D (va_A (oW o cJ g (xW z a lv lk pu fa he n nv du ta w mp mi k nt fu re)) sz) (oW o cJ g (xW z a lv lk pu fa he n nv du ta w mp mi k nt fu re))) (va_A (oW o cJ g (xW z a lv lk pu fa he n nv du ta w mp mi k nt fu re)) sz)) 1 6 (va_A (oW o cJ g (xW z a lv lk pu fa he n nv du ta w mp mi k nt fu re)) sz) := by
  refine va_MetW (hh := [(0, 10, 13, 24), (0, 10, 17, 13), (0, 10, 21, 15)]) (cc := cL_setHeir) (maxL := 5) (ret := (some .int)) (by decide) rfl ?_
  intro p e s m args below meth c s₁ B hml hv
  obtain ⟨rfl, hsz, hP, hK, hJ, hD0, hT, hN⟩ := hv
  have hx := B.exec
  have hb := B.bytes
  have hr := B.returns
  have hts0 := atoms_spec (ws := wsH_ yL_setHeir cL_setHeir 5 (some .int) [(0, 10, 13, 24), (0, 10, 17, 13), (0, 10, 21, 15)]) B.pre
  have hts : ∀ w ∈ lw_all, w.before _ s = true := fun w h => hts0 w (List.mem_cons_of_mem _ h)
  have hown : s.vm.findClass RL = some m.cls := findClass_of_methodNamed B.named
  have hlocks := B.notSynchronized
  have hC : CallFix p m c cL_setHeir 5 s _ lw_all RL := ⟨hx, hb, hml, hown, hts⟩
  have htab := vx_table (x := yL_setHeir) B (hts0 _ List.mem_cons_self)
  subst hsz
  have hD := hD0.self (sz := s.heap.size)
  generalize hAe : va_A (oW o cJ g (xW z a lv lk pu fa he n nv du ta w mp mi k nt fu re)) s.heap.size = A at hD ⊢
  have hA : ∀ q : Nat, s.heap.size ≤ q → A q := fun q h => by rw [← hAe]; exact Or.inr h
  have hS : va_S A s.heap s.heap [] := va_S.rf
  have hl := lv_entry ([.ref (a 0), .int (nI i), .int (-1), .ref o]) (n := 5) (Nat.le_of_ble_eq_true rfl)
  rw [lg_entry_eq]
  generalize (lg_sl ([.ref (a 0), .int (nI i), .int (-1), .ref o]) ++ List.replicate (5 - (lg_sl ([.ref (a 0), .int (nI i), .int (-1), .ref o])).length) Slot.unset).toArray = ls at hl ⊢
  have hl : lv_has ls 5 [(0, .ref (a 0)), (1, .int (nI i)), (2, .int (-1)), (3, .ref o)] := hl
  refine lv_aload_n hx hb dL_setHeir_0 rfl (lv_at hl 3 rfl) ?_
  refine lv_iconst (v := 0) hx hb dL_setHeir_1 (by decide) ?_
  refine lv_aload_n hx hb dL_setHeir_2 rfl (lv_at hl 0 rfl) ?_
  refine lv_iload_n hx hb dL_setHeir_3 rfl (lv_at hl 1 rfl) ?_
  refine lv_iload_n hx hb dL_setHeir_4 rfl (lv_at hl 2 rfl) ?_
  have hPX := wj_Pr hP
  refine vx_calli (vx_runV (As := [.int (nI i), .int (-1)]) (rest := [.int 0, .ref o]) hC (ct_X0_setHeir_d l hst i hi hn ha) (cwV 2 hC.2.2.2.2 (gi_V mM_L_20 mV_X0_setHeir mS_X0_setHeir mI_MissRegistry mC_X0_setHeir) rfl rfl rfl (by decide +kernel) ⟨Nat.le_of_ble_eq_true rfl, Nat.le_of_ble_eq_true rfl⟩) ⟨fun a1 U g mk q8 => ⟨q8.1, ⟨q8.2.1.1, va_K.moved (u := U) (U := U.calling g mk a1) (Vm.Alike.refl U.vm) q8.2.1.2⟩, tH.same (u := U) (U := U.calling g mk a1) rfl q8.2.2⟩, va_recv hK hPX (ci := 0) (q0 := 0) rfl rfl, fun U hU hW => ⟨rfl, ⟨by rw [hU]; exact hPX, va_K.moved hW.alike hK⟩, by rw [hU]; exact hT.warm hW⟩⟩ rfl rfl hl.1 rfl (lv_room (Nat.le_of_ble_eq_true rfl)) dL_setHeir_5 ⟨Nat.le_of_ble_eq_true rfl, Nat.le_of_ble_eq_true rfl⟩) hS (fun _ _ h => h.elim) (fun _ h => h.elim) (fun _ _ h => h.elim) (fun E9 ce q9 u t H1 locs ht hvm hp hB hz9 hk9 hS9 hce hcv hcl => ?_) (fun r9 u9 t H1 locs ht hvm hw9 hB hz9 hk9 hS9 => hw9.elim)
  have hB : E9 = "java/lang/IllegalStateException" := hB
  subst hB
  have hP : va_P D vwCl (oW o cJ g (xW z a lv lk pu fa he n nv du ta w mp mi k nt fu re)) H1 := wj_kept hP hk9
  have hS := hS9
  refine vx_catch (name := "java/lang/IllegalStateException") hown [⟨0, 10, 13, 24⟩, ⟨0, 10, 17, 13⟩] ⟨0, 10, 21, 15⟩ [] htab (fun z9 h9 => (List.mem_cons.mp h9).elim (fun e9 => by rw [e9]; exact Or.inr ⟨by decide, "java/lang/IndexOutOfBoundsException", hts _ mK_L_24, hN.1.2⟩) (fun h8 => by rw [List.mem_singleton.mp h8]; exact Or.inr ⟨by decide, "java/lang/IllegalArgumentException", hts _ mK_L_13, hN.2⟩)) (by decide) (by decide) (hts _ mK_L_15) (va_Nw.use rfl hT.2.2.1.1.2.1) hce hcv hcl ?_
  refine W.widen (k := 1) (n := 6) (by omega) (by omega) ?_
  refine W.eq (g2 := F0 m 21 ls [.ref q9]) rfl ?_
  refine lv_astore (lv' := [(4, .ref q9), (0, .ref (a 0)), (1, .int (nI i)), (2, .int (-1)), (3, .ref o)]) hx hb dL_setHeir_21 hl (by decide) rfl (fun ls hl => ?_)
  refine lv_iconst (v := 3) hx hb dL_setHeir_23 (by decide) ?_
  exact W.iret (v := 3) hx hb hr (fun t ht hW => ⟨⟨3, (), rfl, rfl, by rw [ht]; exact hP, hD⟩, hS.F ht⟩) hS.2.2 dL_setHeir_24
set_option maxHeartbeats 4000000 in
set_option maxRecDepth 100000 in
theorem w_setHeir_e (l : Launch) (hst : l.stackTraces = false) (sz : Nat) {D : va_G} {z : ClassId × ClassId} {a : Nat → Nat} {lv lk pu fa he : Nat → Int32} {n : Nat} {nv du ta : Nat → Int32} {w : Nat} {mp mi : Nat → Int32} {k : Nat} {nt fu re : Int32} {o : Nat} {cJ : ClassId} {g : Nat → Int64} (i : Nat) (j : Nat) (hi : i < n) (hj : j < n) (hn : n ≤ 10) (hij : ¬ i = j) (ha : lv i = 0) : Met l yL_setHeir (wsH_ yL_setHeir cL_setHeir 5 (some .int) [(0, 10, 13, 24), (0, 10, 17, 13), (0, 10, 21, 15)]) ({ frames := 8, cells := 1, slots := 6, locals := 134 } : Room) (va_Pc [.ref (a 0), .int (nI i), .int (nI j), .ref o] (fun U => U.heap.size = sz ∧ va_P D vwCl (oW o cJ g (xW z a lv lk pu fa he n nv du ta w mp mi k nt fu re)) U.heap ∧ kK D z U ∧ kJ D cJ U ∧ va_D (fun _ => True) (oW o cJ g (xW z a lv lk pu fa he n nv du ta w mp mi k nt fu re)) ∧ tH nA U U.heap ∧ tN U)) (va_Qi (fun (r : Int32) (_ : Unit) => r = 3) (fun _ t9 => va_P D vwCl (oW o cJ g (xW z a lv lk pu fa he n nv du ta w mp mi k nt fu re)) t9.heap ∧ va_D (va_A (oW o cJ g (xW z a lv lk pu fa he n nv du ta w mp mi k nt fu re)) sz) (oW o cJ g (xW z a lv lk pu fa he n nv du ta w mp mi k nt fu re))) (va_A (oW o cJ g (xW z a lv lk pu fa he n nv du ta w mp mi k nt fu re)) sz)) 1 6 (va_A (oW o cJ g (xW z a lv lk pu fa he n nv du ta w mp mi k nt fu re)) sz) := by
  refine va_MetW (hh := [(0, 10, 13, 24), (0, 10, 17, 13), (0, 10, 21, 15)]) (cc := cL_setHeir) (maxL := 5) (ret := (some .int)) (by decide) rfl ?_
  intro p e s m args below meth c s₁ B hml hv
  obtain ⟨rfl, hsz, hP, hK, hJ, hD0, hT, hN⟩ := hv
  have hx := B.exec
  have hb := B.bytes
  have hr := B.returns
  have hts0 := atoms_spec (ws := wsH_ yL_setHeir cL_setHeir 5 (some .int) [(0, 10, 13, 24), (0, 10, 17, 13), (0, 10, 21, 15)]) B.pre
  have hts : ∀ w ∈ lw_all, w.before _ s = true := fun w h => hts0 w (List.mem_cons_of_mem _ h)
  have hown : s.vm.findClass RL = some m.cls := findClass_of_methodNamed B.named
  have hlocks := B.notSynchronized
  have hC : CallFix p m c cL_setHeir 5 s _ lw_all RL := ⟨hx, hb, hml, hown, hts⟩
  have htab := vx_table (x := yL_setHeir) B (hts0 _ List.mem_cons_self)
  subst hsz
  have hD := hD0.self (sz := s.heap.size)
  generalize hAe : va_A (oW o cJ g (xW z a lv lk pu fa he n nv du ta w mp mi k nt fu re)) s.heap.size = A at hD ⊢
  have hA : ∀ q : Nat, s.heap.size ≤ q → A q := fun q h => by rw [← hAe]; exact Or.inr h
  have hS : va_S A s.heap s.heap [] := va_S.rf
  have hl := lv_entry ([.ref (a 0), .int (nI i), .int (nI j), .ref o]) (n := 5) (Nat.le_of_ble_eq_true rfl)
  rw [lg_entry_eq]
  generalize (lg_sl ([.ref (a 0), .int (nI i), .int (nI j), .ref o]) ++ List.replicate (5 - (lg_sl ([.ref (a 0), .int (nI i), .int (nI j), .ref o])).length) Slot.unset).toArray = ls at hl ⊢
  have hl : lv_has ls 5 [(0, .ref (a 0)), (1, .int (nI i)), (2, .int (nI j)), (3, .ref o)] := hl
  refine lv_aload_n hx hb dL_setHeir_0 rfl (lv_at hl 3 rfl) ?_
  refine lv_iconst (v := 0) hx hb dL_setHeir_1 (by decide) ?_
  refine lv_aload_n hx hb dL_setHeir_2 rfl (lv_at hl 0 rfl) ?_
  refine lv_iload_n hx hb dL_setHeir_3 rfl (lv_at hl 1 rfl) ?_
  refine lv_iload_n hx hb dL_setHeir_4 rfl (lv_at hl 2 rfl) ?_
  have hPX := wj_Pr hP
  refine vx_calli (vx_runV (As := [.int (nI i), .int (nI j)]) (rest := [.int 0, .ref o]) hC (ct_X0_setHeir_e l hst i j hi hj hn hij ha) (cwV 2 hC.2.2.2.2 (gi_V mM_L_20 mV_X0_setHeir mS_X0_setHeir mI_MissRegistry mC_X0_setHeir) rfl rfl rfl (by decide +kernel) ⟨Nat.le_of_ble_eq_true rfl, Nat.le_of_ble_eq_true rfl⟩) ⟨fun a1 U g mk q8 => ⟨q8.1, ⟨q8.2.1.1, va_K.moved (u := U) (U := U.calling g mk a1) (Vm.Alike.refl U.vm) q8.2.1.2⟩, tH.same (u := U) (U := U.calling g mk a1) rfl q8.2.2⟩, va_recv hK hPX (ci := 0) (q0 := 0) rfl rfl, fun U hU hW => ⟨rfl, ⟨by rw [hU]; exact hPX, va_K.moved hW.alike hK⟩, by rw [hU]; exact hT.warm hW⟩⟩ rfl rfl hl.1 rfl (lv_room (Nat.le_of_ble_eq_true rfl)) dL_setHeir_5 ⟨Nat.le_of_ble_eq_true rfl, Nat.le_of_ble_eq_true rfl⟩) hS (fun _ _ h => h.elim) (fun _ h => h.elim) (fun _ _ h => h.elim) (fun E9 ce q9 u t H1 locs ht hvm hp hB hz9 hk9 hS9 hce hcv hcl => ?_) (fun r9 u9 t H1 locs ht hvm hw9 hB hz9 hk9 hS9 => hw9.elim)
  have hB : E9 = "java/lang/IllegalStateException" := hB
  subst hB
  have hP : va_P D vwCl (oW o cJ g (xW z a lv lk pu fa he n nv du ta w mp mi k nt fu re)) H1 := wj_kept hP hk9
  have hS := hS9
  refine vx_catch (name := "java/lang/IllegalStateException") hown [⟨0, 10, 13, 24⟩, ⟨0, 10, 17, 13⟩] ⟨0, 10, 21, 15⟩ [] htab (fun z9 h9 => (List.mem_cons.mp h9).elim (fun e9 => by rw [e9]; exact Or.inr ⟨by decide, "java/lang/IndexOutOfBoundsException", hts _ mK_L_24, hN.1.2⟩) (fun h8 => by rw [List.mem_singleton.mp h8]; exact Or.inr ⟨by decide, "java/lang/IllegalArgumentException", hts _ mK_L_13, hN.2⟩)) (by decide) (by decide) (hts _ mK_L_15) (va_Nw.use rfl hT.2.2.1.1.2.1) hce hcv hcl ?_
  refine W.widen (k := 1) (n := 6) (by omega) (by omega) ?_
  refine W.eq (g2 := F0 m 21 ls [.ref q9]) rfl ?_
  refine lv_astore (lv' := [(4, .ref q9), (0, .ref (a 0)), (1, .int (nI i)), (2, .int (nI j)), (3, .ref o)]) hx hb dL_setHeir_21 hl (by decide) rfl (fun ls hl => ?_)
  refine lv_iconst (v := 3) hx hb dL_setHeir_23 (by decide) ?_
  exact W.iret (v := 3) hx hb hr (fun t ht hW => ⟨⟨3, (), rfl, rfl, by rw [ht]; exact hP, hD⟩, hS.F ht⟩) hS.2.2 dL_setHeir_24
set_option maxHeartbeats 4000000 in
set_option maxRecDepth 100000 in
theorem w_buyFate_a (l : Launch) (hst : l.stackTraces = false) (sz : Nat) {D : va_G} {z : ClassId × ClassId} {a : Nat → Nat} {lv lk pu fa he : Nat → Int32} {n : Nat} {nv du ta : Nat → Int32} {w : Nat} {mp mi : Nat → Int32} {k : Nat} {nt fu re : Int32} {o : Nat} {cJ : ClassId} {g : Nat → Int64} (x : Int32) (hbad : sp_isP n x = 0) : Met l yL_buyFate (wsH_ yL_buyFate cL_buyFate 4 (some .int) [(0, 9, 12, 24), (0, 9, 15, 15)]) ({ frames := 8, cells := 1, slots := 6, locals := 133 } : Room) (va_Pc [.ref (a 0), .int x, .ref o] (fun U => U.heap.size = sz ∧ va_P D vwCl (oW o cJ g (xW z a lv lk pu fa he n nv du ta w mp mi k nt fu re)) U.heap ∧ kK D z U ∧ kJ D cJ U ∧ va_D (fun _ => True) (oW o cJ g (xW z a lv lk pu fa he n nv du ta w mp mi k nt fu re)) ∧ tH nA U U.heap ∧ tN U)) (va_Qi (fun (r : Int32) (_ : Unit) => r = 1) (fun _ t9 => va_P D vwCl (oW o cJ g (xW z a lv lk pu fa he n nv du ta w mp mi k nt fu re)) t9.heap ∧ va_D (va_A (oW o cJ g (xW z a lv lk pu fa he n nv du ta w mp mi k nt fu re)) sz) (oW o cJ g (xW z a lv lk pu fa he n nv du ta w mp mi k nt fu re))) (va_A (oW o cJ g (xW z a lv lk pu fa he n nv du ta w mp mi k nt fu re)) sz)) 1 6 (va_A (oW o cJ g (xW z a lv lk pu fa he n nv du ta w mp mi k nt fu re)) sz) := by
  refine va_MetW (hh := [(0, 9, 12, 24), (0, 9, 15, 15)]) (cc := cL_buyFate) (maxL := 4) (ret := (some .int)) (by decide) rfl ?_
  intro p e s m args below meth c s₁ B hml hv
  obtain ⟨rfl, hsz, hP, hK, hJ, hD0, hT, hN⟩ := hv
  have hx := B.exec
  have hb := B.bytes
  have hr := B.returns
  have hts0 := atoms_spec (ws := wsH_ yL_buyFate cL_buyFate 4 (some .int) [(0, 9, 12, 24), (0, 9, 15, 15)]) B.pre
  have hts : ∀ w ∈ lw_all, w.before _ s = true := fun w h => hts0 w (List.mem_cons_of_mem _ h)
  have hown : s.vm.findClass RL = some m.cls := findClass_of_methodNamed B.named
  have hlocks := B.notSynchronized
  have hC : CallFix p m c cL_buyFate 4 s _ lw_all RL := ⟨hx, hb, hml, hown, hts⟩
  have htab := vx_table (x := yL_buyFate) B (hts0 _ List.mem_cons_self)
  subst hsz
  have hD := hD0.self (sz := s.heap.size)
  generalize hAe : va_A (oW o cJ g (xW z a lv lk pu fa he n nv du ta w mp mi k nt fu re)) s.heap.size = A at hD ⊢
  have hA : ∀ q : Nat, s.heap.size ≤ q → A q := fun q h => by rw [← hAe]; exact Or.inr h
  have hS : va_S A s.heap s.heap [] := va_S.rf
  have hl := lv_entry ([.ref (a 0), .int x, .ref o]) (n := 4) (Nat.le_of_ble_eq_true rfl)
  rw [lg_entry_eq]
  generalize (lg_sl ([.ref (a 0), .int x, .ref o]) ++ List.replicate (4 - (lg_sl ([.ref (a 0), .int x, .ref o])).length) Slot.unset).toArray = ls at hl ⊢
  have hl : lv_has ls 4 [(0, .ref (a 0)), (1, .int x), (2, .ref o)] := hl
  refine lv_aload_n hx hb dL_buyFate_0 rfl (lv_at hl 2 rfl) ?_
  refine lv_iconst (v := 0) hx hb dL_buyFate_1 (by decide) ?_
  refine lv_aload_n hx hb dL_buyFate_2 rfl (lv_at hl 0 rfl) ?_
  refine lv_iload_n hx hb dL_buyFate_3 rfl (lv_at hl 1 rfl) ?_
  have hPX := wj_Pr hP
  refine vx_calli (vx_runV (As := [.int x]) (rest := [.int 0, .ref o]) hC (ct_X0_buyFate_a l hst x hbad) (cwV 1 hC.2.2.2.2 (gi_V mM_L_26 mV_X0_buyFate mS_X0_buyFate mI_MissRegistry mC_X0_buyFate) rfl rfl rfl (by decide +kernel) ⟨Nat.le_of_ble_eq_true rfl, Nat.le_of_ble_eq_true rfl⟩) ⟨fun a1 U g mk q8 => ⟨q8.1, ⟨q8.2.1.1, va_K.moved (u := U) (U := U.calling g mk a1) (Vm.Alike.refl U.vm) q8.2.1.2⟩, tH.same (u := U) (U := U.calling g mk a1) rfl q8.2.2⟩, va_recv hK hPX (ci := 0) (q0 := 0) rfl rfl, fun U hU hW => ⟨rfl, ⟨by rw [hU]; exact hPX, va_K.moved hW.alike hK⟩, by rw [hU]; exact hT.warm hW⟩⟩ rfl rfl hl.1 rfl (lv_room (Nat.le_of_ble_eq_true rfl)) dL_buyFate_4 ⟨Nat.le_of_ble_eq_true rfl, Nat.le_of_ble_eq_true rfl⟩) hS (fun _ _ h => h.elim) (fun _ h => h.elim) (fun _ _ h => h.elim) (fun E9 ce q9 u t H1 locs ht hvm hp hB hz9 hk9 hS9 hce hcv hcl => ?_) (fun r9 u9 t H1 locs ht hvm hw9 hB hz9 hk9 hS9 => hw9.elim)
  have hB : E9 = "java/lang/IndexOutOfBoundsException" := hB
  subst hB
  have hP : va_P D vwCl (oW o cJ g (xW z a lv lk pu fa he n nv du ta w mp mi k nt fu re)) H1 := wj_kept hP hk9
  have hS := hS9
  refine vx_catch (name := "java/lang/IndexOutOfBoundsException") hown [] ⟨0, 9, 12, 24⟩ [⟨0, 9, 15, 15⟩] htab (fun z9 h9 => absurd h9 List.not_mem_nil) (by decide) (by decide) (hts _ mK_L_24) (va_Nw.use rfl hT.2.2.1.1.2.2) hce hcv hcl ?_
  refine W.widen (k := 1) (n := 6) (by omega) (by omega) ?_
  refine W.eq (g2 := F0 m 12 ls [.ref q9]) rfl ?_
  refine lv_astore_n (lv' := [(3, .ref q9), (0, .ref (a 0)), (1, .int x), (2, .ref o)]) hx hb dL_buyFate_12 rfl hl (by decide) rfl (fun ls hl => ?_)
  refine lv_iconst (v := 1) hx hb dL_buyFate_13 (by decide) ?_
  exact W.iret (v := 1) hx hb hr (fun t ht hW => ⟨⟨1, (), rfl, rfl, by rw [ht]; exact hP, hD⟩, hS.F ht⟩) hS.2.2 dL_buyFate_14
set_option maxHeartbeats 4000000 in
set_option maxRecDepth 100000 in
theorem w_buyFate_b (l : Launch) (hst : l.stackTraces = false) (sz : Nat) {D : va_G} {z : ClassId × ClassId} {a : Nat → Nat} {lv lk pu fa he : Nat → Int32} {n : Nat} {nv du ta : Nat → Int32} {w : Nat} {mp mi : Nat → Int32} {k : Nat} {nt fu re : Int32} {o : Nat} {cJ : ClassId} {g : Nat → Int64} (i : Nat) (hi : i < n) (hn : n ≤ 10) (ha : lv i = 0) : Met l yL_buyFate (wsH_ yL_buyFate cL_buyFate 4 (some .int) [(0, 9, 12, 24), (0, 9, 15, 15)]) ({ frames := 8, cells := 1, slots := 6, locals := 133 } : Room) (va_Pc [.ref (a 0), .int (nI i), .ref o] (fun U => U.heap.size = sz ∧ va_P D vwCl (oW o cJ g (xW z a lv lk pu fa he n nv du ta w mp mi k nt fu re)) U.heap ∧ kK D z U ∧ kJ D cJ U ∧ va_D (fun _ => True) (oW o cJ g (xW z a lv lk pu fa he n nv du ta w mp mi k nt fu re)) ∧ tH nA U U.heap ∧ tN U)) (va_Qi (fun (r : Int32) (_ : Unit) => r = 2) (fun _ t9 => va_P D vwCl (oW o cJ g (xW z a lv lk pu fa he n nv du ta w mp mi k nt fu re)) t9.heap ∧ va_D (va_A (oW o cJ g (xW z a lv lk pu fa he n nv du ta w mp mi k nt fu re)) sz) (oW o cJ g (xW z a lv lk pu fa he n nv du ta w mp mi k nt fu re))) (va_A (oW o cJ g (xW z a lv lk pu fa he n nv du ta w mp mi k nt fu re)) sz)) 1 6 (va_A (oW o cJ g (xW z a lv lk pu fa he n nv du ta w mp mi k nt fu re)) sz) := by
  refine va_MetW (hh := [(0, 9, 12, 24), (0, 9, 15, 15)]) (cc := cL_buyFate) (maxL := 4) (ret := (some .int)) (by decide) rfl ?_
  intro p e s m args below meth c s₁ B hml hv
  obtain ⟨rfl, hsz, hP, hK, hJ, hD0, hT, hN⟩ := hv
  have hx := B.exec
  have hb := B.bytes
  have hr := B.returns
  have hts0 := atoms_spec (ws := wsH_ yL_buyFate cL_buyFate 4 (some .int) [(0, 9, 12, 24), (0, 9, 15, 15)]) B.pre
  have hts : ∀ w ∈ lw_all, w.before _ s = true := fun w h => hts0 w (List.mem_cons_of_mem _ h)
  have hown : s.vm.findClass RL = some m.cls := findClass_of_methodNamed B.named
  have hlocks := B.notSynchronized
  have hC : CallFix p m c cL_buyFate 4 s _ lw_all RL := ⟨hx, hb, hml, hown, hts⟩
  have htab := vx_table (x := yL_buyFate) B (hts0 _ List.mem_cons_self)
  subst hsz
  have hD := hD0.self (sz := s.heap.size)
  generalize hAe : va_A (oW o cJ g (xW z a lv lk pu fa he n nv du ta w mp mi k nt fu re)) s.heap.size = A at hD ⊢
  have hA : ∀ q : Nat, s.heap.size ≤ q → A q := fun q h => by rw [← hAe]; exact Or.inr h
  have hS : va_S A s.heap s.heap [] := va_S.rf
  have hl := lv_entry ([.ref (a 0), .int (nI i), .ref o]) (n := 4) (Nat.le_of_ble_eq_true rfl)
  rw [lg_entry_eq]
  generalize (lg_sl ([.ref (a 0), .int (nI i), .ref o]) ++ List.replicate (4 - (lg_sl ([.ref (a 0), .int (nI i), .ref o])).length) Slot.unset).toArray = ls at hl ⊢
  have hl : lv_has ls 4 [(0, .ref (a 0)), (1, .int (nI i)), (2, .ref o)] := hl
  refine lv_aload_n hx hb dL_buyFate_0 rfl (lv_at hl 2 rfl) ?_
  refine lv_iconst (v := 0) hx hb dL_buyFate_1 (by decide) ?_
  refine lv_aload_n hx hb dL_buyFate_2 rfl (lv_at hl 0 rfl) ?_
  refine lv_iload_n hx hb dL_buyFate_3 rfl (lv_at hl 1 rfl) ?_
  have hPX := wj_Pr hP
  refine vx_calli (vx_runV (As := [.int (nI i)]) (rest := [.int 0, .ref o]) hC (ct_X0_buyFate_b l hst i hi hn ha) (cwV 1 hC.2.2.2.2 (gi_V mM_L_26 mV_X0_buyFate mS_X0_buyFate mI_MissRegistry mC_X0_buyFate) rfl rfl rfl (by decide +kernel) ⟨Nat.le_of_ble_eq_true rfl, Nat.le_of_ble_eq_true rfl⟩) ⟨fun a1 U g mk q8 => ⟨q8.1, ⟨q8.2.1.1, va_K.moved (u := U) (U := U.calling g mk a1) (Vm.Alike.refl U.vm) q8.2.1.2⟩, tH.same (u := U) (U := U.calling g mk a1) rfl q8.2.2⟩, va_recv hK hPX (ci := 0) (q0 := 0) rfl rfl, fun U hU hW => ⟨rfl, ⟨by rw [hU]; exact hPX, va_K.moved hW.alike hK⟩, by rw [hU]; exact hT.warm hW⟩⟩ rfl rfl hl.1 rfl (lv_room (Nat.le_of_ble_eq_true rfl)) dL_buyFate_4 ⟨Nat.le_of_ble_eq_true rfl, Nat.le_of_ble_eq_true rfl⟩) hS (fun _ _ h => h.elim) (fun _ h => h.elim) (fun _ _ h => h.elim) (fun E9 ce q9 u t H1 locs ht hvm hp hB hz9 hk9 hS9 hce hcv hcl => ?_) (fun r9 u9 t H1 locs ht hvm hw9 hB hz9 hk9 hS9 => hw9.elim)
  have hB : E9 = "java/lang/IllegalStateException" := hB
  subst hB
  have hP : va_P D vwCl (oW o cJ g (xW z a lv lk pu fa he n nv du ta w mp mi k nt fu re)) H1 := wj_kept hP hk9
  have hS := hS9
  refine vx_catch (name := "java/lang/IllegalStateException") hown [⟨0, 9, 12, 24⟩] ⟨0, 9, 15, 15⟩ [] htab (fun z9 h9 => by rw [List.mem_singleton.mp h9]; exact Or.inr ⟨by decide, "java/lang/IndexOutOfBoundsException", hts _ mK_L_24, hN.1.2⟩) (by decide) (by decide) (hts _ mK_L_15) (va_Nw.use rfl hT.2.2.1.1.2.1) hce hcv hcl ?_
  refine W.widen (k := 1) (n := 6) (by omega) (by omega) ?_
  refine W.eq (g2 := F0 m 15 ls [.ref q9]) rfl ?_
  refine lv_astore_n (lv' := [(3, .ref q9), (0, .ref (a 0)), (1, .int (nI i)), (2, .ref o)]) hx hb dL_buyFate_15 rfl hl (by decide) rfl (fun ls hl => ?_)
  refine lv_iconst (v := 2) hx hb dL_buyFate_16 (by decide) ?_
  exact W.iret (v := 2) hx hb hr (fun t ht hW => ⟨⟨2, (), rfl, rfl, by rw [ht]; exact hP, hD⟩, hS.F ht⟩) hS.2.2 dL_buyFate_17
set_option maxHeartbeats 4000000 in
set_option maxRecDepth 100000 in
theorem w_buyFate_c (l : Launch) (hst : l.stackTraces = false) (sz : Nat) {D : va_G} {z : ClassId × ClassId} {a : Nat → Nat} {lv lk pu fa he : Nat → Int32} {n : Nat} {nv du ta : Nat → Int32} {w : Nat} {mp mi : Nat → Int32} {k : Nat} {nt fu re : Int32} {o : Nat} {cJ : ClassId} {g : Nat → Int64} (i : Nat) (hi : i < n) (hn : n ≤ 10) (ha : ¬ lv i = 0) (hf : ¬ fa i < 9) : Met l yL_buyFate (wsH_ yL_buyFate cL_buyFate 4 (some .int) [(0, 9, 12, 24), (0, 9, 15, 15)]) ({ frames := 7, cells := 1, slots := 6, locals := 112 } : Room) (va_Pc [.ref (a 0), .int (nI i), .ref o] (fun U => U.heap.size = sz ∧ va_P D vwCl (oW o cJ g (xW z a lv lk pu fa he n nv du ta w mp mi k nt fu re)) U.heap ∧ kK D z U ∧ kJ D cJ U ∧ va_D (fun _ => True) (oW o cJ g (xW z a lv lk pu fa he n nv du ta w mp mi k nt fu re)) ∧ tH nA U U.heap ∧ tN U)) (va_Qi (fun (r : Int32) (_ : Unit) => r = 2) (fun _ t9 => va_P D vwCl (oW o cJ g (xW z a lv lk pu fa he n nv du ta w mp mi k nt fu re)) t9.heap ∧ va_D (va_A (oW o cJ g (xW z a lv lk pu fa he n nv du ta w mp mi k nt fu re)) sz) (oW o cJ g (xW z a lv lk pu fa he n nv du ta w mp mi k nt fu re))) (va_A (oW o cJ g (xW z a lv lk pu fa he n nv du ta w mp mi k nt fu re)) sz)) 1 6 (va_A (oW o cJ g (xW z a lv lk pu fa he n nv du ta w mp mi k nt fu re)) sz) := by
  refine va_MetW (hh := [(0, 9, 12, 24), (0, 9, 15, 15)]) (cc := cL_buyFate) (maxL := 4) (ret := (some .int)) (by decide) rfl ?_
  intro p e s m args below meth c s₁ B hml hv
  obtain ⟨rfl, hsz, hP, hK, hJ, hD0, hT, hN⟩ := hv
  have hx := B.exec
  have hb := B.bytes
  have hr := B.returns
  have hts0 := atoms_spec (ws := wsH_ yL_buyFate cL_buyFate 4 (some .int) [(0, 9, 12, 24), (0, 9, 15, 15)]) B.pre
  have hts : ∀ w ∈ lw_all, w.before _ s = true := fun w h => hts0 w (List.mem_cons_of_mem _ h)
  have hown : s.vm.findClass RL = some m.cls := findClass_of_methodNamed B.named
  have hlocks := B.notSynchronized
  have hC : CallFix p m c cL_buyFate 4 s _ lw_all RL := ⟨hx, hb, hml, hown, hts⟩
  have htab := vx_table (x := yL_buyFate) B (hts0 _ List.mem_cons_self)
  subst hsz
  have hD := hD0.self (sz := s.heap.size)
  generalize hAe : va_A (oW o cJ g (xW z a lv lk pu fa he n nv du ta w mp mi k nt fu re)) s.heap.size = A at hD ⊢
  have hA : ∀ q : Nat, s.heap.size ≤ q → A q := fun q h => by rw [← hAe]; exact Or.inr h
  have hS : va_S A s.heap s.heap [] := va_S.rf
  have hl := lv_entry ([.ref (a 0), .int (nI i), .ref o]) (n := 4) (Nat.le_of_ble_eq_true rfl)
  rw [lg_entry_eq]
  generalize (lg_sl ([.ref (a 0), .int (nI i), .ref o]) ++ List.replicate (4 - (lg_sl ([.ref (a 0), .int (nI i), .ref o])).length) Slot.unset).toArray = ls at hl ⊢
  have hl : lv_has ls 4 [(0, .ref (a 0)), (1, .int (nI i)), (2, .ref o)] := hl
  refine lv_aload_n hx hb dL_buyFate_0 rfl (lv_at hl 2 rfl) ?_
  refine lv_iconst (v := 0) hx hb dL_buyFate_1 (by decide) ?_
  refine lv_aload_n hx hb dL_buyFate_2 rfl (lv_at hl 0 rfl) ?_
  refine lv_iload_n hx hb dL_buyFate_3 rfl (lv_at hl 1 rfl) ?_
  have hPX := wj_Pr hP
  refine vx_calli (vx_runV (As := [.int (nI i)]) (rest := [.int 0, .ref o]) hC (ct_X0_buyFate_c l hst i hi hn ha hf) (cwV 1 hC.2.2.2.2 (gi_V mM_L_26 mV_X0_buyFate mS_X0_buyFate mI_MissRegistry mC_X0_buyFate) rfl rfl rfl (by decide +kernel) ⟨Nat.le_of_ble_eq_true rfl, Nat.le_of_ble_eq_true rfl⟩) ⟨fun a1 U g mk q8 => ⟨q8.1, ⟨q8.2.1.1, va_K.moved (u := U) (U := U.calling g mk a1) (Vm.Alike.refl U.vm) q8.2.1.2⟩, tH.same (u := U) (U := U.calling g mk a1) rfl q8.2.2⟩, va_recv hK hPX (ci := 0) (q0 := 0) rfl rfl, fun U hU hW => ⟨rfl, ⟨by rw [hU]; exact hPX, va_K.moved hW.alike hK⟩, by rw [hU]; exact hT.warm hW⟩⟩ rfl rfl hl.1 rfl (lv_room (Nat.le_of_ble_eq_true rfl)) dL_buyFate_4 ⟨Nat.le_of_ble_eq_true rfl, Nat.le_of_ble_eq_true rfl⟩) hS (fun _ _ h => h.elim) (fun _ h => h.elim) (fun _ _ h => h.elim) (fun E9 ce q9 u t H1 locs ht hvm hp hB hz9 hk9 hS9 hce hcv hcl => ?_) (fun r9 u9 t H1 locs ht hvm hw9 hB hz9 hk9 hS9 => hw9.elim)
  have hB : E9 = "java/lang/IllegalStateException" := hB
  subst hB
  have hP : va_P D vwCl (oW o cJ g (xW z a lv lk pu fa he n nv du ta w mp mi k nt fu re)) H1 := wj_kept hP hk9
  have hS := hS9
  refine vx_catch (name := "java/lang/IllegalStateException") hown [⟨0, 9, 12, 24⟩] ⟨0, 9, 15, 15⟩ [] htab (fun z9 h9 => by rw [List.mem_singleton.mp h9]; exact Or.inr ⟨by decide, "java/lang/IndexOutOfBoundsException", hts _ mK_L_24, hN.1.2⟩) (by decide) (by decide) (hts _ mK_L_15) (va_Nw.use rfl hT.2.2.1.1.2.1) hce hcv hcl ?_
  refine W.widen (k := 1) (n := 6) (by omega) (by omega) ?_
  refine W.eq (g2 := F0 m 15 ls [.ref q9]) rfl ?_
  refine lv_astore_n (lv' := [(3, .ref q9), (0, .ref (a 0)), (1, .int (nI i)), (2, .ref o)]) hx hb dL_buyFate_15 rfl hl (by decide) rfl (fun ls hl => ?_)
  refine lv_iconst (v := 2) hx hb dL_buyFate_16 (by decide) ?_
  exact W.iret (v := 2) hx hb hr (fun t ht hW => ⟨⟨2, (), rfl, rfl, by rw [ht]; exact hP, hD⟩, hS.F ht⟩) hS.2.2 dL_buyFate_17
set_option maxHeartbeats 4000000 in
set_option maxRecDepth 100000 in
theorem w_buyFate_d (l : Launch) (hst : l.stackTraces = false) (sz : Nat) {D : va_G} {z : ClassId × ClassId} {a : Nat → Nat} {lv lk pu fa he : Nat → Int32} {n : Nat} {nv du ta : Nat → Int32} {w : Nat} {mp mi : Nat → Int32} {k : Nat} {nt fu re : Int32} {o : Nat} {cJ : ClassId} {g : Nat → Int64} (i : Nat) (hi : i < n) (hn : n ≤ 10) (ha : ¬ lv i = 0) (hf : fa i < 9) (hp : ¬ sp_price (lk i) ≤ pu i) : Met l yL_buyFate (wsH_ yL_buyFate cL_buyFate 4 (some .int) [(0, 9, 12, 24), (0, 9, 15, 15)]) ({ frames := 7, cells := 1, slots := 6, locals := 112 } : Room) (va_Pc [.ref (a 0), .int (nI i), .ref o] (fun U => U.heap.size = sz ∧ va_P D vwCl (oW o cJ g (xW z a lv lk pu fa he n nv du ta w mp mi k nt fu re)) U.heap ∧ kK D z U ∧ kJ D cJ U ∧ va_D (fun _ => True) (oW o cJ g (xW z a lv lk pu fa he n nv du ta w mp mi k nt fu re)) ∧ tH nA U U.heap ∧ tN U)) (va_Qi (fun (r : Int32) (_ : Unit) => r = 2) (fun _ t9 => va_P D vwCl (oW o cJ g (xW z a lv lk pu fa he n nv du ta w mp mi k nt fu re)) t9.heap ∧ va_D (va_A (oW o cJ g (xW z a lv lk pu fa he n nv du ta w mp mi k nt fu re)) sz) (oW o cJ g (xW z a lv lk pu fa he n nv du ta w mp mi k nt fu re))) (va_A (oW o cJ g (xW z a lv lk pu fa he n nv du ta w mp mi k nt fu re)) sz)) 1 6 (va_A (oW o cJ g (xW z a lv lk pu fa he n nv du ta w mp mi k nt fu re)) sz) := by
  refine va_MetW (hh := [(0, 9, 12, 24), (0, 9, 15, 15)]) (cc := cL_buyFate) (maxL := 4) (ret := (some .int)) (by decide) rfl ?_
  intro p e s m args below meth c s₁ B hml hv
  obtain ⟨rfl, hsz, hP, hK, hJ, hD0, hT, hN⟩ := hv
  have hx := B.exec
  have hb := B.bytes
  have hr := B.returns
  have hts0 := atoms_spec (ws := wsH_ yL_buyFate cL_buyFate 4 (some .int) [(0, 9, 12, 24), (0, 9, 15, 15)]) B.pre
  have hts : ∀ w ∈ lw_all, w.before _ s = true := fun w h => hts0 w (List.mem_cons_of_mem _ h)
  have hown : s.vm.findClass RL = some m.cls := findClass_of_methodNamed B.named
  have hlocks := B.notSynchronized
  have hC : CallFix p m c cL_buyFate 4 s _ lw_all RL := ⟨hx, hb, hml, hown, hts⟩
  have htab := vx_table (x := yL_buyFate) B (hts0 _ List.mem_cons_self)
  subst hsz
  have hD := hD0.self (sz := s.heap.size)
  generalize hAe : va_A (oW o cJ g (xW z a lv lk pu fa he n nv du ta w mp mi k nt fu re)) s.heap.size = A at hD ⊢
  have hA : ∀ q : Nat, s.heap.size ≤ q → A q := fun q h => by rw [← hAe]; exact Or.inr h
  have hS : va_S A s.heap s.heap [] := va_S.rf
  have hl := lv_entry ([.ref (a 0), .int (nI i), .ref o]) (n := 4) (Nat.le_of_ble_eq_true rfl)
  rw [lg_entry_eq]
  generalize (lg_sl ([.ref (a 0), .int (nI i), .ref o]) ++ List.replicate (4 - (lg_sl ([.ref (a 0), .int (nI i), .ref o])).length) Slot.unset).toArray = ls at hl ⊢
  have hl : lv_has ls 4 [(0, .ref (a 0)), (1, .int (nI i)), (2, .ref o)] := hl
  refine lv_aload_n hx hb dL_buyFate_0 rfl (lv_at hl 2 rfl) ?_
  refine lv_iconst (v := 0) hx hb dL_buyFate_1 (by decide) ?_
  refine lv_aload_n hx hb dL_buyFate_2 rfl (lv_at hl 0 rfl) ?_
  refine lv_iload_n hx hb dL_buyFate_3 rfl (lv_at hl 1 rfl) ?_
  have hPX := wj_Pr hP
  refine vx_calli (vx_runV (As := [.int (nI i)]) (rest := [.int 0, .ref o]) hC (ct_X0_buyFate_d l hst i hi hn ha hf hp) (cwV 1 hC.2.2.2.2 (gi_V mM_L_26 mV_X0_buyFate mS_X0_buyFate mI_MissRegistry mC_X0_buyFate) rfl rfl rfl (by decide +kernel) ⟨Nat.le_of_ble_eq_true rfl, Nat.le_of_ble_eq_true rfl⟩) ⟨fun a1 U g mk q8 => ⟨q8.1, ⟨q8.2.1.1, va_K.moved (u := U) (U := U.calling g mk a1) (Vm.Alike.refl U.vm) q8.2.1.2⟩, tH.same (u := U) (U := U.calling g mk a1) rfl q8.2.2⟩, va_recv hK hPX (ci := 0) (q0 := 0) rfl rfl, fun U hU hW => ⟨rfl, ⟨by rw [hU]; exact hPX, va_K.moved hW.alike hK⟩, by rw [hU]; exact hT.warm hW⟩⟩ rfl rfl hl.1 rfl (lv_room (Nat.le_of_ble_eq_true rfl)) dL_buyFate_4 ⟨Nat.le_of_ble_eq_true rfl, Nat.le_of_ble_eq_true rfl⟩) hS (fun _ _ h => h.elim) (fun _ h => h.elim) (fun _ _ h => h.elim) (fun E9 ce q9 u t H1 locs ht hvm hp hB hz9 hk9 hS9 hce hcv hcl => ?_) (fun r9 u9 t H1 locs ht hvm hw9 hB hz9 hk9 hS9 => hw9.elim)
  have hB : E9 = "java/lang/IllegalStateException" := hB
  subst hB
  have hP : va_P D vwCl (oW o cJ g (xW z a lv lk pu fa he n nv du ta w mp mi k nt fu re)) H1 := wj_kept hP hk9
  have hS := hS9
  refine vx_catch (name := "java/lang/IllegalStateException") hown [⟨0, 9, 12, 24⟩] ⟨0, 9, 15, 15⟩ [] htab (fun z9 h9 => by rw [List.mem_singleton.mp h9]; exact Or.inr ⟨by decide, "java/lang/IndexOutOfBoundsException", hts _ mK_L_24, hN.1.2⟩) (by decide) (by decide) (hts _ mK_L_15) (va_Nw.use rfl hT.2.2.1.1.2.1) hce hcv hcl ?_
  refine W.widen (k := 1) (n := 6) (by omega) (by omega) ?_
  refine W.eq (g2 := F0 m 15 ls [.ref q9]) rfl ?_
  refine lv_astore_n (lv' := [(3, .ref q9), (0, .ref (a 0)), (1, .int (nI i)), (2, .ref o)]) hx hb dL_buyFate_15 rfl hl (by decide) rfl (fun ls hl => ?_)
  refine lv_iconst (v := 2) hx hb dL_buyFate_16 (by decide) ?_
  exact W.iret (v := 2) hx hb hr (fun t ht hW => ⟨⟨2, (), rfl, rfl, by rw [ht]; exact hP, hD⟩, hS.F ht⟩) hS.2.2 dL_buyFate_17
set_option maxHeartbeats 4000000 in
set_option maxRecDepth 100000 in
theorem w_turnDuty_a (l : Launch) (hst : l.stackTraces = false) (sz : Nat) {D : va_G} {z : ClassId × ClassId} {a : Nat → Nat} {lv lk pu fa he : Nat → Int32} {n : Nat} {nv du ta : Nat → Int32} {w : Nat} {mp mi : Nat → Int32} {k : Nat} {nt fu re : Int32} {o : Nat} {cJ : ClassId} {g : Nat → Int64} (x : Int32) (hbad : sp_isP w x = 0) : Met l yL_turnDuty (wsH_ yL_turnDuty cL_turnDuty 4 (some .int) [(0, 16, 19, 24)]) ({ frames := 8, cells := 1, slots := 6, locals := 132 } : Room) (va_Pc [.ref (a 0), .int x, .ref o] (fun U => U.heap.size = sz ∧ va_P D vwCl (oW o cJ g (xW z a lv lk pu fa he n nv du ta w mp mi k nt fu re)) U.heap ∧ kK D z U ∧ kJ D cJ U ∧ va_D (fun _ => True) (oW o cJ g (xW z a lv lk pu fa he n nv du ta w mp mi k nt fu re)) ∧ tH nA U U.heap ∧ tN U)) (va_Qi (fun (r : Int32) (_ : Unit) => r = 1) (fun _ t9 => va_P D vwCl (oW o cJ g (xW z a lv lk pu fa he n nv du ta w mp mi k nt fu re)) t9.heap ∧ va_D (va_A (oW o cJ g (xW z a lv lk pu fa he n nv du ta w mp mi k nt fu re)) sz) (oW o cJ g (xW z a lv lk pu fa he n nv du ta w mp mi k nt fu re))) (va_A (oW o cJ g (xW z a lv lk pu fa he n nv du ta w mp mi k nt fu re)) sz)) 1 6 (va_A (oW o cJ g (xW z a lv lk pu fa he n nv du ta w mp mi k nt fu re)) sz) := by
  refine va_MetW (hh := [(0, 16, 19, 24)]) (cc := cL_turnDuty) (maxL := 4) (ret := (some .int)) (by decide) rfl ?_
  intro p e s m args below meth c s₁ B hml hv
  obtain ⟨rfl, hsz, hP, hK, hJ, hD0, hT, hN⟩ := hv
  have hx := B.exec
  have hb := B.bytes
  have hr := B.returns
  have hts0 := atoms_spec (ws := wsH_ yL_turnDuty cL_turnDuty 4 (some .int) [(0, 16, 19, 24)]) B.pre
  have hts : ∀ w ∈ lw_all, w.before _ s = true := fun w h => hts0 w (List.mem_cons_of_mem _ h)
  have hown : s.vm.findClass RL = some m.cls := findClass_of_methodNamed B.named
  have hlocks := B.notSynchronized
  have hC : CallFix p m c cL_turnDuty 4 s _ lw_all RL := ⟨hx, hb, hml, hown, hts⟩
  have htab := vx_table (x := yL_turnDuty) B (hts0 _ List.mem_cons_self)
  subst hsz
  have hD := hD0.self (sz := s.heap.size)
  generalize hAe : va_A (oW o cJ g (xW z a lv lk pu fa he n nv du ta w mp mi k nt fu re)) s.heap.size = A at hD ⊢
  have hA : ∀ q : Nat, s.heap.size ≤ q → A q := fun q h => by rw [← hAe]; exact Or.inr h
  have hS : va_S A s.heap s.heap [] := va_S.rf
  have hl := lv_entry ([.ref (a 0), .int x, .ref o]) (n := 4) (Nat.le_of_ble_eq_true rfl)
  rw [lg_entry_eq]
  generalize (lg_sl ([.ref (a 0), .int x, .ref o]) ++ List.replicate (4 - (lg_sl ([.ref (a 0), .int x, .ref o])).length) Slot.unset).toArray = ls at hl ⊢
  have hl : lv_has ls 4 [(0, .ref (a 0)), (1, .int x), (2, .ref o)] := hl
  refine lv_aload_n hx hb dL_turnDuty_0 rfl (lv_at hl 2 rfl) ?_
  refine lv_iconst (v := 0) hx hb dL_turnDuty_1 (by decide) ?_
  refine lv_aload_n hx hb dL_turnDuty_2 rfl (lv_at hl 0 rfl) ?_
  refine lv_iload_n hx hb dL_turnDuty_3 rfl (lv_at hl 1 rfl) ?_
  have hPX := wj_Pr hP
  refine vx_calli (vx_runV (As := [.int x]) (rest := [.int 0, .ref o]) hC (ct_X0_turnDuty_a l hst x hbad) (cwV 1 hC.2.2.2.2 (gi_V mM_L_29 mV_X0_turnDuty mS_X0_turnDuty mI_MissRegistry mC_X0_turnDuty) rfl rfl rfl (by decide +kernel) ⟨Nat.le_of_ble_eq_true rfl, Nat.le_of_ble_eq_true rfl⟩) ⟨fun a1 U g mk q8 => ⟨q8.1, ⟨q8.2.1.1, va_K.moved (u := U) (U := U.calling g mk a1) (Vm.Alike.refl U.vm) q8.2.1.2⟩, tH.same (u := U) (U := U.calling g mk a1) rfl q8.2.2⟩, va_recv hK hPX (ci := 0) (q0 := 0) rfl rfl, fun U hU hW => ⟨rfl, ⟨by rw [hU]; exact hPX, va_K.moved hW.alike hK⟩, by rw [hU]; exact hT.warm hW⟩⟩ rfl rfl hl.1 rfl (lv_room (Nat.le_of_ble_eq_true rfl)) dL_turnDuty_4 ⟨Nat.le_of_ble_eq_true rfl, Nat.le_of_ble_eq_true rfl⟩) hS (fun _ _ h => h.elim) (fun _ h => h.elim) (fun _ _ h => h.elim) (fun E9 ce q9 u t H1 locs ht hvm hp hB hz9 hk9 hS9 hce hcv hcl => ?_) (fun r9 u9 t H1 locs ht hvm hw9 hB hz9 hk9 hS9 => hw9.elim)
  have hB : E9 = "java/lang/IndexOutOfBoundsException" := hB
  subst hB
  have hP : va_P D vwCl (oW o cJ g (xW z a lv lk pu fa he n nv du ta w mp mi k nt fu re)) H1 := wj_kept hP hk9
  have hS := hS9
  refine vx_catch (name := "java/lang/IndexOutOfBoundsException") hown [] ⟨0, 16, 19, 24⟩ [] htab (fun z9 h9 => absurd h9 List.not_mem_nil) (by decide) (by decide) (hts _ mK_L_24) (va_Nw.use rfl hT.2.2.1.1.2.2) hce hcv hcl ?_
  refine W.widen (k := 1) (n := 6) (by omega) (by omega) ?_
  refine W.eq (g2 := F0 m 19 ls [.ref q9]) rfl ?_
  refine lv_astore_n (lv' := [(3, .ref q9), (0, .ref (a 0)), (1, .int x), (2, .ref o)]) hx hb dL_turnDuty_19 rfl hl (by decide) rfl (fun ls hl => ?_)
  refine lv_iconst (v := 1) hx hb dL_turnDuty_20 (by decide) ?_
  exact W.iret (v := 1) hx hb hr (fun t ht hW => ⟨⟨1, (), rfl, rfl, by rw [ht]; exact hP, hD⟩, hS.F ht⟩) hS.2.2 dL_turnDuty_21
set_option maxHeartbeats 4000000 in
set_option maxRecDepth 100000 in
theorem w_miss_a (l : Launch) (hst : l.stackTraces = false) (sz : Nat) {D : va_G} {z : ClassId × ClassId} {a : Nat → Nat} {lv lk pu fa he : Nat → Int32} {n : Nat} {nv du ta : Nat → Int32} {w : Nat} {mp mi : Nat → Int32} {k : Nat} {nt fu re : Int32} {o : Nat} {cJ : ClassId} {g : Nat → Int64} (x y : Int32) (hbad : sp_isP n x = 0) : Met l yL_miss (wsH_ yL_miss cL_miss 5 (some .int) [(0, 10, 13, 24), (0, 10, 17, 13), (0, 10, 21, 15)]) ({ frames := 8, cells := 1, slots := 6, locals := 134 } : Room) (va_Pc [.ref (a 0), .int x, .int y, .ref o] (fun U => U.heap.size = sz ∧ va_P D vwCl (oW o cJ g (xW z a lv lk pu fa he n nv du ta w mp mi k nt fu re)) U.heap ∧ kK D z U ∧ kJ D cJ U ∧ va_D (fun _ => True) (oW o cJ g (xW z a lv lk pu fa he n nv du ta w mp mi k nt fu re)) ∧ tH nA U U.heap ∧ tN U)) (va_Qi (fun (r : Int32) (_ : Unit) => r = 1) (fun _ t9 => va_P D vwCl (oW o cJ g (xW z a lv lk pu fa he n nv du ta w mp mi k nt fu re)) t9.heap ∧ va_D (va_A (oW o cJ g (xW z a lv lk pu fa he n nv du ta w mp mi k nt fu re)) sz) (oW o cJ g (xW z a lv lk pu fa he n nv du ta w mp mi k nt fu re))) (va_A (oW o cJ g (xW z a lv lk pu fa he n nv du ta w mp mi k nt fu re)) sz)) 1 6 (va_A (oW o cJ g (xW z a lv lk pu fa he n nv du ta w mp mi k nt fu re)) sz) := by
  refine va_MetW (hh := [(0, 10, 13, 24), (0, 10, 17, 13), (0, 10, 21, 15)]) (cc := cL_miss) (maxL := 5) (ret := (some .int)) (by decide) rfl ?_
  intro p e s m args below meth c s₁ B hml hv
  obtain ⟨rfl, hsz, hP, hK, hJ, hD0, hT, hN⟩ := hv
  have hx := B.exec
  have hb := B.bytes
  have hr := B.returns
  have hts0 := atoms_spec (ws := wsH_ yL_miss cL_miss 5 (some .int) [(0, 10, 13, 24), (0, 10, 17, 13), (0, 10, 21, 15)]) B.pre
  have hts : ∀ w ∈ lw_all, w.before _ s = true := fun w h => hts0 w (List.mem_cons_of_mem _ h)
  have hown : s.vm.findClass RL = some m.cls := findClass_of_methodNamed B.named
  have hlocks := B.notSynchronized
  have hC : CallFix p m c cL_miss 5 s _ lw_all RL := ⟨hx, hb, hml, hown, hts⟩
  have htab := vx_table (x := yL_miss) B (hts0 _ List.mem_cons_self)
  subst hsz
  have hD := hD0.self (sz := s.heap.size)
  generalize hAe : va_A (oW o cJ g (xW z a lv lk pu fa he n nv du ta w mp mi k nt fu re)) s.heap.size = A at hD ⊢
  have hA : ∀ q : Nat, s.heap.size ≤ q → A q := fun q h => by rw [← hAe]; exact Or.inr h
  have hS : va_S A s.heap s.heap [] := va_S.rf
  have hl := lv_entry ([.ref (a 0), .int x, .int y, .ref o]) (n := 5) (Nat.le_of_ble_eq_true rfl)
  rw [lg_entry_eq]
  generalize (lg_sl ([.ref (a 0), .int x, .int y, .ref o]) ++ List.replicate (5 - (lg_sl ([.ref (a 0), .int x, .int y, .ref o])).length) Slot.unset).toArray = ls at hl ⊢
  have hl : lv_has ls 5 [(0, .ref (a 0)), (1, .int x), (2, .int y), (3, .ref o)] := hl
  refine lv_aload_n hx hb dL_miss_0 rfl (lv_at hl 3 rfl) ?_
  refine lv_iconst (v := 0) hx hb dL_miss_1 (by decide) ?_
  refine lv_aload_n hx hb dL_miss_2 rfl (lv_at hl 0 rfl) ?_
  refine lv_iload_n hx hb dL_miss_3 rfl (lv_at hl 1 rfl) ?_
  refine lv_iload_n hx hb dL_miss_4 rfl (lv_at hl 2 rfl) ?_
  have hPX := wj_Pr hP
  refine vx_calli (vx_runV (As := [.int x, .int y]) (rest := [.int 0, .ref o]) hC (ct_X0_miss_a l hst x y hbad) (cwV 2 hC.2.2.2.2 (gi_V mM_L_33 mV_X0_miss mS_X0_miss mI_MissRegistry mC_X0_miss) rfl rfl rfl (by decide +kernel) ⟨Nat.le_of_ble_eq_true rfl, Nat.le_of_ble_eq_true rfl⟩) ⟨fun a1 U g mk q8 => ⟨q8.1, ⟨q8.2.1.1, va_K.moved (u := U) (U := U.calling g mk a1) (Vm.Alike.refl U.vm) q8.2.1.2⟩, tH.same (u := U) (U := U.calling g mk a1) rfl q8.2.2⟩, va_recv hK hPX (ci := 0) (q0 := 0) rfl rfl, fun U hU hW => ⟨rfl, ⟨by rw [hU]; exact hPX, va_K.moved hW.alike hK⟩, by rw [hU]; exact hT.warm hW⟩⟩ rfl rfl hl.1 rfl (lv_room (Nat.le_of_ble_eq_true rfl)) dL_miss_5 ⟨Nat.le_of_ble_eq_true rfl, Nat.le_of_ble_eq_true rfl⟩) hS (fun _ _ h => h.elim) (fun _ h => h.elim) (fun _ _ h => h.elim) (fun E9 ce q9 u t H1 locs ht hvm hp hB hz9 hk9 hS9 hce hcv hcl => ?_) (fun r9 u9 t H1 locs ht hvm hw9 hB hz9 hk9 hS9 => hw9.elim)
  have hB : E9 = "java/lang/IndexOutOfBoundsException" := hB
  subst hB
  have hP : va_P D vwCl (oW o cJ g (xW z a lv lk pu fa he n nv du ta w mp mi k nt fu re)) H1 := wj_kept hP hk9
  have hS := hS9
  refine vx_catch (name := "java/lang/IndexOutOfBoundsException") hown [] ⟨0, 10, 13, 24⟩ [⟨0, 10, 17, 13⟩, ⟨0, 10, 21, 15⟩] htab (fun z9 h9 => absurd h9 List.not_mem_nil) (by decide) (by decide) (hts _ mK_L_24) (va_Nw.use rfl hT.2.2.1.1.2.2) hce hcv hcl ?_
  refine W.widen (k := 1) (n := 6) (by omega) (by omega) ?_
  refine W.eq (g2 := F0 m 13 ls [.ref q9]) rfl ?_
  refine lv_astore (lv' := [(4, .ref q9), (0, .ref (a 0)), (1, .int x), (2, .int y), (3, .ref o)]) hx hb dL_miss_13 hl (by decide) rfl (fun ls hl => ?_)
  refine lv_iconst (v := 1) hx hb dL_miss_15 (by decide) ?_
  exact W.iret (v := 1) hx hb hr (fun t ht hW => ⟨⟨1, (), rfl, rfl, by rw [ht]; exact hP, hD⟩, hS.F ht⟩) hS.2.2 dL_miss_16
set_option maxHeartbeats 4000000 in
set_option maxRecDepth 100000 in
theorem w_miss_b (l : Launch) (hst : l.stackTraces = false) (sz : Nat) {D : va_G} {z : ClassId × ClassId} {a : Nat → Nat} {lv lk pu fa he : Nat → Int32} {n : Nat} {nv du ta : Nat → Int32} {w : Nat} {mp mi : Nat → Int32} {k : Nat} {nt fu re : Int32} {o : Nat} {cJ : ClassId} {g : Nat → Int64} (i : Nat) (hi : i < n) (hn : n ≤ 10) (y : Int32) (hbad : y < 1 ∨ ¬ y ≤ 60) : Met l yL_miss (wsH_ yL_miss cL_miss 5 (some .int) [(0, 10, 13, 24), (0, 10, 17, 13), (0, 10, 21, 15)]) ({ frames := 8, cells := 1, slots := 6, locals := 134 } : Room) (va_Pc [.ref (a 0), .int (nI i), .int y, .ref o] (fun U => U.heap.size = sz ∧ va_P D vwCl (oW o cJ g (xW z a lv lk pu fa he n nv du ta w mp mi k nt fu re)) U.heap ∧ kK D z U ∧ kJ D cJ U ∧ va_D (fun _ => True) (oW o cJ g (xW z a lv lk pu fa he n nv du ta w mp mi k nt fu re)) ∧ tH nA U U.heap ∧ tN U)) (va_Qi (fun (r : Int32) (_ : Unit) => r = 2) (fun _ t9 => va_P D vwCl (oW o cJ g (xW z a lv lk pu fa he n nv du ta w mp mi k nt fu re)) t9.heap ∧ va_D (va_A (oW o cJ g (xW z a lv lk pu fa he n nv du ta w mp mi k nt fu re)) sz) (oW o cJ g (xW z a lv lk pu fa he n nv du ta w mp mi k nt fu re))) (va_A (oW o cJ g (xW z a lv lk pu fa he n nv du ta w mp mi k nt fu re)) sz)) 1 6 (va_A (oW o cJ g (xW z a lv lk pu fa he n nv du ta w mp mi k nt fu re)) sz) := by
  refine va_MetW (hh := [(0, 10, 13, 24), (0, 10, 17, 13), (0, 10, 21, 15)]) (cc := cL_miss) (maxL := 5) (ret := (some .int)) (by decide) rfl ?_
  intro p e s m args below meth c s₁ B hml hv
  obtain ⟨rfl, hsz, hP, hK, hJ, hD0, hT, hN⟩ := hv
  have hx := B.exec
  have hb := B.bytes
  have hr := B.returns
  have hts0 := atoms_spec (ws := wsH_ yL_miss cL_miss 5 (some .int) [(0, 10, 13, 24), (0, 10, 17, 13), (0, 10, 21, 15)]) B.pre
  have hts : ∀ w ∈ lw_all, w.before _ s = true := fun w h => hts0 w (List.mem_cons_of_mem _ h)
  have hown : s.vm.findClass RL = some m.cls := findClass_of_methodNamed B.named
  have hlocks := B.notSynchronized
  have hC : CallFix p m c cL_miss 5 s _ lw_all RL := ⟨hx, hb, hml, hown, hts⟩
  have htab := vx_table (x := yL_miss) B (hts0 _ List.mem_cons_self)
  subst hsz
  have hD := hD0.self (sz := s.heap.size)
  generalize hAe : va_A (oW o cJ g (xW z a lv lk pu fa he n nv du ta w mp mi k nt fu re)) s.heap.size = A at hD ⊢
  have hA : ∀ q : Nat, s.heap.size ≤ q → A q := fun q h => by rw [← hAe]; exact Or.inr h
  have hS : va_S A s.heap s.heap [] := va_S.rf
  have hl := lv_entry ([.ref (a 0), .int (nI i), .int y, .ref o]) (n := 5) (Nat.le_of_ble_eq_true rfl)
  rw [lg_entry_eq]
  generalize (lg_sl ([.ref (a 0), .int (nI i), .int y, .ref o]) ++ List.replicate (5 - (lg_sl ([.ref (a 0), .int (nI i), .int y, .ref o])).length) Slot.unset).toArray = ls at hl ⊢
  have hl : lv_has ls 5 [(0, .ref (a 0)), (1, .int (nI i)), (2, .int y), (3, .ref o)] := hl
  refine lv_aload_n hx hb dL_miss_0 rfl (lv_at hl 3 rfl) ?_
  refine lv_iconst (v := 0) hx hb dL_miss_1 (by decide) ?_
  refine lv_aload_n hx hb dL_miss_2 rfl (lv_at hl 0 rfl) ?_
  refine lv_iload_n hx hb dL_miss_3 rfl (lv_at hl 1 rfl) ?_
  refine lv_iload_n hx hb dL_miss_4 rfl (lv_at hl 2 rfl) ?_
  have hPX := wj_Pr hP
  refine vx_calli (vx_runV (As := [.int (nI i), .int y]) (rest := [.int 0, .ref o]) hC (ct_X0_miss_b l hst i hi hn y hbad) (cwV 2 hC.2.2.2.2 (gi_V mM_L_33 mV_X0_miss mS_X0_miss mI_MissRegistry mC_X0_miss) rfl rfl rfl (by decide +kernel) ⟨Nat.le_of_ble_eq_true rfl, Nat.le_of_ble_eq_true rfl⟩) ⟨fun a1 U g mk q8 => ⟨q8.1, ⟨q8.2.1.1, va_K.moved (u := U) (U := U.calling g mk a1) (Vm.Alike.refl U.vm) q8.2.1.2⟩, tH.same (u := U) (U := U.calling g mk a1) rfl q8.2.2⟩, va_recv hK hPX (ci := 0) (q0 := 0) rfl rfl, fun U hU hW => ⟨rfl, ⟨by rw [hU]; exact hPX, va_K.moved hW.alike hK⟩, by rw [hU]; exact hT.warm hW⟩⟩ rfl rfl hl.1 rfl (lv_room (Nat.le_of_ble_eq_true rfl)) dL_miss_5 ⟨Nat.le_of_ble_eq_true rfl, Nat.le_of_ble_eq_true rfl⟩) hS (fun _ _ h => h.elim) (fun _ h => h.elim) (fun _ _ h => h.elim) (fun E9 ce q9 u t H1 locs ht hvm hp hB hz9 hk9 hS9 hce hcv hcl => ?_) (fun r9 u9 t H1 locs ht hvm hw9 hB hz9 hk9 hS9 => hw9.elim)
  have hB : E9 = "java/lang/IllegalArgumentException" := hB
  subst hB
  have hP : va_P D vwCl (oW o cJ g (xW z a lv lk pu fa he n nv du ta w mp mi k nt fu re)) H1 := wj_kept hP hk9
  have hS := hS9
  refine vx_catch (name := "java/lang/IllegalArgumentException") hown [⟨0, 10, 13, 24⟩] ⟨0, 10, 17, 13⟩ [⟨0, 10, 21, 15⟩] htab (fun z9 h9 => by rw [List.mem_singleton.mp h9]; exact Or.inr ⟨by decide, "java/lang/IndexOutOfBoundsException", hts _ mK_L_24, hN.1.1⟩) (by decide) (by decide) (hts _ mK_L_13) (va_Nw.use rfl hT.2.2.1.1.1) hce hcv hcl ?_
  refine W.widen (k := 1) (n := 6) (by omega) (by omega) ?_
  refine W.eq (g2 := F0 m 17 ls [.ref q9]) rfl ?_
  refine lv_astore (lv' := [(4, .ref q9), (0, .ref (a 0)), (1, .int (nI i)), (2, .int y), (3, .ref o)]) hx hb dL_miss_17 hl (by decide) rfl (fun ls hl => ?_)
  refine lv_iconst (v := 2) hx hb dL_miss_19 (by decide) ?_
  exact W.iret (v := 2) hx hb hr (fun t ht hW => ⟨⟨2, (), rfl, rfl, by rw [ht]; exact hP, hD⟩, hS.F ht⟩) hS.2.2 dL_miss_20
set_option maxHeartbeats 4000000 in
set_option maxRecDepth 100000 in
theorem w_miss_c (l : Launch) (hst : l.stackTraces = false) (sz : Nat) {D : va_G} {z : ClassId × ClassId} {a : Nat → Nat} {lv lk pu fa he : Nat → Int32} {n : Nat} {nv du ta : Nat → Int32} {w : Nat} {mp mi : Nat → Int32} {k : Nat} {nt fu re : Int32} {o : Nat} {cJ : ClassId} {g : Nat → Int64} (i : Nat) (hi : i < n) (hn : n ≤ 10) (y : Int32) (h1 : ¬ y < 1) (h2 : y ≤ 60) (ha : lv i = 0) : Met l yL_miss (wsH_ yL_miss cL_miss 5 (some .int) [(0, 10, 13, 24), (0, 10, 17, 13), (0, 10, 21, 15)]) ({ frames := 8, cells := 1, slots := 6, locals := 134 } : Room) (va_Pc [.ref (a 0), .int (nI i), .int y, .ref o] (fun U => U.heap.size = sz ∧ va_P D vwCl (oW o cJ g (xW z a lv lk pu fa he n nv du ta w mp mi k nt fu re)) U.heap ∧ kK D z U ∧ kJ D cJ U ∧ va_D (fun _ => True) (oW o cJ g (xW z a lv lk pu fa he n nv du ta w mp mi k nt fu re)) ∧ tH nA U U.heap ∧ tN U)) (va_Qi (fun (r : Int32) (_ : Unit) => r = 3) (fun _ t9 => va_P D vwCl (oW o cJ g (xW z a lv lk pu fa he n nv du ta w mp mi k nt fu re)) t9.heap ∧ va_D (va_A (oW o cJ g (xW z a lv lk pu fa he n nv du ta w mp mi k nt fu re)) sz) (oW o cJ g (xW z a lv lk pu fa he n nv du ta w mp mi k nt fu re))) (va_A (oW o cJ g (xW z a lv lk pu fa he n nv du ta w mp mi k nt fu re)) sz)) 1 6 (va_A (oW o cJ g (xW z a lv lk pu fa he n nv du ta w mp mi k nt fu re)) sz) := by
  refine va_MetW (hh := [(0, 10, 13, 24), (0, 10, 17, 13), (0, 10, 21, 15)]) (cc := cL_miss) (maxL := 5) (ret := (some .int)) (by decide) rfl ?_
  intro p e s m args below meth c s₁ B hml hv
  obtain ⟨rfl, hsz, hP, hK, hJ, hD0, hT, hN⟩ := hv
  have hx := B.exec
  have hb := B.bytes
  have hr := B.returns
  have hts0 := atoms_spec (ws := wsH_ yL_miss cL_miss 5 (some .int) [(0, 10, 13, 24), (0, 10, 17, 13), (0, 10, 21, 15)]) B.pre
  have hts : ∀ w ∈ lw_all, w.before _ s = true := fun w h => hts0 w (List.mem_cons_of_mem _ h)
  have hown : s.vm.findClass RL = some m.cls := findClass_of_methodNamed B.named
  have hlocks := B.notSynchronized
  have hC : CallFix p m c cL_miss 5 s _ lw_all RL := ⟨hx, hb, hml, hown, hts⟩
  have htab := vx_table (x := yL_miss) B (hts0 _ List.mem_cons_self)
  subst hsz
  have hD := hD0.self (sz := s.heap.size)
  generalize hAe : va_A (oW o cJ g (xW z a lv lk pu fa he n nv du ta w mp mi k nt fu re)) s.heap.size = A at hD ⊢
  have hA : ∀ q : Nat, s.heap.size ≤ q → A q := fun q h => by rw [← hAe]; exact Or.inr h
  have hS : va_S A s.heap s.heap [] := va_S.rf
  have hl := lv_entry ([.ref (a 0), .int (nI i), .int y, .ref o]) (n := 5) (Nat.le_of_ble_eq_true rfl)
  rw [lg_entry_eq]
  generalize (lg_sl ([.ref (a 0), .int (nI i), .int y, .ref o]) ++ List.replicate (5 - (lg_sl ([.ref (a 0), .int (nI i), .int y, .ref o])).length) Slot.unset).toArray = ls at hl ⊢
  have hl : lv_has ls 5 [(0, .ref (a 0)), (1, .int (nI i)), (2, .int y), (3, .ref o)] := hl
  refine lv_aload_n hx hb dL_miss_0 rfl (lv_at hl 3 rfl) ?_
  refine lv_iconst (v := 0) hx hb dL_miss_1 (by decide) ?_
  refine lv_aload_n hx hb dL_miss_2 rfl (lv_at hl 0 rfl) ?_
  refine lv_iload_n hx hb dL_miss_3 rfl (lv_at hl 1 rfl) ?_
  refine lv_iload_n hx hb dL_miss_4 rfl (lv_at hl 2 rfl) ?_
  have hPX := wj_Pr hP
  refine vx_calli (vx_runV (As := [.int (nI i), .int y]) (rest := [.int 0, .ref o]) hC (ct_X0_miss_c l hst i hi hn y h1 h2 ha) (cwV 2 hC.2.2.2.2 (gi_V mM_L_33 mV_X0_miss mS_X0_miss mI_MissRegistry mC_X0_miss) rfl rfl rfl (by decide +kernel) ⟨Nat.le_of_ble_eq_true rfl, Nat.le_of_ble_eq_true rfl⟩) ⟨fun a1 U g mk q8 => ⟨q8.1, ⟨q8.2.1.1, va_K.moved (u := U) (U := U.calling g mk a1) (Vm.Alike.refl U.vm) q8.2.1.2⟩, tH.same (u := U) (U := U.calling g mk a1) rfl q8.2.2⟩, va_recv hK hPX (ci := 0) (q0 := 0) rfl rfl, fun U hU hW => ⟨rfl, ⟨by rw [hU]; exact hPX, va_K.moved hW.alike hK⟩, by rw [hU]; exact hT.warm hW⟩⟩ rfl rfl hl.1 rfl (lv_room (Nat.le_of_ble_eq_true rfl)) dL_miss_5 ⟨Nat.le_of_ble_eq_true rfl, Nat.le_of_ble_eq_true rfl⟩) hS (fun _ _ h => h.elim) (fun _ h => h.elim) (fun _ _ h => h.elim) (fun E9 ce q9 u t H1 locs ht hvm hp hB hz9 hk9 hS9 hce hcv hcl => ?_) (fun r9 u9 t H1 locs ht hvm hw9 hB hz9 hk9 hS9 => hw9.elim)
  have hB : E9 = "java/lang/IllegalStateException" := hB
  subst hB
  have hP : va_P D vwCl (oW o cJ g (xW z a lv lk pu fa he n nv du ta w mp mi k nt fu re)) H1 := wj_kept hP hk9
  have hS := hS9
  refine vx_catch (name := "java/lang/IllegalStateException") hown [⟨0, 10, 13, 24⟩, ⟨0, 10, 17, 13⟩] ⟨0, 10, 21, 15⟩ [] htab (fun z9 h9 => (List.mem_cons.mp h9).elim (fun e9 => by rw [e9]; exact Or.inr ⟨by decide, "java/lang/IndexOutOfBoundsException", hts _ mK_L_24, hN.1.2⟩) (fun h8 => by rw [List.mem_singleton.mp h8]; exact Or.inr ⟨by decide, "java/lang/IllegalArgumentException", hts _ mK_L_13, hN.2⟩)) (by decide) (by decide) (hts _ mK_L_15) (va_Nw.use rfl hT.2.2.1.1.2.1) hce hcv hcl ?_
  refine W.widen (k := 1) (n := 6) (by omega) (by omega) ?_
  refine W.eq (g2 := F0 m 21 ls [.ref q9]) rfl ?_
  refine lv_astore (lv' := [(4, .ref q9), (0, .ref (a 0)), (1, .int (nI i)), (2, .int y), (3, .ref o)]) hx hb dL_miss_21 hl (by decide) rfl (fun ls hl => ?_)
  refine lv_iconst (v := 3) hx hb dL_miss_23 (by decide) ?_
  exact W.iret (v := 3) hx hb hr (fun t ht hW => ⟨⟨3, (), rfl, rfl, by rw [ht]; exact hP, hD⟩, hS.F ht⟩) hS.2.2 dL_miss_24
set_option maxHeartbeats 4000000 in
set_option maxRecDepth 100000 in
theorem w_miss_d (l : Launch) (hst : l.stackTraces = false) (sz : Nat) {D : va_G} {z : ClassId × ClassId} {a : Nat → Nat} {lv lk pu fa he : Nat → Int32} {n : Nat} {nv du ta : Nat → Int32} {w : Nat} {mp mi : Nat → Int32} {k : Nat} {nt fu re : Int32} {o : Nat} {cJ : ClassId} {g : Nat → Int64} (i : Nat) (hi : i < n) (hn : n ≤ 10) (y : Int32) (h1 : ¬ y < 1) (h2 : y ≤ 60) (ha : ¬ lv i = 0) (hk : k = 60) : Met l yL_miss (wsH_ yL_miss cL_miss 5 (some .int) [(0, 10, 13, 24), (0, 10, 17, 13), (0, 10, 21, 15)]) ({ frames := 7, cells := 1, slots := 6, locals := 113 } : Room) (va_Pc [.ref (a 0), .int (nI i), .int y, .ref o] (fun U => U.heap.size = sz ∧ va_P D vwCl (oW o cJ g (xW z a lv lk pu fa he n nv du ta w mp mi k nt fu re)) U.heap ∧ kK D z U ∧ kJ D cJ U ∧ va_D (fun _ => True) (oW o cJ g (xW z a lv lk pu fa he n nv du ta w mp mi k nt fu re)) ∧ tH nA U U.heap ∧ tN U)) (va_Qi (fun (r : Int32) (_ : Unit) => r = 3) (fun _ t9 => va_P D vwCl (oW o cJ g (xW z a lv lk pu fa he n nv du ta w mp mi k nt fu re)) t9.heap ∧ va_D (va_A (oW o cJ g (xW z a lv lk pu fa he n nv du ta w mp mi k nt fu re)) sz) (oW o cJ g (xW z a lv lk pu fa he n nv du ta w mp mi k nt fu re))) (va_A (oW o cJ g (xW z a lv lk pu fa he n nv du ta w mp mi k nt fu re)) sz)) 1 6 (va_A (oW o cJ g (xW z a lv lk pu fa he n nv du ta w mp mi k nt fu re)) sz) := by
  refine va_MetW (hh := [(0, 10, 13, 24), (0, 10, 17, 13), (0, 10, 21, 15)]) (cc := cL_miss) (maxL := 5) (ret := (some .int)) (by decide) rfl ?_
  intro p e s m args below meth c s₁ B hml hv
  obtain ⟨rfl, hsz, hP, hK, hJ, hD0, hT, hN⟩ := hv
  have hx := B.exec
  have hb := B.bytes
  have hr := B.returns
  have hts0 := atoms_spec (ws := wsH_ yL_miss cL_miss 5 (some .int) [(0, 10, 13, 24), (0, 10, 17, 13), (0, 10, 21, 15)]) B.pre
  have hts : ∀ w ∈ lw_all, w.before _ s = true := fun w h => hts0 w (List.mem_cons_of_mem _ h)
  have hown : s.vm.findClass RL = some m.cls := findClass_of_methodNamed B.named
  have hlocks := B.notSynchronized
  have hC : CallFix p m c cL_miss 5 s _ lw_all RL := ⟨hx, hb, hml, hown, hts⟩
  have htab := vx_table (x := yL_miss) B (hts0 _ List.mem_cons_self)
  subst hsz
  have hD := hD0.self (sz := s.heap.size)
  generalize hAe : va_A (oW o cJ g (xW z a lv lk pu fa he n nv du ta w mp mi k nt fu re)) s.heap.size = A at hD ⊢
  have hA : ∀ q : Nat, s.heap.size ≤ q → A q := fun q h => by rw [← hAe]; exact Or.inr h
  have hS : va_S A s.heap s.heap [] := va_S.rf
  have hl := lv_entry ([.ref (a 0), .int (nI i), .int y, .ref o]) (n := 5) (Nat.le_of_ble_eq_true rfl)
  rw [lg_entry_eq]
  generalize (lg_sl ([.ref (a 0), .int (nI i), .int y, .ref o]) ++ List.replicate (5 - (lg_sl ([.ref (a 0), .int (nI i), .int y, .ref o])).length) Slot.unset).toArray = ls at hl ⊢
  have hl : lv_has ls 5 [(0, .ref (a 0)), (1, .int (nI i)), (2, .int y), (3, .ref o)] := hl
  refine lv_aload_n hx hb dL_miss_0 rfl (lv_at hl 3 rfl) ?_
  refine lv_iconst (v := 0) hx hb dL_miss_1 (by decide) ?_
  refine lv_aload_n hx hb dL_miss_2 rfl (lv_at hl 0 rfl) ?_
  refine lv_iload_n hx hb dL_miss_3 rfl (lv_at hl 1 rfl) ?_
  refine lv_iload_n hx hb dL_miss_4 rfl (lv_at hl 2 rfl) ?_
  have hPX := wj_Pr hP
  refine vx_calli (vx_runV (As := [.int (nI i), .int y]) (rest := [.int 0, .ref o]) hC (ct_X0_miss_d l hst i hi hn y h1 h2 ha hk) (cwV 2 hC.2.2.2.2 (gi_V mM_L_33 mV_X0_miss mS_X0_miss mI_MissRegistry mC_X0_miss) rfl rfl rfl (by decide +kernel) ⟨Nat.le_of_ble_eq_true rfl, Nat.le_of_ble_eq_true rfl⟩) ⟨fun a1 U g mk q8 => ⟨q8.1, ⟨q8.2.1.1, va_K.moved (u := U) (U := U.calling g mk a1) (Vm.Alike.refl U.vm) q8.2.1.2⟩, tH.same (u := U) (U := U.calling g mk a1) rfl q8.2.2⟩, va_recv hK hPX (ci := 0) (q0 := 0) rfl rfl, fun U hU hW => ⟨rfl, ⟨by rw [hU]; exact hPX, va_K.moved hW.alike hK⟩, by rw [hU]; exact hT.warm hW⟩⟩ rfl rfl hl.1 rfl (lv_room (Nat.le_of_ble_eq_true rfl)) dL_miss_5 ⟨Nat.le_of_ble_eq_true rfl, Nat.le_of_ble_eq_true rfl⟩) hS (fun _ _ h => h.elim) (fun _ h => h.elim) (fun _ _ h => h.elim) (fun E9 ce q9 u t H1 locs ht hvm hp hB hz9 hk9 hS9 hce hcv hcl => ?_) (fun r9 u9 t H1 locs ht hvm hw9 hB hz9 hk9 hS9 => hw9.elim)
  have hB : E9 = "java/lang/IllegalStateException" := hB
  subst hB
  have hP : va_P D vwCl (oW o cJ g (xW z a lv lk pu fa he n nv du ta w mp mi k nt fu re)) H1 := wj_kept hP hk9
  have hS := hS9
  refine vx_catch (name := "java/lang/IllegalStateException") hown [⟨0, 10, 13, 24⟩, ⟨0, 10, 17, 13⟩] ⟨0, 10, 21, 15⟩ [] htab (fun z9 h9 => (List.mem_cons.mp h9).elim (fun e9 => by rw [e9]; exact Or.inr ⟨by decide, "java/lang/IndexOutOfBoundsException", hts _ mK_L_24, hN.1.2⟩) (fun h8 => by rw [List.mem_singleton.mp h8]; exact Or.inr ⟨by decide, "java/lang/IllegalArgumentException", hts _ mK_L_13, hN.2⟩)) (by decide) (by decide) (hts _ mK_L_15) (va_Nw.use rfl hT.2.2.1.1.2.1) hce hcv hcl ?_
  refine W.widen (k := 1) (n := 6) (by omega) (by omega) ?_
  refine W.eq (g2 := F0 m 21 ls [.ref q9]) rfl ?_
  refine lv_astore (lv' := [(4, .ref q9), (0, .ref (a 0)), (1, .int (nI i)), (2, .int y), (3, .ref o)]) hx hb dL_miss_21 hl (by decide) rfl (fun ls hl => ?_)
  refine lv_iconst (v := 3) hx hb dL_miss_23 (by decide) ?_
  exact W.iret (v := 3) hx hb hr (fun t ht hW => ⟨⟨3, (), rfl, rfl, by rw [ht]; exact hP, hD⟩, hS.F ht⟩) hS.2.2 dL_miss_24
set_option maxHeartbeats 4000000 in
set_option maxRecDepth 100000 in
theorem w_hit_a (l : Launch) (hst : l.stackTraces = false) (sz : Nat) {D : va_G} {z : ClassId × ClassId} {a : Nat → Nat} {lv lk pu fa he : Nat → Int32} {n : Nat} {nv du ta : Nat → Int32} {w : Nat} {mp mi : Nat → Int32} {k : Nat} {nt fu re : Int32} {o : Nat} {cJ : ClassId} {g : Nat → Int64} (x : Int32) (hbad : sp_isP n x = 0) : Met l yL_hit (wsH_ yL_hit cL_hit 4 (some .int) [(0, 9, 12, 24), (0, 9, 15, 15)]) ({ frames := 8, cells := 1, slots := 6, locals := 133 } : Room) (va_Pc [.ref (a 0), .int x, .ref o] (fun U => U.heap.size = sz ∧ va_P D vwCl (oW o cJ g (xW z a lv lk pu fa he n nv du ta w mp mi k nt fu re)) U.heap ∧ kK D z U ∧ kJ D cJ U ∧ va_D (fun _ => True) (oW o cJ g (xW z a lv lk pu fa he n nv du ta w mp mi k nt fu re)) ∧ tH nA U U.heap ∧ tN U)) (va_Qi (fun (r : Int32) (_ : Unit) => r = 1) (fun _ t9 => va_P D vwCl (oW o cJ g (xW z a lv lk pu fa he n nv du ta w mp mi k nt fu re)) t9.heap ∧ va_D (va_A (oW o cJ g (xW z a lv lk pu fa he n nv du ta w mp mi k nt fu re)) sz) (oW o cJ g (xW z a lv lk pu fa he n nv du ta w mp mi k nt fu re))) (va_A (oW o cJ g (xW z a lv lk pu fa he n nv du ta w mp mi k nt fu re)) sz)) 1 6 (va_A (oW o cJ g (xW z a lv lk pu fa he n nv du ta w mp mi k nt fu re)) sz) := by
  refine va_MetW (hh := [(0, 9, 12, 24), (0, 9, 15, 15)]) (cc := cL_hit) (maxL := 4) (ret := (some .int)) (by decide) rfl ?_
  intro p e s m args below meth c s₁ B hml hv
  obtain ⟨rfl, hsz, hP, hK, hJ, hD0, hT, hN⟩ := hv
  have hx := B.exec
  have hb := B.bytes
  have hr := B.returns
  have hts0 := atoms_spec (ws := wsH_ yL_hit cL_hit 4 (some .int) [(0, 9, 12, 24), (0, 9, 15, 15)]) B.pre
  have hts : ∀ w ∈ lw_all, w.before _ s = true := fun w h => hts0 w (List.mem_cons_of_mem _ h)
  have hown : s.vm.findClass RL = some m.cls := findClass_of_methodNamed B.named
  have hlocks := B.notSynchronized
  have hC : CallFix p m c cL_hit 4 s _ lw_all RL := ⟨hx, hb, hml, hown, hts⟩
  have htab := vx_table (x := yL_hit) B (hts0 _ List.mem_cons_self)
  subst hsz
  have hD := hD0.self (sz := s.heap.size)
  generalize hAe : va_A (oW o cJ g (xW z a lv lk pu fa he n nv du ta w mp mi k nt fu re)) s.heap.size = A at hD ⊢
  have hA : ∀ q : Nat, s.heap.size ≤ q → A q := fun q h => by rw [← hAe]; exact Or.inr h
  have hS : va_S A s.heap s.heap [] := va_S.rf
  have hl := lv_entry ([.ref (a 0), .int x, .ref o]) (n := 4) (Nat.le_of_ble_eq_true rfl)
  rw [lg_entry_eq]
  generalize (lg_sl ([.ref (a 0), .int x, .ref o]) ++ List.replicate (4 - (lg_sl ([.ref (a 0), .int x, .ref o])).length) Slot.unset).toArray = ls at hl ⊢
  have hl : lv_has ls 4 [(0, .ref (a 0)), (1, .int x), (2, .ref o)] := hl
  refine lv_aload_n hx hb dL_hit_0 rfl (lv_at hl 2 rfl) ?_
  refine lv_iconst (v := 0) hx hb dL_hit_1 (by decide) ?_
  refine lv_aload_n hx hb dL_hit_2 rfl (lv_at hl 0 rfl) ?_
  refine lv_iload_n hx hb dL_hit_3 rfl (lv_at hl 1 rfl) ?_
  have hPX := wj_Pr hP
  refine vx_calli (vx_runV (As := [.int x]) (rest := [.int 0, .ref o]) hC (ct_X0_hit_a l hst x hbad) (cwV 1 hC.2.2.2.2 (gi_V mM_L_36 mV_X0_hit mS_X0_hit mI_MissRegistry mC_X0_hit) rfl rfl rfl (by decide +kernel) ⟨Nat.le_of_ble_eq_true rfl, Nat.le_of_ble_eq_true rfl⟩) ⟨fun a1 U g mk q8 => ⟨q8.1, ⟨q8.2.1.1, va_K.moved (u := U) (U := U.calling g mk a1) (Vm.Alike.refl U.vm) q8.2.1.2⟩, tH.same (u := U) (U := U.calling g mk a1) rfl q8.2.2⟩, va_recv hK hPX (ci := 0) (q0 := 0) rfl rfl, fun U hU hW => ⟨rfl, ⟨by rw [hU]; exact hPX, va_K.moved hW.alike hK⟩, by rw [hU]; exact hT.warm hW⟩⟩ rfl rfl hl.1 rfl (lv_room (Nat.le_of_ble_eq_true rfl)) dL_hit_4 ⟨Nat.le_of_ble_eq_true rfl, Nat.le_of_ble_eq_true rfl⟩) hS (fun _ _ h => h.elim) (fun _ h => h.elim) (fun _ _ h => h.elim) (fun E9 ce q9 u t H1 locs ht hvm hp hB hz9 hk9 hS9 hce hcv hcl => ?_) (fun r9 u9 t H1 locs ht hvm hw9 hB hz9 hk9 hS9 => hw9.elim)
  have hB : E9 = "java/lang/IndexOutOfBoundsException" := hB
  subst hB
  have hP : va_P D vwCl (oW o cJ g (xW z a lv lk pu fa he n nv du ta w mp mi k nt fu re)) H1 := wj_kept hP hk9
  have hS := hS9
  refine vx_catch (name := "java/lang/IndexOutOfBoundsException") hown [] ⟨0, 9, 12, 24⟩ [⟨0, 9, 15, 15⟩] htab (fun z9 h9 => absurd h9 List.not_mem_nil) (by decide) (by decide) (hts _ mK_L_24) (va_Nw.use rfl hT.2.2.1.1.2.2) hce hcv hcl ?_
  refine W.widen (k := 1) (n := 6) (by omega) (by omega) ?_
  refine W.eq (g2 := F0 m 12 ls [.ref q9]) rfl ?_
  refine lv_astore_n (lv' := [(3, .ref q9), (0, .ref (a 0)), (1, .int x), (2, .ref o)]) hx hb dL_hit_12 rfl hl (by decide) rfl (fun ls hl => ?_)
  refine lv_iconst (v := 1) hx hb dL_hit_13 (by decide) ?_
  exact W.iret (v := 1) hx hb hr (fun t ht hW => ⟨⟨1, (), rfl, rfl, by rw [ht]; exact hP, hD⟩, hS.F ht⟩) hS.2.2 dL_hit_14
set_option maxHeartbeats 4000000 in
set_option maxRecDepth 100000 in
theorem w_hit_b (l : Launch) (hst : l.stackTraces = false) (sz : Nat) {D : va_G} {z : ClassId × ClassId} {a : Nat → Nat} {lv lk pu fa he : Nat → Int32} {n : Nat} {nv du ta : Nat → Int32} {w : Nat} {mp mi : Nat → Int32} {k : Nat} {nt fu re : Int32} {o : Nat} {cJ : ClassId} {g : Nat → Int64} (i : Nat) (hi : i < n) (hn : n ≤ 10) (ha : lv i = 0) : Met l yL_hit (wsH_ yL_hit cL_hit 4 (some .int) [(0, 9, 12, 24), (0, 9, 15, 15)]) ({ frames := 8, cells := 1, slots := 6, locals := 133 } : Room) (va_Pc [.ref (a 0), .int (nI i), .ref o] (fun U => U.heap.size = sz ∧ va_P D vwCl (oW o cJ g (xW z a lv lk pu fa he n nv du ta w mp mi k nt fu re)) U.heap ∧ kK D z U ∧ kJ D cJ U ∧ va_D (fun _ => True) (oW o cJ g (xW z a lv lk pu fa he n nv du ta w mp mi k nt fu re)) ∧ tH nA U U.heap ∧ tN U)) (va_Qi (fun (r : Int32) (_ : Unit) => r = 2) (fun _ t9 => va_P D vwCl (oW o cJ g (xW z a lv lk pu fa he n nv du ta w mp mi k nt fu re)) t9.heap ∧ va_D (va_A (oW o cJ g (xW z a lv lk pu fa he n nv du ta w mp mi k nt fu re)) sz) (oW o cJ g (xW z a lv lk pu fa he n nv du ta w mp mi k nt fu re))) (va_A (oW o cJ g (xW z a lv lk pu fa he n nv du ta w mp mi k nt fu re)) sz)) 1 6 (va_A (oW o cJ g (xW z a lv lk pu fa he n nv du ta w mp mi k nt fu re)) sz) := by
  refine va_MetW (hh := [(0, 9, 12, 24), (0, 9, 15, 15)]) (cc := cL_hit) (maxL := 4) (ret := (some .int)) (by decide) rfl ?_
  intro p e s m args below meth c s₁ B hml hv
  obtain ⟨rfl, hsz, hP, hK, hJ, hD0, hT, hN⟩ := hv
  have hx := B.exec
  have hb := B.bytes
  have hr := B.returns
  have hts0 := atoms_spec (ws := wsH_ yL_hit cL_hit 4 (some .int) [(0, 9, 12, 24), (0, 9, 15, 15)]) B.pre
  have hts : ∀ w ∈ lw_all, w.before _ s = true := fun w h => hts0 w (List.mem_cons_of_mem _ h)
  have hown : s.vm.findClass RL = some m.cls := findClass_of_methodNamed B.named
  have hlocks := B.notSynchronized
  have hC : CallFix p m c cL_hit 4 s _ lw_all RL := ⟨hx, hb, hml, hown, hts⟩
  have htab := vx_table (x := yL_hit) B (hts0 _ List.mem_cons_self)
  subst hsz
  have hD := hD0.self (sz := s.heap.size)
  generalize hAe : va_A (oW o cJ g (xW z a lv lk pu fa he n nv du ta w mp mi k nt fu re)) s.heap.size = A at hD ⊢
  have hA : ∀ q : Nat, s.heap.size ≤ q → A q := fun q h => by rw [← hAe]; exact Or.inr h
  have hS : va_S A s.heap s.heap [] := va_S.rf
  have hl := lv_entry ([.ref (a 0), .int (nI i), .ref o]) (n := 4) (Nat.le_of_ble_eq_true rfl)
  rw [lg_entry_eq]
  generalize (lg_sl ([.ref (a 0), .int (nI i), .ref o]) ++ List.replicate (4 - (lg_sl ([.ref (a 0), .int (nI i), .ref o])).length) Slot.unset).toArray = ls at hl ⊢
  have hl : lv_has ls 4 [(0, .ref (a 0)), (1, .int (nI i)), (2, .ref o)] := hl
  refine lv_aload_n hx hb dL_hit_0 rfl (lv_at hl 2 rfl) ?_
  refine lv_iconst (v := 0) hx hb dL_hit_1 (by decide) ?_
  refine lv_aload_n hx hb dL_hit_2 rfl (lv_at hl 0 rfl) ?_
  refine lv_iload_n hx hb dL_hit_3 rfl (lv_at hl 1 rfl) ?_
  have hPX := wj_Pr hP
  refine vx_calli (vx_runV (As := [.int (nI i)]) (rest := [.int 0, .ref o]) hC (ct_X0_hit_b l hst i hi hn ha) (cwV 1 hC.2.2.2.2 (gi_V mM_L_36 mV_X0_hit mS_X0_hit mI_MissRegistry mC_X0_hit) rfl rfl rfl (by decide +kernel) ⟨Nat.le_of_ble_eq_true rfl, Nat.le_of_ble_eq_true rfl⟩) ⟨fun a1 U g mk q8 => ⟨q8.1, ⟨q8.2.1.1, va_K.moved (u := U) (U := U.calling g mk a1) (Vm.Alike.refl U.vm) q8.2.1.2⟩, tH.same (u := U) (U := U.calling g mk a1) rfl q8.2.2⟩, va_recv hK hPX (ci := 0) (q0 := 0) rfl rfl, fun U hU hW => ⟨rfl, ⟨by rw [hU]; exact hPX, va_K.moved hW.alike hK⟩, by rw [hU]; exact hT.warm hW⟩⟩ rfl rfl hl.1 rfl (lv_room (Nat.le_of_ble_eq_true rfl)) dL_hit_4 ⟨Nat.le_of_ble_eq_true rfl, Nat.le_of_ble_eq_true rfl⟩) hS (fun _ _ h => h.elim) (fun _ h => h.elim) (fun _ _ h => h.elim) (fun E9 ce q9 u t H1 locs ht hvm hp hB hz9 hk9 hS9 hce hcv hcl => ?_) (fun r9 u9 t H1 locs ht hvm hw9 hB hz9 hk9 hS9 => hw9.elim)
  have hB : E9 = "java/lang/IllegalStateException" := hB
  subst hB
  have hP : va_P D vwCl (oW o cJ g (xW z a lv lk pu fa he n nv du ta w mp mi k nt fu re)) H1 := wj_kept hP hk9
  have hS := hS9
  refine vx_catch (name := "java/lang/IllegalStateException") hown [⟨0, 9, 12, 24⟩] ⟨0, 9, 15, 15⟩ [] htab (fun z9 h9 => by rw [List.mem_singleton.mp h9]; exact Or.inr ⟨by decide, "java/lang/IndexOutOfBoundsException", hts _ mK_L_24, hN.1.2⟩) (by decide) (by decide) (hts _ mK_L_15) (va_Nw.use rfl hT.2.2.1.1.2.1) hce hcv hcl ?_
  refine W.widen (k := 1) (n := 6) (by omega) (by omega) ?_
  refine W.eq (g2 := F0 m 15 ls [.ref q9]) rfl ?_
  refine lv_astore_n (lv' := [(3, .ref q9), (0, .ref (a 0)), (1, .int (nI i)), (2, .ref o)]) hx hb dL_hit_15 rfl hl (by decide) rfl (fun ls hl => ?_)
  refine lv_iconst (v := 2) hx hb dL_hit_16 (by decide) ?_
  exact W.iret (v := 2) hx hb hr (fun t ht hW => ⟨⟨2, (), rfl, rfl, by rw [ht]; exact hP, hD⟩, hS.F ht⟩) hS.2.2 dL_hit_17
set_option maxHeartbeats 4000000 in
set_option maxRecDepth 100000 in
theorem w_pass_a (l : Launch) (hst : l.stackTraces = false) (sz : Nat) {D : va_G} {z : ClassId × ClassId} {a : Nat → Nat} {lv lk pu fa he : Nat → Int32} {n : Nat} {nv du ta : Nat → Int32} {w : Nat} {mp mi : Nat → Int32} {k : Nat} {nt fu re : Int32} {o : Nat} {cJ : ClassId} {g : Nat → Int64} (x : Int32) (hbad : x < 1 ∨ ¬ x ≤ 30) : Met l yL_pass (wsH_ yL_pass cL_pass 4 (some .int) [(0, 9, 12, 13)]) ({ frames := 7, cells := 1, slots := 6, locals := 112 } : Room) (va_Pc [.ref (a 0), .int x, .ref o] (fun U => U.heap.size = sz ∧ va_P D vwCl (oW o cJ g (xW z a lv lk pu fa he n nv du ta w mp mi k nt fu re)) U.heap ∧ kK D z U ∧ kJ D cJ U ∧ va_D (fun _ => True) (oW o cJ g (xW z a lv lk pu fa he n nv du ta w mp mi k nt fu re)) ∧ tH nA U U.heap ∧ tN U)) (va_Qi (fun (r : Int32) (_ : Unit) => r = 1) (fun _ t9 => va_P D vwCl (oW o cJ g (xW z a lv lk pu fa he n nv du ta w mp mi k nt fu re)) t9.heap ∧ va_D (va_A (oW o cJ g (xW z a lv lk pu fa he n nv du ta w mp mi k nt fu re)) sz) (oW o cJ g (xW z a lv lk pu fa he n nv du ta w mp mi k nt fu re))) (va_A (oW o cJ g (xW z a lv lk pu fa he n nv du ta w mp mi k nt fu re)) sz)) 1 6 (va_A (oW o cJ g (xW z a lv lk pu fa he n nv du ta w mp mi k nt fu re)) sz) := by
  refine va_MetW (hh := [(0, 9, 12, 13)]) (cc := cL_pass) (maxL := 4) (ret := (some .int)) (by decide) rfl ?_
  intro p e s m args below meth c s₁ B hml hv
  obtain ⟨rfl, hsz, hP, hK, hJ, hD0, hT, hN⟩ := hv
  have hx := B.exec
  have hb := B.bytes
  have hr := B.returns
  have hts0 := atoms_spec (ws := wsH_ yL_pass cL_pass 4 (some .int) [(0, 9, 12, 13)]) B.pre
  have hts : ∀ w ∈ lw_all, w.before _ s = true := fun w h => hts0 w (List.mem_cons_of_mem _ h)
  have hown : s.vm.findClass RL = some m.cls := findClass_of_methodNamed B.named
  have hlocks := B.notSynchronized
  have hC : CallFix p m c cL_pass 4 s _ lw_all RL := ⟨hx, hb, hml, hown, hts⟩
  have htab := vx_table (x := yL_pass) B (hts0 _ List.mem_cons_self)
  subst hsz
  have hD := hD0.self (sz := s.heap.size)
  generalize hAe : va_A (oW o cJ g (xW z a lv lk pu fa he n nv du ta w mp mi k nt fu re)) s.heap.size = A at hD ⊢
  have hA : ∀ q : Nat, s.heap.size ≤ q → A q := fun q h => by rw [← hAe]; exact Or.inr h
  have hS : va_S A s.heap s.heap [] := va_S.rf
  have hl := lv_entry ([.ref (a 0), .int x, .ref o]) (n := 4) (Nat.le_of_ble_eq_true rfl)
  rw [lg_entry_eq]
  generalize (lg_sl ([.ref (a 0), .int x, .ref o]) ++ List.replicate (4 - (lg_sl ([.ref (a 0), .int x, .ref o])).length) Slot.unset).toArray = ls at hl ⊢
  have hl : lv_has ls 4 [(0, .ref (a 0)), (1, .int x), (2, .ref o)] := hl
  refine lv_aload_n hx hb dL_pass_0 rfl (lv_at hl 2 rfl) ?_
  refine lv_iconst (v := 0) hx hb dL_pass_1 (by decide) ?_
  refine lv_aload_n hx hb dL_pass_2 rfl (lv_at hl 0 rfl) ?_
  refine lv_iload_n hx hb dL_pass_3 rfl (lv_at hl 1 rfl) ?_
  have hPX := wj_Pr hP
  refine vx_calli (vx_runV (As := [.int x]) (rest := [.int 0, .ref o]) hC (ct_X0_pass_a l hst x hbad) (cwV 1 hC.2.2.2.2 (gi_V mM_L_39 mV_X0_pass mS_X0_pass mI_MissRegistry mC_X0_pass) rfl rfl rfl (by decide +kernel) ⟨Nat.le_of_ble_eq_true rfl, Nat.le_of_ble_eq_true rfl⟩) ⟨fun a1 U g mk q8 => ⟨q8.1, ⟨q8.2.1.1, va_K.moved (u := U) (U := U.calling g mk a1) (Vm.Alike.refl U.vm) q8.2.1.2⟩, tH.same (u := U) (U := U.calling g mk a1) rfl q8.2.2⟩, va_recv hK hPX (ci := 0) (q0 := 0) rfl rfl, fun U hU hW => ⟨rfl, ⟨by rw [hU]; exact hPX, va_K.moved hW.alike hK⟩, by rw [hU]; exact hT.warm hW⟩⟩ rfl rfl hl.1 rfl (lv_room (Nat.le_of_ble_eq_true rfl)) dL_pass_4 ⟨Nat.le_of_ble_eq_true rfl, Nat.le_of_ble_eq_true rfl⟩) hS (fun _ _ h => h.elim) (fun _ h => h.elim) (fun _ _ h => h.elim) (fun E9 ce q9 u t H1 locs ht hvm hp hB hz9 hk9 hS9 hce hcv hcl => ?_) (fun r9 u9 t H1 locs ht hvm hw9 hB hz9 hk9 hS9 => hw9.elim)
  have hB : E9 = "java/lang/IllegalArgumentException" := hB
  subst hB
  have hP : va_P D vwCl (oW o cJ g (xW z a lv lk pu fa he n nv du ta w mp mi k nt fu re)) H1 := wj_kept hP hk9
  have hS := hS9
  refine vx_catch (name := "java/lang/IllegalArgumentException") hown [] ⟨0, 9, 12, 13⟩ [] htab (fun z9 h9 => absurd h9 List.not_mem_nil) (by decide) (by decide) (hts _ mK_L_13) (va_Nw.use rfl hT.2.2.1.1.1) hce hcv hcl ?_
  refine W.widen (k := 1) (n := 6) (by omega) (by omega) ?_
  refine W.eq (g2 := F0 m 12 ls [.ref q9]) rfl ?_
  refine lv_astore_n (lv' := [(3, .ref q9), (0, .ref (a 0)), (1, .int x), (2, .ref o)]) hx hb dL_pass_12 rfl hl (by decide) rfl (fun ls hl => ?_)
  refine lv_iconst (v := 1) hx hb dL_pass_13 (by decide) ?_
  exact W.iret (v := 1) hx hb hr (fun t ht hW => ⟨⟨1, (), rfl, rfl, by rw [ht]; exact hP, hD⟩, hS.F ht⟩) hS.2.2 dL_pass_14
set_option maxHeartbeats 4000000 in
set_option maxRecDepth 100000 in
theorem w_isAlive_a (l : Launch) (hst : l.stackTraces = false) (sz : Nat) {D : va_G} {z : ClassId × ClassId} {a : Nat → Nat} {lv lk pu fa he : Nat → Int32} {n : Nat} {nv du ta : Nat → Int32} {w : Nat} {mp mi : Nat → Int32} {k : Nat} {nt fu re : Int32} {o : Nat} {cJ : ClassId} {g : Nat → Int64} (x : Int32) (hbad : sp_isP n x = 0) : Met l yL_isAlive (wsH_ yL_isAlive cL_isAlive 4 (some .int) [(0, 16, 19, 24)]) ({ frames := 8, cells := 1, slots := 6, locals := 132 } : Room) (va_Pc [.ref (a 0), .int x, .ref o] (fun U => U.heap.size = sz ∧ va_P D vwCl (oW o cJ g (xW z a lv lk pu fa he n nv du ta w mp mi k nt fu re)) U.heap ∧ kK D z U ∧ kJ D cJ U ∧ va_D (fun _ => True) (oW o cJ g (xW z a lv lk pu fa he n nv du ta w mp mi k nt fu re)) ∧ tH nA U U.heap ∧ tN U)) (va_Qi (fun (r : Int32) (_ : Unit) => r = 1) (fun _ t9 => va_P D vwCl (oW o cJ g (xW z a lv lk pu fa he n nv du ta w mp mi k nt fu re)) t9.heap ∧ va_D (va_A (oW o cJ g (xW z a lv lk pu fa he n nv du ta w mp mi k nt fu re)) sz) (oW o cJ g (xW z a lv lk pu fa he n nv du ta w mp mi k nt fu re))) (va_A (oW o cJ g (xW z a lv lk pu fa he n nv du ta w mp mi k nt fu re)) sz)) 1 6 (va_A (oW o cJ g (xW z a lv lk pu fa he n nv du ta w mp mi k nt fu re)) sz) := by
  refine va_MetW (hh := [(0, 16, 19, 24)]) (cc := cL_isAlive) (maxL := 4) (ret := (some .int)) (by decide) rfl ?_
  intro p e s m args below meth c s₁ B hml hv
  obtain ⟨rfl, hsz, hP, hK, hJ, hD0, hT, hN⟩ := hv
  have hx := B.exec
  have hb := B.bytes
  have hr := B.returns
  have hts0 := atoms_spec (ws := wsH_ yL_isAlive cL_isAlive 4 (some .int) [(0, 16, 19, 24)]) B.pre
  have hts : ∀ w ∈ lw_all, w.before _ s = true := fun w h => hts0 w (List.mem_cons_of_mem _ h)
  have hown : s.vm.findClass RL = some m.cls := findClass_of_methodNamed B.named
  have hlocks := B.notSynchronized
  have hC : CallFix p m c cL_isAlive 4 s _ lw_all RL := ⟨hx, hb, hml, hown, hts⟩
  have htab := vx_table (x := yL_isAlive) B (hts0 _ List.mem_cons_self)
  subst hsz
  have hD := hD0.self (sz := s.heap.size)
  generalize hAe : va_A (oW o cJ g (xW z a lv lk pu fa he n nv du ta w mp mi k nt fu re)) s.heap.size = A at hD ⊢
  have hA : ∀ q : Nat, s.heap.size ≤ q → A q := fun q h => by rw [← hAe]; exact Or.inr h
  have hS : va_S A s.heap s.heap [] := va_S.rf
  have hl := lv_entry ([.ref (a 0), .int x, .ref o]) (n := 4) (Nat.le_of_ble_eq_true rfl)
  rw [lg_entry_eq]
  generalize (lg_sl ([.ref (a 0), .int x, .ref o]) ++ List.replicate (4 - (lg_sl ([.ref (a 0), .int x, .ref o])).length) Slot.unset).toArray = ls at hl ⊢
  have hl : lv_has ls 4 [(0, .ref (a 0)), (1, .int x), (2, .ref o)] := hl
  refine lv_aload_n hx hb dL_isAlive_0 rfl (lv_at hl 2 rfl) ?_
  refine lv_iconst (v := 0) hx hb dL_isAlive_1 (by decide) ?_
  refine lv_aload_n hx hb dL_isAlive_2 rfl (lv_at hl 0 rfl) ?_
  refine lv_iload_n hx hb dL_isAlive_3 rfl (lv_at hl 1 rfl) ?_
  have hPX := wj_Pr hP
  refine vx_calli (vx_runV (As := [.int x]) (rest := [.int 0, .ref o]) hC (ct_X0_isAlive_a l hst x hbad) (cwV 1 hC.2.2.2.2 (gi_V mM_L_42 mV_X0_isAlive mS_X0_isAlive mI_MissRegistry mC_X0_isAlive) rfl rfl rfl (by decide +kernel) ⟨Nat.le_of_ble_eq_true rfl, Nat.le_of_ble_eq_true rfl⟩) ⟨fun a1 U g mk q8 => ⟨q8.1, ⟨q8.2.1.1, va_K.moved (u := U) (U := U.calling g mk a1) (Vm.Alike.refl U.vm) q8.2.1.2⟩, tH.same (u := U) (U := U.calling g mk a1) rfl q8.2.2⟩, va_recv hK hPX (ci := 0) (q0 := 0) rfl rfl, fun U hU hW => ⟨rfl, ⟨by rw [hU]; exact hPX, va_K.moved hW.alike hK⟩, by rw [hU]; exact hT.warm hW⟩⟩ rfl rfl hl.1 rfl (lv_room (Nat.le_of_ble_eq_true rfl)) dL_isAlive_4 ⟨Nat.le_of_ble_eq_true rfl, Nat.le_of_ble_eq_true rfl⟩) hS (fun _ _ h => h.elim) (fun _ h => h.elim) (fun _ _ h => h.elim) (fun E9 ce q9 u t H1 locs ht hvm hp hB hz9 hk9 hS9 hce hcv hcl => ?_) (fun r9 u9 t H1 locs ht hvm hw9 hB hz9 hk9 hS9 => hw9.elim)
  have hB : E9 = "java/lang/IndexOutOfBoundsException" := hB
  subst hB
  have hP : va_P D vwCl (oW o cJ g (xW z a lv lk pu fa he n nv du ta w mp mi k nt fu re)) H1 := wj_kept hP hk9
  have hS := hS9
  refine vx_catch (name := "java/lang/IndexOutOfBoundsException") hown [] ⟨0, 16, 19, 24⟩ [] htab (fun z9 h9 => absurd h9 List.not_mem_nil) (by decide) (by decide) (hts _ mK_L_24) (va_Nw.use rfl hT.2.2.1.1.2.2) hce hcv hcl ?_
  refine W.widen (k := 1) (n := 6) (by omega) (by omega) ?_
  refine W.eq (g2 := F0 m 19 ls [.ref q9]) rfl ?_
  refine lv_astore_n (lv' := [(3, .ref q9), (0, .ref (a 0)), (1, .int x), (2, .ref o)]) hx hb dL_isAlive_19 rfl hl (by decide) rfl (fun ls hl => ?_)
  refine lv_iconst (v := 1) hx hb dL_isAlive_20 (by decide) ?_
  exact W.iret (v := 1) hx hb hr (fun t ht hW => ⟨⟨1, (), rfl, rfl, by rw [ht]; exact hP, hD⟩, hS.F ht⟩) hS.2.2 dL_isAlive_21
set_option maxHeartbeats 4000000 in
set_option maxRecDepth 100000 in
theorem w_luckOf_a (l : Launch) (hst : l.stackTraces = false) (sz : Nat) {D : va_G} {z : ClassId × ClassId} {a : Nat → Nat} {lv lk pu fa he : Nat → Int32} {n : Nat} {nv du ta : Nat → Int32} {w : Nat} {mp mi : Nat → Int32} {k : Nat} {nt fu re : Int32} {o : Nat} {cJ : ClassId} {g : Nat → Int64} (x : Int32) (hbad : sp_isP n x = 0) : Met l yL_luckOf (wsH_ yL_luckOf cL_luckOf 4 (some .int) [(0, 9, 12, 24)]) ({ frames := 8, cells := 1, slots := 6, locals := 132 } : Room) (va_Pc [.ref (a 0), .int x, .ref o] (fun U => U.heap.size = sz ∧ va_P D vwCl (oW o cJ g (xW z a lv lk pu fa he n nv du ta w mp mi k nt fu re)) U.heap ∧ kK D z U ∧ kJ D cJ U ∧ va_D (fun _ => True) (oW o cJ g (xW z a lv lk pu fa he n nv du ta w mp mi k nt fu re)) ∧ tH nA U U.heap ∧ tN U)) (va_Qi (fun (r : Int32) (_ : Unit) => r = 1) (fun _ t9 => va_P D vwCl (oW o cJ g (xW z a lv lk pu fa he n nv du ta w mp mi k nt fu re)) t9.heap ∧ va_D (va_A (oW o cJ g (xW z a lv lk pu fa he n nv du ta w mp mi k nt fu re)) sz) (oW o cJ g (xW z a lv lk pu fa he n nv du ta w mp mi k nt fu re))) (va_A (oW o cJ g (xW z a lv lk pu fa he n nv du ta w mp mi k nt fu re)) sz)) 1 6 (va_A (oW o cJ g (xW z a lv lk pu fa he n nv du ta w mp mi k nt fu re)) sz) := by
  refine va_MetW (hh := [(0, 9, 12, 24)]) (cc := cL_luckOf) (maxL := 4) (ret := (some .int)) (by decide) rfl ?_
  intro p e s m args below meth c s₁ B hml hv
  obtain ⟨rfl, hsz, hP, hK, hJ, hD0, hT, hN⟩ := hv
  have hx := B.exec
  have hb := B.bytes
  have hr := B.returns
  have hts0 := atoms_spec (ws := wsH_ yL_luckOf cL_luckOf 4 (some .int) [(0, 9, 12, 24)]) B.pre
  have hts : ∀ w ∈ lw_all, w.before _ s = true := fun w h => hts0 w (List.mem_cons_of_mem _ h)
  have hown : s.vm.findClass RL = some m.cls := findClass_of_methodNamed B.named
  have hlocks := B.notSynchronized
  have hC : CallFix p m c cL_luckOf 4 s _ lw_all RL := ⟨hx, hb, hml, hown, hts⟩
  have htab := vx_table (x := yL_luckOf) B (hts0 _ List.mem_cons_self)
  subst hsz
  have hD := hD0.self (sz := s.heap.size)
  generalize hAe : va_A (oW o cJ g (xW z a lv lk pu fa he n nv du ta w mp mi k nt fu re)) s.heap.size = A at hD ⊢
  have hA : ∀ q : Nat, s.heap.size ≤ q → A q := fun q h => by rw [← hAe]; exact Or.inr h
  have hS : va_S A s.heap s.heap [] := va_S.rf
  have hl := lv_entry ([.ref (a 0), .int x, .ref o]) (n := 4) (Nat.le_of_ble_eq_true rfl)
  rw [lg_entry_eq]
  generalize (lg_sl ([.ref (a 0), .int x, .ref o]) ++ List.replicate (4 - (lg_sl ([.ref (a 0), .int x, .ref o])).length) Slot.unset).toArray = ls at hl ⊢
  have hl : lv_has ls 4 [(0, .ref (a 0)), (1, .int x), (2, .ref o)] := hl
  refine lv_aload_n hx hb dL_luckOf_0 rfl (lv_at hl 2 rfl) ?_
  refine lv_iconst (v := 0) hx hb dL_luckOf_1 (by decide) ?_
  refine lv_aload_n hx hb dL_luckOf_2 rfl (lv_at hl 0 rfl) ?_
  refine lv_iload_n hx hb dL_luckOf_3 rfl (lv_at hl 1 rfl) ?_
  have hPX := wj_Pr hP
  refine vx_calli (vx_runV (As := [.int x]) (rest := [.int 0, .ref o]) hC (ct_X0_luckOf_a l hst x hbad) (cwV 1 hC.2.2.2.2 (gi_V mM_L_45 mV_X0_luckOf mS_X0_luckOf mI_MissRegistry mC_X0_luckOf) rfl rfl rfl (by decide +kernel) ⟨Nat.le_of_ble_eq_true rfl, Nat.le_of_ble_eq_true rfl⟩) ⟨fun a1 U g mk q8 => ⟨q8.1, ⟨q8.2.1.1, va_K.moved (u := U) (U := U.calling g mk a1) (Vm.Alike.refl U.vm) q8.2.1.2⟩, tH.same (u := U) (U := U.calling g mk a1) rfl q8.2.2⟩, va_recv hK hPX (ci := 0) (q0 := 0) rfl rfl, fun U hU hW => ⟨rfl, ⟨by rw [hU]; exact hPX, va_K.moved hW.alike hK⟩, by rw [hU]; exact hT.warm hW⟩⟩ rfl rfl hl.1 rfl (lv_room (Nat.le_of_ble_eq_true rfl)) dL_luckOf_4 ⟨Nat.le_of_ble_eq_true rfl, Nat.le_of_ble_eq_true rfl⟩) hS (fun _ _ h => h.elim) (fun _ h => h.elim) (fun _ _ h => h.elim) (fun E9 ce q9 u t H1 locs ht hvm hp hB hz9 hk9 hS9 hce hcv hcl => ?_) (fun r9 u9 t H1 locs ht hvm hw9 hB hz9 hk9 hS9 => hw9.elim)
  have hB : E9 = "java/lang/IndexOutOfBoundsException" := hB
  subst hB
  have hP : va_P D vwCl (oW o cJ g (xW z a lv lk pu fa he n nv du ta w mp mi k nt fu re)) H1 := wj_kept hP hk9
  have hS := hS9
  refine vx_catch (name := "java/lang/IndexOutOfBoundsException") hown [] ⟨0, 9, 12, 24⟩ [] htab (fun z9 h9 => absurd h9 List.not_mem_nil) (by decide) (by decide) (hts _ mK_L_24) (va_Nw.use rfl hT.2.2.1.1.2.2) hce hcv hcl ?_
  refine W.widen (k := 1) (n := 6) (by omega) (by omega) ?_
  refine W.eq (g2 := F0 m 12 ls [.ref q9]) rfl ?_
  refine lv_astore_n (lv' := [(3, .ref q9), (0, .ref (a 0)), (1, .int x), (2, .ref o)]) hx hb dL_luckOf_12 rfl hl (by decide) rfl (fun ls hl => ?_)
  refine lv_iconst (v := 1) hx hb dL_luckOf_13 (by decide) ?_
  exact W.iret (v := 1) hx hb hr (fun t ht hW => ⟨⟨1, (), rfl, rfl, by rw [ht]; exact hP, hD⟩, hS.F ht⟩) hS.2.2 dL_luckOf_14
set_option maxHeartbeats 4000000 in
set_option maxRecDepth 100000 in
theorem w_purseOf_a (l : Launch) (hst : l.stackTraces = false) (sz : Nat) {D : va_G} {z : ClassId × ClassId} {a : Nat → Nat} {lv lk pu fa he : Nat → Int32} {n : Nat} {nv du ta : Nat → Int32} {w : Nat} {mp mi : Nat → Int32} {k : Nat} {nt fu re : Int32} {o : Nat} {cJ : ClassId} {g : Nat → Int64} (x : Int32) (hbad : sp_isP n x = 0) : Met l yL_purseOf (wsH_ yL_purseOf cL_purseOf 4 (some .int) [(0, 9, 12, 24)]) ({ frames := 8, cells := 1, slots := 6, locals := 132 } : Room) (va_Pc [.ref (a 0), .int x, .ref o] (fun U => U.heap.size = sz ∧ va_P D vwCl (oW o cJ g (xW z a lv lk pu fa he n nv du ta w mp mi k nt fu re)) U.heap ∧ kK D z U ∧ kJ D cJ U ∧ va_D (fun _ => True) (oW o cJ g (xW z a lv lk pu fa he n nv du ta w mp mi k nt fu re)) ∧ tH nA U U.heap ∧ tN U)) (va_Qi (fun (r : Int32) (_ : Unit) => r = 1) (fun _ t9 => va_P D vwCl (oW o cJ g (xW z a lv lk pu fa he n nv du ta w mp mi k nt fu re)) t9.heap ∧ va_D (va_A (oW o cJ g (xW z a lv lk pu fa he n nv du ta w mp mi k nt fu re)) sz) (oW o cJ g (xW z a lv lk pu fa he n nv du ta w mp mi k nt fu re))) (va_A (oW o cJ g (xW z a lv lk pu fa he n nv du ta w mp mi k nt fu re)) sz)) 1 6 (va_A (oW o cJ g (xW z a lv lk pu fa he n nv du ta w mp mi k nt fu re)) sz) := by
  refine va_MetW (hh := [(0, 9, 12, 24)]) (cc := cL_purseOf) (maxL := 4) (ret := (some .int)) (by decide) rfl ?_
  intro p e s m args below meth c s₁ B hml hv
  obtain ⟨rfl, hsz, hP, hK, hJ, hD0, hT, hN⟩ := hv
  have hx := B.exec
  have hb := B.bytes
  have hr := B.returns
  have hts0 := atoms_spec (ws := wsH_ yL_purseOf cL_purseOf 4 (some .int) [(0, 9, 12, 24)]) B.pre
  have hts : ∀ w ∈ lw_all, w.before _ s = true := fun w h => hts0 w (List.mem_cons_of_mem _ h)
  have hown : s.vm.findClass RL = some m.cls := findClass_of_methodNamed B.named
  have hlocks := B.notSynchronized
  have hC : CallFix p m c cL_purseOf 4 s _ lw_all RL := ⟨hx, hb, hml, hown, hts⟩
  have htab := vx_table (x := yL_purseOf) B (hts0 _ List.mem_cons_self)
  subst hsz
  have hD := hD0.self (sz := s.heap.size)
  generalize hAe : va_A (oW o cJ g (xW z a lv lk pu fa he n nv du ta w mp mi k nt fu re)) s.heap.size = A at hD ⊢
  have hA : ∀ q : Nat, s.heap.size ≤ q → A q := fun q h => by rw [← hAe]; exact Or.inr h
  have hS : va_S A s.heap s.heap [] := va_S.rf
  have hl := lv_entry ([.ref (a 0), .int x, .ref o]) (n := 4) (Nat.le_of_ble_eq_true rfl)
  rw [lg_entry_eq]
  generalize (lg_sl ([.ref (a 0), .int x, .ref o]) ++ List.replicate (4 - (lg_sl ([.ref (a 0), .int x, .ref o])).length) Slot.unset).toArray = ls at hl ⊢
  have hl : lv_has ls 4 [(0, .ref (a 0)), (1, .int x), (2, .ref o)] := hl
  refine lv_aload_n hx hb dL_purseOf_0 rfl (lv_at hl 2 rfl) ?_
  refine lv_iconst (v := 0) hx hb dL_purseOf_1 (by decide) ?_
  refine lv_aload_n hx hb dL_purseOf_2 rfl (lv_at hl 0 rfl) ?_
  refine lv_iload_n hx hb dL_purseOf_3 rfl (lv_at hl 1 rfl) ?_
  have hPX := wj_Pr hP
  refine vx_calli (vx_runV (As := [.int x]) (rest := [.int 0, .ref o]) hC (ct_X0_purseOf_a l hst x hbad) (cwV 1 hC.2.2.2.2 (gi_V mM_L_48 mV_X0_purseOf mS_X0_purseOf mI_MissRegistry mC_X0_purseOf) rfl rfl rfl (by decide +kernel) ⟨Nat.le_of_ble_eq_true rfl, Nat.le_of_ble_eq_true rfl⟩) ⟨fun a1 U g mk q8 => ⟨q8.1, ⟨q8.2.1.1, va_K.moved (u := U) (U := U.calling g mk a1) (Vm.Alike.refl U.vm) q8.2.1.2⟩, tH.same (u := U) (U := U.calling g mk a1) rfl q8.2.2⟩, va_recv hK hPX (ci := 0) (q0 := 0) rfl rfl, fun U hU hW => ⟨rfl, ⟨by rw [hU]; exact hPX, va_K.moved hW.alike hK⟩, by rw [hU]; exact hT.warm hW⟩⟩ rfl rfl hl.1 rfl (lv_room (Nat.le_of_ble_eq_true rfl)) dL_purseOf_4 ⟨Nat.le_of_ble_eq_true rfl, Nat.le_of_ble_eq_true rfl⟩) hS (fun _ _ h => h.elim) (fun _ h => h.elim) (fun _ _ h => h.elim) (fun E9 ce q9 u t H1 locs ht hvm hp hB hz9 hk9 hS9 hce hcv hcl => ?_) (fun r9 u9 t H1 locs ht hvm hw9 hB hz9 hk9 hS9 => hw9.elim)
  have hB : E9 = "java/lang/IndexOutOfBoundsException" := hB
  subst hB
  have hP : va_P D vwCl (oW o cJ g (xW z a lv lk pu fa he n nv du ta w mp mi k nt fu re)) H1 := wj_kept hP hk9
  have hS := hS9
  refine vx_catch (name := "java/lang/IndexOutOfBoundsException") hown [] ⟨0, 9, 12, 24⟩ [] htab (fun z9 h9 => absurd h9 List.not_mem_nil) (by decide) (by decide) (hts _ mK_L_24) (va_Nw.use rfl hT.2.2.1.1.2.2) hce hcv hcl ?_
  refine W.widen (k := 1) (n := 6) (by omega) (by omega) ?_
  refine W.eq (g2 := F0 m 12 ls [.ref q9]) rfl ?_
  refine lv_astore_n (lv' := [(3, .ref q9), (0, .ref (a 0)), (1, .int x), (2, .ref o)]) hx hb dL_purseOf_12 rfl hl (by decide) rfl (fun ls hl => ?_)
  refine lv_iconst (v := 1) hx hb dL_purseOf_13 (by decide) ?_
  exact W.iret (v := 1) hx hb hr (fun t ht hW => ⟨⟨1, (), rfl, rfl, by rw [ht]; exact hP, hD⟩, hS.F ht⟩) hS.2.2 dL_purseOf_14
set_option maxHeartbeats 4000000 in
set_option maxRecDepth 100000 in
theorem w_fatesOf_a (l : Launch) (hst : l.stackTraces = false) (sz : Nat) {D : va_G} {z : ClassId × ClassId} {a : Nat → Nat} {lv lk pu fa he : Nat → Int32} {n : Nat} {nv du ta : Nat → Int32} {w : Nat} {mp mi : Nat → Int32} {k : Nat} {nt fu re : Int32} {o : Nat} {cJ : ClassId} {g : Nat → Int64} (x : Int32) (hbad : sp_isP n x = 0) : Met l yL_fatesOf (wsH_ yL_fatesOf cL_fatesOf 4 (some .int) [(0, 9, 12, 24)]) ({ frames := 8, cells := 1, slots := 6, locals := 132 } : Room) (va_Pc [.ref (a 0), .int x, .ref o] (fun U => U.heap.size = sz ∧ va_P D vwCl (oW o cJ g (xW z a lv lk pu fa he n nv du ta w mp mi k nt fu re)) U.heap ∧ kK D z U ∧ kJ D cJ U ∧ va_D (fun _ => True) (oW o cJ g (xW z a lv lk pu fa he n nv du ta w mp mi k nt fu re)) ∧ tH nA U U.heap ∧ tN U)) (va_Qi (fun (r : Int32) (_ : Unit) => r = 1) (fun _ t9 => va_P D vwCl (oW o cJ g (xW z a lv lk pu fa he n nv du ta w mp mi k nt fu re)) t9.heap ∧ va_D (va_A (oW o cJ g (xW z a lv lk pu fa he n nv du ta w mp mi k nt fu re)) sz) (oW o cJ g (xW z a lv lk pu fa he n nv du ta w mp mi k nt fu re))) (va_A (oW o cJ g (xW z a lv lk pu fa he n nv du ta w mp mi k nt fu re)) sz)) 1 6 (va_A (oW o cJ g (xW z a lv lk pu fa he n nv du ta w mp mi k nt fu re)) sz) := by
  refine va_MetW (hh := [(0, 9, 12, 24)]) (cc := cL_fatesOf) (maxL := 4) (ret := (some .int)) (by decide) rfl ?_
  intro p e s m args below meth c s₁ B hml hv
  obtain ⟨rfl, hsz, hP, hK, hJ, hD0, hT, hN⟩ := hv
  have hx := B.exec
  have hb := B.bytes
  have hr := B.returns
  have hts0 := atoms_spec (ws := wsH_ yL_fatesOf cL_fatesOf 4 (some .int) [(0, 9, 12, 24)]) B.pre
  have hts : ∀ w ∈ lw_all, w.before _ s = true := fun w h => hts0 w (List.mem_cons_of_mem _ h)
  have hown : s.vm.findClass RL = some m.cls := findClass_of_methodNamed B.named
  have hlocks := B.notSynchronized
  have hC : CallFix p m c cL_fatesOf 4 s _ lw_all RL := ⟨hx, hb, hml, hown, hts⟩
  have htab := vx_table (x := yL_fatesOf) B (hts0 _ List.mem_cons_self)
  subst hsz
  have hD := hD0.self (sz := s.heap.size)
  generalize hAe : va_A (oW o cJ g (xW z a lv lk pu fa he n nv du ta w mp mi k nt fu re)) s.heap.size = A at hD ⊢
  have hA : ∀ q : Nat, s.heap.size ≤ q → A q := fun q h => by rw [← hAe]; exact Or.inr h
  have hS : va_S A s.heap s.heap [] := va_S.rf
  have hl := lv_entry ([.ref (a 0), .int x, .ref o]) (n := 4) (Nat.le_of_ble_eq_true rfl)
  rw [lg_entry_eq]
  generalize (lg_sl ([.ref (a 0), .int x, .ref o]) ++ List.replicate (4 - (lg_sl ([.ref (a 0), .int x, .ref o])).length) Slot.unset).toArray = ls at hl ⊢
  have hl : lv_has ls 4 [(0, .ref (a 0)), (1, .int x), (2, .ref o)] := hl
  refine lv_aload_n hx hb dL_fatesOf_0 rfl (lv_at hl 2 rfl) ?_
  refine lv_iconst (v := 0) hx hb dL_fatesOf_1 (by decide) ?_
  refine lv_aload_n hx hb dL_fatesOf_2 rfl (lv_at hl 0 rfl) ?_
  refine lv_iload_n hx hb dL_fatesOf_3 rfl (lv_at hl 1 rfl) ?_
  have hPX := wj_Pr hP
  refine vx_calli (vx_runV (As := [.int x]) (rest := [.int 0, .ref o]) hC (ct_X0_fatesOf_a l hst x hbad) (cwV 1 hC.2.2.2.2 (gi_V mM_L_51 mV_X0_fatesOf mS_X0_fatesOf mI_MissRegistry mC_X0_fatesOf) rfl rfl rfl (by decide +kernel) ⟨Nat.le_of_ble_eq_true rfl, Nat.le_of_ble_eq_true rfl⟩) ⟨fun a1 U g mk q8 => ⟨q8.1, ⟨q8.2.1.1, va_K.moved (u := U) (U := U.calling g mk a1) (Vm.Alike.refl U.vm) q8.2.1.2⟩, tH.same (u := U) (U := U.calling g mk a1) rfl q8.2.2⟩, va_recv hK hPX (ci := 0) (q0 := 0) rfl rfl, fun U hU hW => ⟨rfl, ⟨by rw [hU]; exact hPX, va_K.moved hW.alike hK⟩, by rw [hU]; exact hT.warm hW⟩⟩ rfl rfl hl.1 rfl (lv_room (Nat.le_of_ble_eq_true rfl)) dL_fatesOf_4 ⟨Nat.le_of_ble_eq_true rfl, Nat.le_of_ble_eq_true rfl⟩) hS (fun _ _ h => h.elim) (fun _ h => h.elim) (fun _ _ h => h.elim) (fun E9 ce q9 u t H1 locs ht hvm hp hB hz9 hk9 hS9 hce hcv hcl => ?_) (fun r9 u9 t H1 locs ht hvm hw9 hB hz9 hk9 hS9 => hw9.elim)
  have hB : E9 = "java/lang/IndexOutOfBoundsException" := hB
  subst hB
  have hP : va_P D vwCl (oW o cJ g (xW z a lv lk pu fa he n nv du ta w mp mi k nt fu re)) H1 := wj_kept hP hk9
  have hS := hS9
  refine vx_catch (name := "java/lang/IndexOutOfBoundsException") hown [] ⟨0, 9, 12, 24⟩ [] htab (fun z9 h9 => absurd h9 List.not_mem_nil) (by decide) (by decide) (hts _ mK_L_24) (va_Nw.use rfl hT.2.2.1.1.2.2) hce hcv hcl ?_
  refine W.widen (k := 1) (n := 6) (by omega) (by omega) ?_
  refine W.eq (g2 := F0 m 12 ls [.ref q9]) rfl ?_
  refine lv_astore_n (lv' := [(3, .ref q9), (0, .ref (a 0)), (1, .int x), (2, .ref o)]) hx hb dL_fatesOf_12 rfl hl (by decide) rfl (fun ls hl => ?_)
  refine lv_iconst (v := 1) hx hb dL_fatesOf_13 (by decide) ?_
  exact W.iret (v := 1) hx hb hr (fun t ht hW => ⟨⟨1, (), rfl, rfl, by rw [ht]; exact hP, hD⟩, hS.F ht⟩) hS.2.2 dL_fatesOf_14
set_option maxHeartbeats 4000000 in
set_option maxRecDepth 100000 in
theorem w_heirOf_a (l : Launch) (hst : l.stackTraces = false) (sz : Nat) {D : va_G} {z : ClassId × ClassId} {a : Nat → Nat} {lv lk pu fa he : Nat → Int32} {n : Nat} {nv du ta : Nat → Int32} {w : Nat} {mp mi : Nat → Int32} {k : Nat} {nt fu re : Int32} {o : Nat} {cJ : ClassId} {g : Nat → Int64} (x : Int32) (hbad : sp_isP n x = 0) : Met l yL_heirOf (wsH_ yL_heirOf cL_heirOf 4 (some .int) [(0, 9, 12, 24)]) ({ frames := 8, cells := 1, slots := 6, locals := 132 } : Room) (va_Pc [.ref (a 0), .int x, .ref o] (fun U => U.heap.size = sz ∧ va_P D vwCl (oW o cJ g (xW z a lv lk pu fa he n nv du ta w mp mi k nt fu re)) U.heap ∧ kK D z U ∧ kJ D cJ U ∧ va_D (fun _ => True) (oW o cJ g (xW z a lv lk pu fa he n nv du ta w mp mi k nt fu re)) ∧ tH nA U U.heap ∧ tN U)) (va_Qi (fun (r : Int32) (_ : Unit) => r = 1) (fun _ t9 => va_P D vwCl (oW o cJ g (xW z a lv lk pu fa he n nv du ta w mp mi k nt fu re)) t9.heap ∧ va_D (va_A (oW o cJ g (xW z a lv lk pu fa he n nv du ta w mp mi k nt fu re)) sz) (oW o cJ g (xW z a lv lk pu fa he n nv du ta w mp mi k nt fu re))) (va_A (oW o cJ g (xW z a lv lk pu fa he n nv du ta w mp mi k nt fu re)) sz)) 1 6 (va_A (oW o cJ g (xW z a lv lk pu fa he n nv du ta w mp mi k nt fu re)) sz) := by
  refine va_MetW (hh := [(0, 9, 12, 24)]) (cc := cL_heirOf) (maxL := 4) (ret := (some .int)) (by decide) rfl ?_
  intro p e s m args below meth c s₁ B hml hv
  obtain ⟨rfl, hsz, hP, hK, hJ, hD0, hT, hN⟩ := hv
  have hx := B.exec
  have hb := B.bytes
  have hr := B.returns
  have hts0 := atoms_spec (ws := wsH_ yL_heirOf cL_heirOf 4 (some .int) [(0, 9, 12, 24)]) B.pre
  have hts : ∀ w ∈ lw_all, w.before _ s = true := fun w h => hts0 w (List.mem_cons_of_mem _ h)
  have hown : s.vm.findClass RL = some m.cls := findClass_of_methodNamed B.named
  have hlocks := B.notSynchronized
  have hC : CallFix p m c cL_heirOf 4 s _ lw_all RL := ⟨hx, hb, hml, hown, hts⟩
  have htab := vx_table (x := yL_heirOf) B (hts0 _ List.mem_cons_self)
  subst hsz
  have hD := hD0.self (sz := s.heap.size)
  generalize hAe : va_A (oW o cJ g (xW z a lv lk pu fa he n nv du ta w mp mi k nt fu re)) s.heap.size = A at hD ⊢
  have hA : ∀ q : Nat, s.heap.size ≤ q → A q := fun q h => by rw [← hAe]; exact Or.inr h
  have hS : va_S A s.heap s.heap [] := va_S.rf
  have hl := lv_entry ([.ref (a 0), .int x, .ref o]) (n := 4) (Nat.le_of_ble_eq_true rfl)
  rw [lg_entry_eq]
  generalize (lg_sl ([.ref (a 0), .int x, .ref o]) ++ List.replicate (4 - (lg_sl ([.ref (a 0), .int x, .ref o])).length) Slot.unset).toArray = ls at hl ⊢
  have hl : lv_has ls 4 [(0, .ref (a 0)), (1, .int x), (2, .ref o)] := hl
  refine lv_aload_n hx hb dL_heirOf_0 rfl (lv_at hl 2 rfl) ?_
  refine lv_iconst (v := 0) hx hb dL_heirOf_1 (by decide) ?_
  refine lv_aload_n hx hb dL_heirOf_2 rfl (lv_at hl 0 rfl) ?_
  refine lv_iload_n hx hb dL_heirOf_3 rfl (lv_at hl 1 rfl) ?_
  have hPX := wj_Pr hP
  refine vx_calli (vx_runV (As := [.int x]) (rest := [.int 0, .ref o]) hC (ct_X0_heirOf_a l hst x hbad) (cwV 1 hC.2.2.2.2 (gi_V mM_L_54 mV_X0_heirOf mS_X0_heirOf mI_MissRegistry mC_X0_heirOf) rfl rfl rfl (by decide +kernel) ⟨Nat.le_of_ble_eq_true rfl, Nat.le_of_ble_eq_true rfl⟩) ⟨fun a1 U g mk q8 => ⟨q8.1, ⟨q8.2.1.1, va_K.moved (u := U) (U := U.calling g mk a1) (Vm.Alike.refl U.vm) q8.2.1.2⟩, tH.same (u := U) (U := U.calling g mk a1) rfl q8.2.2⟩, va_recv hK hPX (ci := 0) (q0 := 0) rfl rfl, fun U hU hW => ⟨rfl, ⟨by rw [hU]; exact hPX, va_K.moved hW.alike hK⟩, by rw [hU]; exact hT.warm hW⟩⟩ rfl rfl hl.1 rfl (lv_room (Nat.le_of_ble_eq_true rfl)) dL_heirOf_4 ⟨Nat.le_of_ble_eq_true rfl, Nat.le_of_ble_eq_true rfl⟩) hS (fun _ _ h => h.elim) (fun _ h => h.elim) (fun _ _ h => h.elim) (fun E9 ce q9 u t H1 locs ht hvm hp hB hz9 hk9 hS9 hce hcv hcl => ?_) (fun r9 u9 t H1 locs ht hvm hw9 hB hz9 hk9 hS9 => hw9.elim)
  have hB : E9 = "java/lang/IndexOutOfBoundsException" := hB
  subst hB
  have hP : va_P D vwCl (oW o cJ g (xW z a lv lk pu fa he n nv du ta w mp mi k nt fu re)) H1 := wj_kept hP hk9
  have hS := hS9
  refine vx_catch (name := "java/lang/IndexOutOfBoundsException") hown [] ⟨0, 9, 12, 24⟩ [] htab (fun z9 h9 => absurd h9 List.not_mem_nil) (by decide) (by decide) (hts _ mK_L_24) (va_Nw.use rfl hT.2.2.1.1.2.2) hce hcv hcl ?_
  refine W.widen (k := 1) (n := 6) (by omega) (by omega) ?_
  refine W.eq (g2 := F0 m 12 ls [.ref q9]) rfl ?_
  refine lv_astore_n (lv' := [(3, .ref q9), (0, .ref (a 0)), (1, .int x), (2, .ref o)]) hx hb dL_heirOf_12 rfl hl (by decide) rfl (fun ls hl => ?_)
  refine lv_iconst (v := 1) hx hb dL_heirOf_13 (by decide) ?_
  exact W.iret (v := 1) hx hb hr (fun t ht hW => ⟨⟨1, (), rfl, rfl, by rw [ht]; exact hP, hD⟩, hS.F ht⟩) hS.2.2 dL_heirOf_14
set_option maxHeartbeats 4000000 in
set_option maxRecDepth 100000 in
theorem w_lastHeirOf_a (l : Launch) (hst : l.stackTraces = false) (sz : Nat) {D : va_G} {z : ClassId × ClassId} {a : Nat → Nat} {lv lk pu fa he : Nat → Int32} {n : Nat} {nv du ta : Nat → Int32} {w : Nat} {mp mi : Nat → Int32} {k : Nat} {nt fu re : Int32} {o : Nat} {cJ : ClassId} {g : Nat → Int64} (x : Int32) (hbad : sp_isP n x = 0) : Met l yL_lastHeirOf (wsH_ yL_lastHeirOf cL_lastHeirOf 4 (some .int) [(0, 9, 12, 24)]) ({ frames := 8, cells := 1, slots := 6, locals := 132 } : Room) (va_Pc [.ref (a 0), .int x, .ref o] (fun U => U.heap.size = sz ∧ va_P D vwCl (oW o cJ g (xW z a lv lk pu fa he n nv du ta w mp mi k nt fu re)) U.heap ∧ kK D z U ∧ kJ D cJ U ∧ va_D (fun _ => True) (oW o cJ g (xW z a lv lk pu fa he n nv du ta w mp mi k nt fu re)) ∧ tH nA U U.heap ∧ tN U)) (va_Qi (fun (r : Int32) (_ : Unit) => r = 1) (fun _ t9 => va_P D vwCl (oW o cJ g (xW z a lv lk pu fa he n nv du ta w mp mi k nt fu re)) t9.heap ∧ va_D (va_A (oW o cJ g (xW z a lv lk pu fa he n nv du ta w mp mi k nt fu re)) sz) (oW o cJ g (xW z a lv lk pu fa he n nv du ta w mp mi k nt fu re))) (va_A (oW o cJ g (xW z a lv lk pu fa he n nv du ta w mp mi k nt fu re)) sz)) 1 6 (va_A (oW o cJ g (xW z a lv lk pu fa he n nv du ta w mp mi k nt fu re)) sz) := by
  refine va_MetW (hh := [(0, 9, 12, 24)]) (cc := cL_lastHeirOf) (maxL := 4) (ret := (some .int)) (by decide) rfl ?_
  intro p e s m args below meth c s₁ B hml hv
  obtain ⟨rfl, hsz, hP, hK, hJ, hD0, hT, hN⟩ := hv
  have hx := B.exec
  have hb := B.bytes
  have hr := B.returns
  have hts0 := atoms_spec (ws := wsH_ yL_lastHeirOf cL_lastHeirOf 4 (some .int) [(0, 9, 12, 24)]) B.pre
  have hts : ∀ w ∈ lw_all, w.before _ s = true := fun w h => hts0 w (List.mem_cons_of_mem _ h)
  have hown : s.vm.findClass RL = some m.cls := findClass_of_methodNamed B.named
  have hlocks := B.notSynchronized
  have hC : CallFix p m c cL_lastHeirOf 4 s _ lw_all RL := ⟨hx, hb, hml, hown, hts⟩
  have htab := vx_table (x := yL_lastHeirOf) B (hts0 _ List.mem_cons_self)
  subst hsz
  have hD := hD0.self (sz := s.heap.size)
  generalize hAe : va_A (oW o cJ g (xW z a lv lk pu fa he n nv du ta w mp mi k nt fu re)) s.heap.size = A at hD ⊢
  have hA : ∀ q : Nat, s.heap.size ≤ q → A q := fun q h => by rw [← hAe]; exact Or.inr h
  have hS : va_S A s.heap s.heap [] := va_S.rf
  have hl := lv_entry ([.ref (a 0), .int x, .ref o]) (n := 4) (Nat.le_of_ble_eq_true rfl)
  rw [lg_entry_eq]
  generalize (lg_sl ([.ref (a 0), .int x, .ref o]) ++ List.replicate (4 - (lg_sl ([.ref (a 0), .int x, .ref o])).length) Slot.unset).toArray = ls at hl ⊢
  have hl : lv_has ls 4 [(0, .ref (a 0)), (1, .int x), (2, .ref o)] := hl
  refine lv_aload_n hx hb dL_lastHeirOf_0 rfl (lv_at hl 2 rfl) ?_
  refine lv_iconst (v := 0) hx hb dL_lastHeirOf_1 (by decide) ?_
  refine lv_aload_n hx hb dL_lastHeirOf_2 rfl (lv_at hl 0 rfl) ?_
  refine lv_iload_n hx hb dL_lastHeirOf_3 rfl (lv_at hl 1 rfl) ?_
  have hPX := wj_Pr hP
  refine vx_calli (vx_runV (As := [.int x]) (rest := [.int 0, .ref o]) hC (ct_X0_lastHeirOf_a l hst x hbad) (cwV 1 hC.2.2.2.2 (gi_V mM_L_57 mV_X0_lastHeirOf mS_X0_lastHeirOf mI_MissRegistry mC_X0_lastHeirOf) rfl rfl rfl (by decide +kernel) ⟨Nat.le_of_ble_eq_true rfl, Nat.le_of_ble_eq_true rfl⟩) ⟨fun a1 U g mk q8 => ⟨q8.1, ⟨q8.2.1.1, va_K.moved (u := U) (U := U.calling g mk a1) (Vm.Alike.refl U.vm) q8.2.1.2⟩, tH.same (u := U) (U := U.calling g mk a1) rfl q8.2.2⟩, va_recv hK hPX (ci := 0) (q0 := 0) rfl rfl, fun U hU hW => ⟨rfl, ⟨by rw [hU]; exact hPX, va_K.moved hW.alike hK⟩, by rw [hU]; exact hT.warm hW⟩⟩ rfl rfl hl.1 rfl (lv_room (Nat.le_of_ble_eq_true rfl)) dL_lastHeirOf_4 ⟨Nat.le_of_ble_eq_true rfl, Nat.le_of_ble_eq_true rfl⟩) hS (fun _ _ h => h.elim) (fun _ h => h.elim) (fun _ _ h => h.elim) (fun E9 ce q9 u t H1 locs ht hvm hp hB hz9 hk9 hS9 hce hcv hcl => ?_) (fun r9 u9 t H1 locs ht hvm hw9 hB hz9 hk9 hS9 => hw9.elim)
  have hB : E9 = "java/lang/IndexOutOfBoundsException" := hB
  subst hB
  have hP : va_P D vwCl (oW o cJ g (xW z a lv lk pu fa he n nv du ta w mp mi k nt fu re)) H1 := wj_kept hP hk9
  have hS := hS9
  refine vx_catch (name := "java/lang/IndexOutOfBoundsException") hown [] ⟨0, 9, 12, 24⟩ [] htab (fun z9 h9 => absurd h9 List.not_mem_nil) (by decide) (by decide) (hts _ mK_L_24) (va_Nw.use rfl hT.2.2.1.1.2.2) hce hcv hcl ?_
  refine W.widen (k := 1) (n := 6) (by omega) (by omega) ?_
  refine W.eq (g2 := F0 m 12 ls [.ref q9]) rfl ?_
  refine lv_astore_n (lv' := [(3, .ref q9), (0, .ref (a 0)), (1, .int x), (2, .ref o)]) hx hb dL_lastHeirOf_12 rfl hl (by decide) rfl (fun ls hl => ?_)
  refine lv_iconst (v := 1) hx hb dL_lastHeirOf_13 (by decide) ?_
  exact W.iret (v := 1) hx hb hr (fun t ht hW => ⟨⟨1, (), rfl, rfl, by rw [ht]; exact hP, hD⟩, hS.F ht⟩) hS.2.2 dL_lastHeirOf_14
set_option maxHeartbeats 4000000 in
set_option maxRecDepth 100000 in
theorem w_priceFor_a (l : Launch) (hst : l.stackTraces = false) (sz : Nat) {D : va_G} {z : ClassId × ClassId} {a : Nat → Nat} {lv lk pu fa he : Nat → Int32} {n : Nat} {nv du ta : Nat → Int32} {w : Nat} {mp mi : Nat → Int32} {k : Nat} {nt fu re : Int32} {o : Nat} {cJ : ClassId} {g : Nat → Int64} (x : Int32) (hbad : sp_isP n x = 0) : Met l yL_priceFor (wsH_ yL_priceFor cL_priceFor 4 (some .int) [(0, 9, 12, 24)]) ({ frames := 8, cells := 1, slots := 6, locals := 132 } : Room) (va_Pc [.ref (a 0), .int x, .ref o] (fun U => U.heap.size = sz ∧ va_P D vwCl (oW o cJ g (xW z a lv lk pu fa he n nv du ta w mp mi k nt fu re)) U.heap ∧ kK D z U ∧ kJ D cJ U ∧ va_D (fun _ => True) (oW o cJ g (xW z a lv lk pu fa he n nv du ta w mp mi k nt fu re)) ∧ tH nA U U.heap ∧ tN U)) (va_Qi (fun (r : Int32) (_ : Unit) => r = 1) (fun _ t9 => va_P D vwCl (oW o cJ g (xW z a lv lk pu fa he n nv du ta w mp mi k nt fu re)) t9.heap ∧ va_D (va_A (oW o cJ g (xW z a lv lk pu fa he n nv du ta w mp mi k nt fu re)) sz) (oW o cJ g (xW z a lv lk pu fa he n nv du ta w mp mi k nt fu re))) (va_A (oW o cJ g (xW z a lv lk pu fa he n nv du ta w mp mi k nt fu re)) sz)) 1 6 (va_A (oW o cJ g (xW z a lv lk pu fa he n nv du ta w mp mi k nt fu re)) sz) := by
  refine va_MetW (hh := [(0, 9, 12, 24)]) (cc := cL_priceFor) (maxL := 4) (ret := (some .int)) (by decide) rfl ?_
  intro p e s m args below meth c s₁ B hml hv
  obtain ⟨rfl, hsz, hP, hK, hJ, hD0, hT, hN⟩ := hv
  have hx := B.exec
  have hb := B.bytes
  have hr := B.returns
  have hts0 := atoms_spec (ws := wsH_ yL_priceFor cL_priceFor 4 (some .int) [(0, 9, 12, 24)]) B.pre
  have hts : ∀ w ∈ lw_all, w.before _ s = true := fun w h => hts0 w (List.mem_cons_of_mem _ h)
  have hown : s.vm.findClass RL = some m.cls := findClass_of_methodNamed B.named
  have hlocks := B.notSynchronized
  have hC : CallFix p m c cL_priceFor 4 s _ lw_all RL := ⟨hx, hb, hml, hown, hts⟩
  have htab := vx_table (x := yL_priceFor) B (hts0 _ List.mem_cons_self)
  subst hsz
  have hD := hD0.self (sz := s.heap.size)
  generalize hAe : va_A (oW o cJ g (xW z a lv lk pu fa he n nv du ta w mp mi k nt fu re)) s.heap.size = A at hD ⊢
  have hA : ∀ q : Nat, s.heap.size ≤ q → A q := fun q h => by rw [← hAe]; exact Or.inr h
  have hS : va_S A s.heap s.heap [] := va_S.rf
  have hl := lv_entry ([.ref (a 0), .int x, .ref o]) (n := 4) (Nat.le_of_ble_eq_true rfl)
  rw [lg_entry_eq]
  generalize (lg_sl ([.ref (a 0), .int x, .ref o]) ++ List.replicate (4 - (lg_sl ([.ref (a 0), .int x, .ref o])).length) Slot.unset).toArray = ls at hl ⊢
  have hl : lv_has ls 4 [(0, .ref (a 0)), (1, .int x), (2, .ref o)] := hl
  refine lv_aload_n hx hb dL_priceFor_0 rfl (lv_at hl 2 rfl) ?_
  refine lv_iconst (v := 0) hx hb dL_priceFor_1 (by decide) ?_
  refine lv_aload_n hx hb dL_priceFor_2 rfl (lv_at hl 0 rfl) ?_
  refine lv_iload_n hx hb dL_priceFor_3 rfl (lv_at hl 1 rfl) ?_
  have hPX := wj_Pr hP
  refine vx_calli (vx_runV (As := [.int x]) (rest := [.int 0, .ref o]) hC (ct_X0_priceFor_a l hst x hbad) (cwV 1 hC.2.2.2.2 (gi_V mM_L_60 mV_X0_priceFor mS_X0_priceFor mI_MissRegistry mC_X0_priceFor) rfl rfl rfl (by decide +kernel) ⟨Nat.le_of_ble_eq_true rfl, Nat.le_of_ble_eq_true rfl⟩) ⟨fun a1 U g mk q8 => ⟨q8.1, ⟨q8.2.1.1, va_K.moved (u := U) (U := U.calling g mk a1) (Vm.Alike.refl U.vm) q8.2.1.2⟩, tH.same (u := U) (U := U.calling g mk a1) rfl q8.2.2⟩, va_recv hK hPX (ci := 0) (q0 := 0) rfl rfl, fun U hU hW => ⟨rfl, ⟨by rw [hU]; exact hPX, va_K.moved hW.alike hK⟩, by rw [hU]; exact hT.warm hW⟩⟩ rfl rfl hl.1 rfl (lv_room (Nat.le_of_ble_eq_true rfl)) dL_priceFor_4 ⟨Nat.le_of_ble_eq_true rfl, Nat.le_of_ble_eq_true rfl⟩) hS (fun _ _ h => h.elim) (fun _ h => h.elim) (fun _ _ h => h.elim) (fun E9 ce q9 u t H1 locs ht hvm hp hB hz9 hk9 hS9 hce hcv hcl => ?_) (fun r9 u9 t H1 locs ht hvm hw9 hB hz9 hk9 hS9 => hw9.elim)
  have hB : E9 = "java/lang/IndexOutOfBoundsException" := hB
  subst hB
  have hP : va_P D vwCl (oW o cJ g (xW z a lv lk pu fa he n nv du ta w mp mi k nt fu re)) H1 := wj_kept hP hk9
  have hS := hS9
  refine vx_catch (name := "java/lang/IndexOutOfBoundsException") hown [] ⟨0, 9, 12, 24⟩ [] htab (fun z9 h9 => absurd h9 List.not_mem_nil) (by decide) (by decide) (hts _ mK_L_24) (va_Nw.use rfl hT.2.2.1.1.2.2) hce hcv hcl ?_
  refine W.widen (k := 1) (n := 6) (by omega) (by omega) ?_
  refine W.eq (g2 := F0 m 12 ls [.ref q9]) rfl ?_
  refine lv_astore_n (lv' := [(3, .ref q9), (0, .ref (a 0)), (1, .int x), (2, .ref o)]) hx hb dL_priceFor_12 rfl hl (by decide) rfl (fun ls hl => ?_)
  refine lv_iconst (v := 1) hx hb dL_priceFor_13 (by decide) ?_
  exact W.iret (v := 1) hx hb hr (fun t ht hW => ⟨⟨1, (), rfl, rfl, by rw [ht]; exact hP, hD⟩, hS.F ht⟩) hS.2.2 dL_priceFor_14
set_option maxHeartbeats 4000000 in
set_option maxRecDepth 100000 in
theorem w_missesOf_a (l : Launch) (hst : l.stackTraces = false) (sz : Nat) {D : va_G} {z : ClassId × ClassId} {a : Nat → Nat} {lv lk pu fa he : Nat → Int32} {n : Nat} {nv du ta : Nat → Int32} {w : Nat} {mp mi : Nat → Int32} {k : Nat} {nt fu re : Int32} {o : Nat} {cJ : ClassId} {g : Nat → Int64} (x : Int32) (hbad : sp_isP n x = 0) : Met l yL_missesOf (wsH_ yL_missesOf cL_missesOf 4 (some .int) [(0, 9, 12, 24)]) ({ frames := 8, cells := 1, slots := 6, locals := 134 } : Room) (va_Pc [.ref (a 0), .int x, .ref o] (fun U => U.heap.size = sz ∧ va_P D vwCl (oW o cJ g (xW z a lv lk pu fa he n nv du ta w mp mi k nt fu re)) U.heap ∧ kK D z U ∧ kJ D cJ U ∧ va_D (fun _ => True) (oW o cJ g (xW z a lv lk pu fa he n nv du ta w mp mi k nt fu re)) ∧ tH nA U U.heap ∧ tN U)) (va_Qi (fun (r : Int32) (_ : Unit) => r = 1) (fun _ t9 => va_P D vwCl (oW o cJ g (xW z a lv lk pu fa he n nv du ta w mp mi k nt fu re)) t9.heap ∧ va_D (va_A (oW o cJ g (xW z a lv lk pu fa he n nv du ta w mp mi k nt fu re)) sz) (oW o cJ g (xW z a lv lk pu fa he n nv du ta w mp mi k nt fu re))) (va_A (oW o cJ g (xW z a lv lk pu fa he n nv du ta w mp mi k nt fu re)) sz)) 1 6 (va_A (oW o cJ g (xW z a lv lk pu fa he n nv du ta w mp mi k nt fu re)) sz) := by
  refine va_MetW (hh := [(0, 9, 12, 24)]) (cc := cL_missesOf) (maxL := 4) (ret := (some .int)) (by decide) rfl ?_
  intro p e s m args below meth c s₁ B hml hv
  obtain ⟨rfl, hsz, hP, hK, hJ, hD0, hT, hN⟩ := hv
  have hx := B.exec
  have hb := B.bytes
  have hr := B.returns
  have hts0 := atoms_spec (ws := wsH_ yL_missesOf cL_missesOf 4 (some .int) [(0, 9, 12, 24)]) B.pre
  have hts : ∀ w ∈ lw_all, w.before _ s = true := fun w h => hts0 w (List.mem_cons_of_mem _ h)
  have hown : s.vm.findClass RL = some m.cls := findClass_of_methodNamed B.named
  have hlocks := B.notSynchronized
  have hC : CallFix p m c cL_missesOf 4 s _ lw_all RL := ⟨hx, hb, hml, hown, hts⟩
  have htab := vx_table (x := yL_missesOf) B (hts0 _ List.mem_cons_self)
  subst hsz
  have hD := hD0.self (sz := s.heap.size)
  generalize hAe : va_A (oW o cJ g (xW z a lv lk pu fa he n nv du ta w mp mi k nt fu re)) s.heap.size = A at hD ⊢
  have hA : ∀ q : Nat, s.heap.size ≤ q → A q := fun q h => by rw [← hAe]; exact Or.inr h
  have hS : va_S A s.heap s.heap [] := va_S.rf
  have hl := lv_entry ([.ref (a 0), .int x, .ref o]) (n := 4) (Nat.le_of_ble_eq_true rfl)
  rw [lg_entry_eq]
  generalize (lg_sl ([.ref (a 0), .int x, .ref o]) ++ List.replicate (4 - (lg_sl ([.ref (a 0), .int x, .ref o])).length) Slot.unset).toArray = ls at hl ⊢
  have hl : lv_has ls 4 [(0, .ref (a 0)), (1, .int x), (2, .ref o)] := hl
  refine lv_aload_n hx hb dL_missesOf_0 rfl (lv_at hl 2 rfl) ?_
  refine lv_iconst (v := 0) hx hb dL_missesOf_1 (by decide) ?_
  refine lv_aload_n hx hb dL_missesOf_2 rfl (lv_at hl 0 rfl) ?_
  refine lv_iload_n hx hb dL_missesOf_3 rfl (lv_at hl 1 rfl) ?_
  have hPX := wj_Pr hP
  refine vx_calli (vx_runV (As := [.int x]) (rest := [.int 0, .ref o]) hC (ct_X0_missesOf_a l hst x hbad) (cwV 1 hC.2.2.2.2 (gi_V mM_L_63 mV_X0_missesOf mS_X0_missesOf mI_MissRegistry mC_X0_missesOf) rfl rfl rfl (by decide +kernel) ⟨Nat.le_of_ble_eq_true rfl, Nat.le_of_ble_eq_true rfl⟩) ⟨fun a1 U g mk q8 => ⟨q8.1, ⟨q8.2.1.1, va_K.moved (u := U) (U := U.calling g mk a1) (Vm.Alike.refl U.vm) q8.2.1.2⟩, tH.same (u := U) (U := U.calling g mk a1) rfl q8.2.2⟩, va_recv hK hPX (ci := 0) (q0 := 0) rfl rfl, fun U hU hW => ⟨rfl, ⟨by rw [hU]; exact hPX, va_K.moved hW.alike hK⟩, by rw [hU]; exact hT.warm hW⟩⟩ rfl rfl hl.1 rfl (lv_room (Nat.le_of_ble_eq_true rfl)) dL_missesOf_4 ⟨Nat.le_of_ble_eq_true rfl, Nat.le_of_ble_eq_true rfl⟩) hS (fun _ _ h => h.elim) (fun _ h => h.elim) (fun _ _ h => h.elim) (fun E9 ce q9 u t H1 locs ht hvm hp hB hz9 hk9 hS9 hce hcv hcl => ?_) (fun r9 u9 t H1 locs ht hvm hw9 hB hz9 hk9 hS9 => hw9.elim)
  have hB : E9 = "java/lang/IndexOutOfBoundsException" := hB
  subst hB
  have hP : va_P D vwCl (oW o cJ g (xW z a lv lk pu fa he n nv du ta w mp mi k nt fu re)) H1 := wj_kept hP hk9
  have hS := hS9
  refine vx_catch (name := "java/lang/IndexOutOfBoundsException") hown [] ⟨0, 9, 12, 24⟩ [] htab (fun z9 h9 => absurd h9 List.not_mem_nil) (by decide) (by decide) (hts _ mK_L_24) (va_Nw.use rfl hT.2.2.1.1.2.2) hce hcv hcl ?_
  refine W.widen (k := 1) (n := 6) (by omega) (by omega) ?_
  refine W.eq (g2 := F0 m 12 ls [.ref q9]) rfl ?_
  refine lv_astore_n (lv' := [(3, .ref q9), (0, .ref (a 0)), (1, .int x), (2, .ref o)]) hx hb dL_missesOf_12 rfl hl (by decide) rfl (fun ls hl => ?_)
  refine lv_iconst (v := 1) hx hb dL_missesOf_13 (by decide) ?_
  exact W.iret (v := 1) hx hb hr (fun t ht hW => ⟨⟨1, (), rfl, rfl, by rw [ht]; exact hP, hD⟩, hS.F ht⟩) hS.2.2 dL_missesOf_14
set_option maxHeartbeats 4000000 in
set_option maxRecDepth 100000 in
theorem w_closestOf_a (l : Launch) (hst : l.stackTraces = false) (sz : Nat) {D : va_G} {z : ClassId × ClassId} {a : Nat → Nat} {lv lk pu fa he : Nat → Int32} {n : Nat} {nv du ta : Nat → Int32} {w : Nat} {mp mi : Nat → Int32} {k : Nat} {nt fu re : Int32} {o : Nat} {cJ : ClassId} {g : Nat → Int64} (x : Int32) (hbad : sp_isP n x = 0) : Met l yL_closestOf (wsH_ yL_closestOf cL_closestOf 4 (some .int) [(0, 9, 12, 24)]) ({ frames := 8, cells := 1, slots := 6, locals := 135 } : Room) (va_Pc [.ref (a 0), .int x, .ref o] (fun U => U.heap.size = sz ∧ va_P D vwCl (oW o cJ g (xW z a lv lk pu fa he n nv du ta w mp mi k nt fu re)) U.heap ∧ kK D z U ∧ kJ D cJ U ∧ va_D (fun _ => True) (oW o cJ g (xW z a lv lk pu fa he n nv du ta w mp mi k nt fu re)) ∧ tH nA U U.heap ∧ tN U)) (va_Qi (fun (r : Int32) (_ : Unit) => r = 1) (fun _ t9 => va_P D vwCl (oW o cJ g (xW z a lv lk pu fa he n nv du ta w mp mi k nt fu re)) t9.heap ∧ va_D (va_A (oW o cJ g (xW z a lv lk pu fa he n nv du ta w mp mi k nt fu re)) sz) (oW o cJ g (xW z a lv lk pu fa he n nv du ta w mp mi k nt fu re))) (va_A (oW o cJ g (xW z a lv lk pu fa he n nv du ta w mp mi k nt fu re)) sz)) 1 6 (va_A (oW o cJ g (xW z a lv lk pu fa he n nv du ta w mp mi k nt fu re)) sz) := by
  refine va_MetW (hh := [(0, 9, 12, 24)]) (cc := cL_closestOf) (maxL := 4) (ret := (some .int)) (by decide) rfl ?_
  intro p e s m args below meth c s₁ B hml hv
  obtain ⟨rfl, hsz, hP, hK, hJ, hD0, hT, hN⟩ := hv
  have hx := B.exec
  have hb := B.bytes
  have hr := B.returns
  have hts0 := atoms_spec (ws := wsH_ yL_closestOf cL_closestOf 4 (some .int) [(0, 9, 12, 24)]) B.pre
  have hts : ∀ w ∈ lw_all, w.before _ s = true := fun w h => hts0 w (List.mem_cons_of_mem _ h)
  have hown : s.vm.findClass RL = some m.cls := findClass_of_methodNamed B.named
  have hlocks := B.notSynchronized
  have hC : CallFix p m c cL_closestOf 4 s _ lw_all RL := ⟨hx, hb, hml, hown, hts⟩
  have htab := vx_table (x := yL_closestOf) B (hts0 _ List.mem_cons_self)
  subst hsz
  have hD := hD0.self (sz := s.heap.size)
  generalize hAe : va_A (oW o cJ g (xW z a lv lk pu fa he n nv du ta w mp mi k nt fu re)) s.heap.size = A at hD ⊢
  have hA : ∀ q : Nat, s.heap.size ≤ q → A q := fun q h => by rw [← hAe]; exact Or.inr h
  have hS : va_S A s.heap s.heap [] := va_S.rf
  have hl := lv_entry ([.ref (a 0), .int x, .ref o]) (n := 4) (Nat.le_of_ble_eq_true rfl)
  rw [lg_entry_eq]
  generalize (lg_sl ([.ref (a 0), .int x, .ref o]) ++ List.replicate (4 - (lg_sl ([.ref (a 0), .int x, .ref o])).length) Slot.unset).toArray = ls at hl ⊢
  have hl : lv_has ls 4 [(0, .ref (a 0)), (1, .int x), (2, .ref o)] := hl
  refine lv_aload_n hx hb dL_closestOf_0 rfl (lv_at hl 2 rfl) ?_
  refine lv_iconst (v := 0) hx hb dL_closestOf_1 (by decide) ?_
  refine lv_aload_n hx hb dL_closestOf_2 rfl (lv_at hl 0 rfl) ?_
  refine lv_iload_n hx hb dL_closestOf_3 rfl (lv_at hl 1 rfl) ?_
  have hPX := wj_Pr hP
  refine vx_calli (vx_runV (As := [.int x]) (rest := [.int 0, .ref o]) hC (ct_X0_closestOf_a l hst x hbad) (cwV 1 hC.2.2.2.2 (gi_V mM_L_66 mV_X0_closestOf mS_X0_closestOf mI_MissRegistry mC_X0_closestOf) rfl rfl rfl (by decide +kernel) ⟨Nat.le_of_ble_eq_true rfl, Nat.le_of_ble_eq_true rfl⟩) ⟨fun a1 U g mk q8 => ⟨q8.1, ⟨q8.2.1.1, va_K.moved (u := U) (U := U.calling g mk a1) (Vm.Alike.refl U.vm) q8.2.1.2⟩, tH.same (u := U) (U := U.calling g mk a1) rfl q8.2.2⟩, va_recv hK hPX (ci := 0) (q0 := 0) rfl rfl, fun U hU hW => ⟨rfl, ⟨by rw [hU]; exact hPX, va_K.moved hW.alike hK⟩, by rw [hU]; exact hT.warm hW⟩⟩ rfl rfl hl.1 rfl (lv_room (Nat.le_of_ble_eq_true rfl)) dL_closestOf_4 ⟨Nat.le_of_ble_eq_true rfl, Nat.le_of_ble_eq_true rfl⟩) hS (fun _ _ h => h.elim) (fun _ h => h.elim) (fun _ _ h => h.elim) (fun E9 ce q9 u t H1 locs ht hvm hp hB hz9 hk9 hS9 hce hcv hcl => ?_) (fun r9 u9 t H1 locs ht hvm hw9 hB hz9 hk9 hS9 => hw9.elim)
  have hB : E9 = "java/lang/IndexOutOfBoundsException" := hB
  subst hB
  have hP : va_P D vwCl (oW o cJ g (xW z a lv lk pu fa he n nv du ta w mp mi k nt fu re)) H1 := wj_kept hP hk9
  have hS := hS9
  refine vx_catch (name := "java/lang/IndexOutOfBoundsException") hown [] ⟨0, 9, 12, 24⟩ [] htab (fun z9 h9 => absurd h9 List.not_mem_nil) (by decide) (by decide) (hts _ mK_L_24) (va_Nw.use rfl hT.2.2.1.1.2.2) hce hcv hcl ?_
  refine W.widen (k := 1) (n := 6) (by omega) (by omega) ?_
  refine W.eq (g2 := F0 m 12 ls [.ref q9]) rfl ?_
  refine lv_astore_n (lv' := [(3, .ref q9), (0, .ref (a 0)), (1, .int x), (2, .ref o)]) hx hb dL_closestOf_12 rfl hl (by decide) rfl (fun ls hl => ?_)
  refine lv_iconst (v := 1) hx hb dL_closestOf_13 (by decide) ?_
  exact W.iret (v := 1) hx hb hr (fun t ht hW => ⟨⟨1, (), rfl, rfl, by rw [ht]; exact hP, hD⟩, hS.F ht⟩) hS.2.2 dL_closestOf_14
set_option maxHeartbeats 4000000 in
set_option maxRecDepth 100000 in
theorem w_nerveOf_a (l : Launch) (hst : l.stackTraces = false) (sz : Nat) {D : va_G} {z : ClassId × ClassId} {a : Nat → Nat} {lv lk pu fa he : Nat → Int32} {n : Nat} {nv du ta : Nat → Int32} {w : Nat} {mp mi : Nat → Int32} {k : Nat} {nt fu re : Int32} {o : Nat} {cJ : ClassId} {g : Nat → Int64} (x : Int32) (hbad : sp_isP w x = 0) : Met l yL_nerveOf (wsH_ yL_nerveOf cL_nerveOf 4 (some .int) [(0, 9, 12, 24)]) ({ frames := 8, cells := 1, slots := 6, locals := 132 } : Room) (va_Pc [.ref (a 0), .int x, .ref o] (fun U => U.heap.size = sz ∧ va_P D vwCl (oW o cJ g (xW z a lv lk pu fa he n nv du ta w mp mi k nt fu re)) U.heap ∧ kK D z U ∧ kJ D cJ U ∧ va_D (fun _ => True) (oW o cJ g (xW z a lv lk pu fa he n nv du ta w mp mi k nt fu re)) ∧ tH nA U U.heap ∧ tN U)) (va_Qi (fun (r : Int32) (_ : Unit) => r = 1) (fun _ t9 => va_P D vwCl (oW o cJ g (xW z a lv lk pu fa he n nv du ta w mp mi k nt fu re)) t9.heap ∧ va_D (va_A (oW o cJ g (xW z a lv lk pu fa he n nv du ta w mp mi k nt fu re)) sz) (oW o cJ g (xW z a lv lk pu fa he n nv du ta w mp mi k nt fu re))) (va_A (oW o cJ g (xW z a lv lk pu fa he n nv du ta w mp mi k nt fu re)) sz)) 1 6 (va_A (oW o cJ g (xW z a lv lk pu fa he n nv du ta w mp mi k nt fu re)) sz) := by
  refine va_MetW (hh := [(0, 9, 12, 24)]) (cc := cL_nerveOf) (maxL := 4) (ret := (some .int)) (by decide) rfl ?_
  intro p e s m args below meth c s₁ B hml hv
  obtain ⟨rfl, hsz, hP, hK, hJ, hD0, hT, hN⟩ := hv
  have hx := B.exec
  have hb := B.bytes
  have hr := B.returns
  have hts0 := atoms_spec (ws := wsH_ yL_nerveOf cL_nerveOf 4 (some .int) [(0, 9, 12, 24)]) B.pre
  have hts : ∀ w ∈ lw_all, w.before _ s = true := fun w h => hts0 w (List.mem_cons_of_mem _ h)
  have hown : s.vm.findClass RL = some m.cls := findClass_of_methodNamed B.named
  have hlocks := B.notSynchronized
  have hC : CallFix p m c cL_nerveOf 4 s _ lw_all RL := ⟨hx, hb, hml, hown, hts⟩
  have htab := vx_table (x := yL_nerveOf) B (hts0 _ List.mem_cons_self)
  subst hsz
  have hD := hD0.self (sz := s.heap.size)
  generalize hAe : va_A (oW o cJ g (xW z a lv lk pu fa he n nv du ta w mp mi k nt fu re)) s.heap.size = A at hD ⊢
  have hA : ∀ q : Nat, s.heap.size ≤ q → A q := fun q h => by rw [← hAe]; exact Or.inr h
  have hS : va_S A s.heap s.heap [] := va_S.rf
  have hl := lv_entry ([.ref (a 0), .int x, .ref o]) (n := 4) (Nat.le_of_ble_eq_true rfl)
  rw [lg_entry_eq]
  generalize (lg_sl ([.ref (a 0), .int x, .ref o]) ++ List.replicate (4 - (lg_sl ([.ref (a 0), .int x, .ref o])).length) Slot.unset).toArray = ls at hl ⊢
  have hl : lv_has ls 4 [(0, .ref (a 0)), (1, .int x), (2, .ref o)] := hl
  refine lv_aload_n hx hb dL_nerveOf_0 rfl (lv_at hl 2 rfl) ?_
  refine lv_iconst (v := 0) hx hb dL_nerveOf_1 (by decide) ?_
  refine lv_aload_n hx hb dL_nerveOf_2 rfl (lv_at hl 0 rfl) ?_
  refine lv_iload_n hx hb dL_nerveOf_3 rfl (lv_at hl 1 rfl) ?_
  have hPX := wj_Pr hP
  refine vx_calli (vx_runV (As := [.int x]) (rest := [.int 0, .ref o]) hC (ct_X0_nerveOf_a l hst x hbad) (cwV 1 hC.2.2.2.2 (gi_V mM_L_69 mV_X0_nerveOf mS_X0_nerveOf mI_MissRegistry mC_X0_nerveOf) rfl rfl rfl (by decide +kernel) ⟨Nat.le_of_ble_eq_true rfl, Nat.le_of_ble_eq_true rfl⟩) ⟨fun a1 U g mk q8 => ⟨q8.1, ⟨q8.2.1.1, va_K.moved (u := U) (U := U.calling g mk a1) (Vm.Alike.refl U.vm) q8.2.1.2⟩, tH.same (u := U) (U := U.calling g mk a1) rfl q8.2.2⟩, va_recv hK hPX (ci := 0) (q0 := 0) rfl rfl, fun U hU hW => ⟨rfl, ⟨by rw [hU]; exact hPX, va_K.moved hW.alike hK⟩, by rw [hU]; exact hT.warm hW⟩⟩ rfl rfl hl.1 rfl (lv_room (Nat.le_of_ble_eq_true rfl)) dL_nerveOf_4 ⟨Nat.le_of_ble_eq_true rfl, Nat.le_of_ble_eq_true rfl⟩) hS (fun _ _ h => h.elim) (fun _ h => h.elim) (fun _ _ h => h.elim) (fun E9 ce q9 u t H1 locs ht hvm hp hB hz9 hk9 hS9 hce hcv hcl => ?_) (fun r9 u9 t H1 locs ht hvm hw9 hB hz9 hk9 hS9 => hw9.elim)
  have hB : E9 = "java/lang/IndexOutOfBoundsException" := hB
  subst hB
  have hP : va_P D vwCl (oW o cJ g (xW z a lv lk pu fa he n nv du ta w mp mi k nt fu re)) H1 := wj_kept hP hk9
  have hS := hS9
  refine vx_catch (name := "java/lang/IndexOutOfBoundsException") hown [] ⟨0, 9, 12, 24⟩ [] htab (fun z9 h9 => absurd h9 List.not_mem_nil) (by decide) (by decide) (hts _ mK_L_24) (va_Nw.use rfl hT.2.2.1.1.2.2) hce hcv hcl ?_
  refine W.widen (k := 1) (n := 6) (by omega) (by omega) ?_
  refine W.eq (g2 := F0 m 12 ls [.ref q9]) rfl ?_
  refine lv_astore_n (lv' := [(3, .ref q9), (0, .ref (a 0)), (1, .int x), (2, .ref o)]) hx hb dL_nerveOf_12 rfl hl (by decide) rfl (fun ls hl => ?_)
  refine lv_iconst (v := 1) hx hb dL_nerveOf_13 (by decide) ?_
  exact W.iret (v := 1) hx hb hr (fun t ht hW => ⟨⟨1, (), rfl, rfl, by rw [ht]; exact hP, hD⟩, hS.F ht⟩) hS.2.2 dL_nerveOf_14
set_option maxHeartbeats 4000000 in
set_option maxRecDepth 100000 in
theorem w_isOnDuty_a (l : Launch) (hst : l.stackTraces = false) (sz : Nat) {D : va_G} {z : ClassId × ClassId} {a : Nat → Nat} {lv lk pu fa he : Nat → Int32} {n : Nat} {nv du ta : Nat → Int32} {w : Nat} {mp mi : Nat → Int32} {k : Nat} {nt fu re : Int32} {o : Nat} {cJ : ClassId} {g : Nat → Int64} (x : Int32) (hbad : sp_isP w x = 0) : Met l yL_isOnDuty (wsH_ yL_isOnDuty cL_isOnDuty 4 (some .int) [(0, 16, 19, 24)]) ({ frames := 8, cells := 1, slots := 6, locals := 132 } : Room) (va_Pc [.ref (a 0), .int x, .ref o] (fun U => U.heap.size = sz ∧ va_P D vwCl (oW o cJ g (xW z a lv lk pu fa he n nv du ta w mp mi k nt fu re)) U.heap ∧ kK D z U ∧ kJ D cJ U ∧ va_D (fun _ => True) (oW o cJ g (xW z a lv lk pu fa he n nv du ta w mp mi k nt fu re)) ∧ tH nA U U.heap ∧ tN U)) (va_Qi (fun (r : Int32) (_ : Unit) => r = 1) (fun _ t9 => va_P D vwCl (oW o cJ g (xW z a lv lk pu fa he n nv du ta w mp mi k nt fu re)) t9.heap ∧ va_D (va_A (oW o cJ g (xW z a lv lk pu fa he n nv du ta w mp mi k nt fu re)) sz) (oW o cJ g (xW z a lv lk pu fa he n nv du ta w mp mi k nt fu re))) (va_A (oW o cJ g (xW z a lv lk pu fa he n nv du ta w mp mi k nt fu re)) sz)) 1 6 (va_A (oW o cJ g (xW z a lv lk pu fa he n nv du ta w mp mi k nt fu re)) sz) := by
  refine va_MetW (hh := [(0, 16, 19, 24)]) (cc := cL_isOnDuty) (maxL := 4) (ret := (some .int)) (by decide) rfl ?_
  intro p e s m args below meth c s₁ B hml hv
  obtain ⟨rfl, hsz, hP, hK, hJ, hD0, hT, hN⟩ := hv
  have hx := B.exec
  have hb := B.bytes
  have hr := B.returns
  have hts0 := atoms_spec (ws := wsH_ yL_isOnDuty cL_isOnDuty 4 (some .int) [(0, 16, 19, 24)]) B.pre
  have hts : ∀ w ∈ lw_all, w.before _ s = true := fun w h => hts0 w (List.mem_cons_of_mem _ h)
  have hown : s.vm.findClass RL = some m.cls := findClass_of_methodNamed B.named
  have hlocks := B.notSynchronized
  have hC : CallFix p m c cL_isOnDuty 4 s _ lw_all RL := ⟨hx, hb, hml, hown, hts⟩
  have htab := vx_table (x := yL_isOnDuty) B (hts0 _ List.mem_cons_self)
  subst hsz
  have hD := hD0.self (sz := s.heap.size)
  generalize hAe : va_A (oW o cJ g (xW z a lv lk pu fa he n nv du ta w mp mi k nt fu re)) s.heap.size = A at hD ⊢
  have hA : ∀ q : Nat, s.heap.size ≤ q → A q := fun q h => by rw [← hAe]; exact Or.inr h
  have hS : va_S A s.heap s.heap [] := va_S.rf
  have hl := lv_entry ([.ref (a 0), .int x, .ref o]) (n := 4) (Nat.le_of_ble_eq_true rfl)
  rw [lg_entry_eq]
  generalize (lg_sl ([.ref (a 0), .int x, .ref o]) ++ List.replicate (4 - (lg_sl ([.ref (a 0), .int x, .ref o])).length) Slot.unset).toArray = ls at hl ⊢
  have hl : lv_has ls 4 [(0, .ref (a 0)), (1, .int x), (2, .ref o)] := hl
  refine lv_aload_n hx hb dL_isOnDuty_0 rfl (lv_at hl 2 rfl) ?_
  refine lv_iconst (v := 0) hx hb dL_isOnDuty_1 (by decide) ?_
  refine lv_aload_n hx hb dL_isOnDuty_2 rfl (lv_at hl 0 rfl) ?_
  refine lv_iload_n hx hb dL_isOnDuty_3 rfl (lv_at hl 1 rfl) ?_
  have hPX := wj_Pr hP
  refine vx_calli (vx_runV (As := [.int x]) (rest := [.int 0, .ref o]) hC (ct_X0_isOnDuty_a l hst x hbad) (cwV 1 hC.2.2.2.2 (gi_V mM_L_72 mV_X0_isOnDuty mS_X0_isOnDuty mI_MissRegistry mC_X0_isOnDuty) rfl rfl rfl (by decide +kernel) ⟨Nat.le_of_ble_eq_true rfl, Nat.le_of_ble_eq_true rfl⟩) ⟨fun a1 U g mk q8 => ⟨q8.1, ⟨q8.2.1.1, va_K.moved (u := U) (U := U.calling g mk a1) (Vm.Alike.refl U.vm) q8.2.1.2⟩, tH.same (u := U) (U := U.calling g mk a1) rfl q8.2.2⟩, va_recv hK hPX (ci := 0) (q0 := 0) rfl rfl, fun U hU hW => ⟨rfl, ⟨by rw [hU]; exact hPX, va_K.moved hW.alike hK⟩, by rw [hU]; exact hT.warm hW⟩⟩ rfl rfl hl.1 rfl (lv_room (Nat.le_of_ble_eq_true rfl)) dL_isOnDuty_4 ⟨Nat.le_of_ble_eq_true rfl, Nat.le_of_ble_eq_true rfl⟩) hS (fun _ _ h => h.elim) (fun _ h => h.elim) (fun _ _ h => h.elim) (fun E9 ce q9 u t H1 locs ht hvm hp hB hz9 hk9 hS9 hce hcv hcl => ?_) (fun r9 u9 t H1 locs ht hvm hw9 hB hz9 hk9 hS9 => hw9.elim)
  have hB : E9 = "java/lang/IndexOutOfBoundsException" := hB
  subst hB
  have hP : va_P D vwCl (oW o cJ g (xW z a lv lk pu fa he n nv du ta w mp mi k nt fu re)) H1 := wj_kept hP hk9
  have hS := hS9
  refine vx_catch (name := "java/lang/IndexOutOfBoundsException") hown [] ⟨0, 16, 19, 24⟩ [] htab (fun z9 h9 => absurd h9 List.not_mem_nil) (by decide) (by decide) (hts _ mK_L_24) (va_Nw.use rfl hT.2.2.1.1.2.2) hce hcv hcl ?_
  refine W.widen (k := 1) (n := 6) (by omega) (by omega) ?_
  refine W.eq (g2 := F0 m 19 ls [.ref q9]) rfl ?_
  refine lv_astore_n (lv' := [(3, .ref q9), (0, .ref (a 0)), (1, .int x), (2, .ref o)]) hx hb dL_isOnDuty_19 rfl hl (by decide) rfl (fun ls hl => ?_)
  refine lv_iconst (v := 1) hx hb dL_isOnDuty_20 (by decide) ?_
  exact W.iret (v := 1) hx hb hr (fun t ht hW => ⟨⟨1, (), rfl, rfl, by rw [ht]; exact hP, hD⟩, hS.F ht⟩) hS.2.2 dL_isOnDuty_21
set_option maxHeartbeats 4000000 in
set_option maxRecDepth 100000 in
theorem w_wouldTell_a (l : Launch) (hst : l.stackTraces = false) (sz : Nat) {D : va_G} {z : ClassId × ClassId} {a : Nat → Nat} {lv lk pu fa he : Nat → Int32} {n : Nat} {nv du ta : Nat → Int32} {w : Nat} {mp mi : Nat → Int32} {k : Nat} {nt fu re : Int32} {o : Nat} {cJ : ClassId} {g : Nat → Int64} (x y : Int32) (hbad : sp_isP w x = 0) : Met l yL_wouldTell (wsH_ yL_wouldTell cL_wouldTell 5 (some .int) [(0, 10, 13, 24), (0, 10, 17, 13)]) ({ frames := 8, cells := 1, slots := 6, locals := 133 } : Room) (va_Pc [.ref (a 0), .int x, .int y, .ref o] (fun U => U.heap.size = sz ∧ va_P D vwCl (oW o cJ g (xW z a lv lk pu fa he n nv du ta w mp mi k nt fu re)) U.heap ∧ kK D z U ∧ kJ D cJ U ∧ va_D (fun _ => True) (oW o cJ g (xW z a lv lk pu fa he n nv du ta w mp mi k nt fu re)) ∧ tH nA U U.heap ∧ tN U)) (va_Qi (fun (r : Int32) (_ : Unit) => r = 1) (fun _ t9 => va_P D vwCl (oW o cJ g (xW z a lv lk pu fa he n nv du ta w mp mi k nt fu re)) t9.heap ∧ va_D (va_A (oW o cJ g (xW z a lv lk pu fa he n nv du ta w mp mi k nt fu re)) sz) (oW o cJ g (xW z a lv lk pu fa he n nv du ta w mp mi k nt fu re))) (va_A (oW o cJ g (xW z a lv lk pu fa he n nv du ta w mp mi k nt fu re)) sz)) 1 6 (va_A (oW o cJ g (xW z a lv lk pu fa he n nv du ta w mp mi k nt fu re)) sz) := by
  refine va_MetW (hh := [(0, 10, 13, 24), (0, 10, 17, 13)]) (cc := cL_wouldTell) (maxL := 5) (ret := (some .int)) (by decide) rfl ?_
  intro p e s m args below meth c s₁ B hml hv
  obtain ⟨rfl, hsz, hP, hK, hJ, hD0, hT, hN⟩ := hv
  have hx := B.exec
  have hb := B.bytes
  have hr := B.returns
  have hts0 := atoms_spec (ws := wsH_ yL_wouldTell cL_wouldTell 5 (some .int) [(0, 10, 13, 24), (0, 10, 17, 13)]) B.pre
  have hts : ∀ w ∈ lw_all, w.before _ s = true := fun w h => hts0 w (List.mem_cons_of_mem _ h)
  have hown : s.vm.findClass RL = some m.cls := findClass_of_methodNamed B.named
  have hlocks := B.notSynchronized
  have hC : CallFix p m c cL_wouldTell 5 s _ lw_all RL := ⟨hx, hb, hml, hown, hts⟩
  have htab := vx_table (x := yL_wouldTell) B (hts0 _ List.mem_cons_self)
  subst hsz
  have hD := hD0.self (sz := s.heap.size)
  generalize hAe : va_A (oW o cJ g (xW z a lv lk pu fa he n nv du ta w mp mi k nt fu re)) s.heap.size = A at hD ⊢
  have hA : ∀ q : Nat, s.heap.size ≤ q → A q := fun q h => by rw [← hAe]; exact Or.inr h
  have hS : va_S A s.heap s.heap [] := va_S.rf
  have hl := lv_entry ([.ref (a 0), .int x, .int y, .ref o]) (n := 5) (Nat.le_of_ble_eq_true rfl)
  rw [lg_entry_eq]
  generalize (lg_sl ([.ref (a 0), .int x, .int y, .ref o]) ++ List.replicate (5 - (lg_sl ([.ref (a 0), .int x, .int y, .ref o])).length) Slot.unset).toArray = ls at hl ⊢
  have hl : lv_has ls 5 [(0, .ref (a 0)), (1, .int x), (2, .int y), (3, .ref o)] := hl
  refine lv_aload_n hx hb dL_wouldTell_0 rfl (lv_at hl 3 rfl) ?_
  refine lv_iconst (v := 0) hx hb dL_wouldTell_1 (by decide) ?_
  refine lv_aload_n hx hb dL_wouldTell_2 rfl (lv_at hl 0 rfl) ?_
  refine lv_iload_n hx hb dL_wouldTell_3 rfl (lv_at hl 1 rfl) ?_
  refine lv_iload_n hx hb dL_wouldTell_4 rfl (lv_at hl 2 rfl) ?_
  have hPX := wj_Pr hP
  refine vx_calli (vx_runV (As := [.int x, .int y]) (rest := [.int 0, .ref o]) hC (ct_X0_wouldTell_a l hst x y hbad) (cwV 2 hC.2.2.2.2 (gi_V mM_L_75 mV_X0_wouldTell mS_X0_wouldTell mI_MissRegistry mC_X0_wouldTell) rfl rfl rfl (by decide +kernel) ⟨Nat.le_of_ble_eq_true rfl, Nat.le_of_ble_eq_true rfl⟩) ⟨fun a1 U g mk q8 => ⟨q8.1, ⟨q8.2.1.1, va_K.moved (u := U) (U := U.calling g mk a1) (Vm.Alike.refl U.vm) q8.2.1.2⟩, tH.same (u := U) (U := U.calling g mk a1) rfl q8.2.2⟩, va_recv hK hPX (ci := 0) (q0 := 0) rfl rfl, fun U hU hW => ⟨rfl, ⟨by rw [hU]; exact hPX, va_K.moved hW.alike hK⟩, by rw [hU]; exact hT.warm hW⟩⟩ rfl rfl hl.1 rfl (lv_room (Nat.le_of_ble_eq_true rfl)) dL_wouldTell_5 ⟨Nat.le_of_ble_eq_true rfl, Nat.le_of_ble_eq_true rfl⟩) hS (fun _ _ h => h.elim) (fun _ h => h.elim) (fun _ _ h => h.elim) (fun E9 ce q9 u t H1 locs ht hvm hp hB hz9 hk9 hS9 hce hcv hcl => ?_) (fun r9 u9 t H1 locs ht hvm hw9 hB hz9 hk9 hS9 => hw9.elim)
  have hB : E9 = "java/lang/IndexOutOfBoundsException" := hB
  subst hB
  have hP : va_P D vwCl (oW o cJ g (xW z a lv lk pu fa he n nv du ta w mp mi k nt fu re)) H1 := wj_kept hP hk9
  have hS := hS9
  refine vx_catch (name := "java/lang/IndexOutOfBoundsException") hown [] ⟨0, 10, 13, 24⟩ [⟨0, 10, 17, 13⟩] htab (fun z9 h9 => absurd h9 List.not_mem_nil) (by decide) (by decide) (hts _ mK_L_24) (va_Nw.use rfl hT.2.2.1.1.2.2) hce hcv hcl ?_
  refine W.widen (k := 1) (n := 6) (by omega) (by omega) ?_
  refine W.eq (g2 := F0 m 13 ls [.ref q9]) rfl ?_
  refine lv_astore (lv' := [(4, .ref q9), (0, .ref (a 0)), (1, .int x), (2, .int y), (3, .ref o)]) hx hb dL_wouldTell_13 hl (by decide) rfl (fun ls hl => ?_)
  refine lv_iconst (v := 1) hx hb dL_wouldTell_15 (by decide) ?_
  exact W.iret (v := 1) hx hb hr (fun t ht hW => ⟨⟨1, (), rfl, rfl, by rw [ht]; exact hP, hD⟩, hS.F ht⟩) hS.2.2 dL_wouldTell_16
set_option maxHeartbeats 4000000 in
set_option maxRecDepth 100000 in
theorem w_wouldTell_b (l : Launch) (hst : l.stackTraces = false) (sz : Nat) {D : va_G} {z : ClassId × ClassId} {a : Nat → Nat} {lv lk pu fa he : Nat → Int32} {n : Nat} {nv du ta : Nat → Int32} {w : Nat} {mp mi : Nat → Int32} {k : Nat} {nt fu re : Int32} {o : Nat} {cJ : ClassId} {g : Nat → Int64} (i : Nat) (hi : i < w) (hw : w ≤ 6) (y : Int32) (hbad : y < 1 ∨ ¬ y ≤ 60) : Met l yL_wouldTell (wsH_ yL_wouldTell cL_wouldTell 5 (some .int) [(0, 10, 13, 24), (0, 10, 17, 13)]) ({ frames := 8, cells := 1, slots := 6, locals := 133 } : Room) (va_Pc [.ref (a 0), .int (nI i), .int y, .ref o] (fun U => U.heap.size = sz ∧ va_P D vwCl (oW o cJ g (xW z a lv lk pu fa he n nv du ta w mp mi k nt fu re)) U.heap ∧ kK D z U ∧ kJ D cJ U ∧ va_D (fun _ => True) (oW o cJ g (xW z a lv lk pu fa he n nv du ta w mp mi k nt fu re)) ∧ tH nA U U.heap ∧ tN U)) (va_Qi (fun (r : Int32) (_ : Unit) => r = 2) (fun _ t9 => va_P D vwCl (oW o cJ g (xW z a lv lk pu fa he n nv du ta w mp mi k nt fu re)) t9.heap ∧ va_D (va_A (oW o cJ g (xW z a lv lk pu fa he n nv du ta w mp mi k nt fu re)) sz) (oW o cJ g (xW z a lv lk pu fa he n nv du ta w mp mi k nt fu re))) (va_A (oW o cJ g (xW z a lv lk pu fa he n nv du ta w mp mi k nt fu re)) sz)) 1 6 (va_A (oW o cJ g (xW z a lv lk pu fa he n nv du ta w mp mi k nt fu re)) sz) := by
  refine va_MetW (hh := [(0, 10, 13, 24), (0, 10, 17, 13)]) (cc := cL_wouldTell) (maxL := 5) (ret := (some .int)) (by decide) rfl ?_
  intro p e s m args below meth c s₁ B hml hv
  obtain ⟨rfl, hsz, hP, hK, hJ, hD0, hT, hN⟩ := hv
  have hx := B.exec
  have hb := B.bytes
  have hr := B.returns
  have hts0 := atoms_spec (ws := wsH_ yL_wouldTell cL_wouldTell 5 (some .int) [(0, 10, 13, 24), (0, 10, 17, 13)]) B.pre
  have hts : ∀ w ∈ lw_all, w.before _ s = true := fun w h => hts0 w (List.mem_cons_of_mem _ h)
  have hown : s.vm.findClass RL = some m.cls := findClass_of_methodNamed B.named
  have hlocks := B.notSynchronized
  have hC : CallFix p m c cL_wouldTell 5 s _ lw_all RL := ⟨hx, hb, hml, hown, hts⟩
  have htab := vx_table (x := yL_wouldTell) B (hts0 _ List.mem_cons_self)
  subst hsz
  have hD := hD0.self (sz := s.heap.size)
  generalize hAe : va_A (oW o cJ g (xW z a lv lk pu fa he n nv du ta w mp mi k nt fu re)) s.heap.size = A at hD ⊢
  have hA : ∀ q : Nat, s.heap.size ≤ q → A q := fun q h => by rw [← hAe]; exact Or.inr h
  have hS : va_S A s.heap s.heap [] := va_S.rf
  have hl := lv_entry ([.ref (a 0), .int (nI i), .int y, .ref o]) (n := 5) (Nat.le_of_ble_eq_true rfl)
  rw [lg_entry_eq]
  generalize (lg_sl ([.ref (a 0), .int (nI i), .int y, .ref o]) ++ List.replicate (5 - (lg_sl ([.ref (a 0), .int (nI i), .int y, .ref o])).length) Slot.unset).toArray = ls at hl ⊢
  have hl : lv_has ls 5 [(0, .ref (a 0)), (1, .int (nI i)), (2, .int y), (3, .ref o)] := hl
  refine lv_aload_n hx hb dL_wouldTell_0 rfl (lv_at hl 3 rfl) ?_
  refine lv_iconst (v := 0) hx hb dL_wouldTell_1 (by decide) ?_
  refine lv_aload_n hx hb dL_wouldTell_2 rfl (lv_at hl 0 rfl) ?_
  refine lv_iload_n hx hb dL_wouldTell_3 rfl (lv_at hl 1 rfl) ?_
  refine lv_iload_n hx hb dL_wouldTell_4 rfl (lv_at hl 2 rfl) ?_
  have hPX := wj_Pr hP
  refine vx_calli (vx_runV (As := [.int (nI i), .int y]) (rest := [.int 0, .ref o]) hC (ct_X0_wouldTell_b l hst i hi hw y hbad) (cwV 2 hC.2.2.2.2 (gi_V mM_L_75 mV_X0_wouldTell mS_X0_wouldTell mI_MissRegistry mC_X0_wouldTell) rfl rfl rfl (by decide +kernel) ⟨Nat.le_of_ble_eq_true rfl, Nat.le_of_ble_eq_true rfl⟩) ⟨fun a1 U g mk q8 => ⟨q8.1, ⟨q8.2.1.1, va_K.moved (u := U) (U := U.calling g mk a1) (Vm.Alike.refl U.vm) q8.2.1.2⟩, tH.same (u := U) (U := U.calling g mk a1) rfl q8.2.2⟩, va_recv hK hPX (ci := 0) (q0 := 0) rfl rfl, fun U hU hW => ⟨rfl, ⟨by rw [hU]; exact hPX, va_K.moved hW.alike hK⟩, by rw [hU]; exact hT.warm hW⟩⟩ rfl rfl hl.1 rfl (lv_room (Nat.le_of_ble_eq_true rfl)) dL_wouldTell_5 ⟨Nat.le_of_ble_eq_true rfl, Nat.le_of_ble_eq_true rfl⟩) hS (fun _ _ h => h.elim) (fun _ h => h.elim) (fun _ _ h => h.elim) (fun E9 ce q9 u t H1 locs ht hvm hp hB hz9 hk9 hS9 hce hcv hcl => ?_) (fun r9 u9 t H1 locs ht hvm hw9 hB hz9 hk9 hS9 => hw9.elim)
  have hB : E9 = "java/lang/IllegalArgumentException" := hB
  subst hB
  have hP : va_P D vwCl (oW o cJ g (xW z a lv lk pu fa he n nv du ta w mp mi k nt fu re)) H1 := wj_kept hP hk9
  have hS := hS9
  refine vx_catch (name := "java/lang/IllegalArgumentException") hown [⟨0, 10, 13, 24⟩] ⟨0, 10, 17, 13⟩ [] htab (fun z9 h9 => by rw [List.mem_singleton.mp h9]; exact Or.inr ⟨by decide, "java/lang/IndexOutOfBoundsException", hts _ mK_L_24, hN.1.1⟩) (by decide) (by decide) (hts _ mK_L_13) (va_Nw.use rfl hT.2.2.1.1.1) hce hcv hcl ?_
  refine W.widen (k := 1) (n := 6) (by omega) (by omega) ?_
  refine W.eq (g2 := F0 m 17 ls [.ref q9]) rfl ?_
  refine lv_astore (lv' := [(4, .ref q9), (0, .ref (a 0)), (1, .int (nI i)), (2, .int y), (3, .ref o)]) hx hb dL_wouldTell_17 hl (by decide) rfl (fun ls hl => ?_)
  refine lv_iconst (v := 2) hx hb dL_wouldTell_19 (by decide) ?_
  exact W.iret (v := 2) hx hb hr (fun t ht hW => ⟨⟨2, (), rfl, rfl, by rw [ht]; exact hP, hD⟩, hS.F ht⟩) hS.2.2 dL_wouldTell_20
set_option maxHeartbeats 4000000 in
set_option maxRecDepth 100000 in
theorem w_personOf_a (l : Launch) (hst : l.stackTraces = false) (sz : Nat) {D : va_G} {z : ClassId × ClassId} {a : Nat → Nat} {lv lk pu fa he : Nat → Int32} {n : Nat} {nv du ta : Nat → Int32} {w : Nat} {mp mi : Nat → Int32} {k : Nat} {nt fu re : Int32} {o : Nat} {cJ : ClassId} {g : Nat → Int64} (x : Int32) (hbad : sp_isP k x = 0) : Met l yL_personOf (wsH_ yL_personOf cL_personOf 4 (some .int) [(0, 9, 12, 24)]) ({ frames := 8, cells := 1, slots := 6, locals := 132 } : Room) (va_Pc [.ref (a 0), .int x, .ref o] (fun U => U.heap.size = sz ∧ va_P D vwCl (oW o cJ g (xW z a lv lk pu fa he n nv du ta w mp mi k nt fu re)) U.heap ∧ kK D z U ∧ kJ D cJ U ∧ va_D (fun _ => True) (oW o cJ g (xW z a lv lk pu fa he n nv du ta w mp mi k nt fu re)) ∧ tH nA U U.heap ∧ tN U)) (va_Qi (fun (r : Int32) (_ : Unit) => r = 1) (fun _ t9 => va_P D vwCl (oW o cJ g (xW z a lv lk pu fa he n nv du ta w mp mi k nt fu re)) t9.heap ∧ va_D (va_A (oW o cJ g (xW z a lv lk pu fa he n nv du ta w mp mi k nt fu re)) sz) (oW o cJ g (xW z a lv lk pu fa he n nv du ta w mp mi k nt fu re))) (va_A (oW o cJ g (xW z a lv lk pu fa he n nv du ta w mp mi k nt fu re)) sz)) 1 6 (va_A (oW o cJ g (xW z a lv lk pu fa he n nv du ta w mp mi k nt fu re)) sz) := by
  refine va_MetW (hh := [(0, 9, 12, 24)]) (cc := cL_personOf) (maxL := 4) (ret := (some .int)) (by decide) rfl ?_
  intro p e s m args below meth c s₁ B hml hv
  obtain ⟨rfl, hsz, hP, hK, hJ, hD0, hT, hN⟩ := hv
  have hx := B.exec
  have hb := B.bytes
  have hr := B.returns
  have hts0 := atoms_spec (ws := wsH_ yL_personOf cL_personOf 4 (some .int) [(0, 9, 12, 24)]) B.pre
  have hts : ∀ w ∈ lw_all, w.before _ s = true := fun w h => hts0 w (List.mem_cons_of_mem _ h)
  have hown : s.vm.findClass RL = some m.cls := findClass_of_methodNamed B.named
  have hlocks := B.notSynchronized
  have hC : CallFix p m c cL_personOf 4 s _ lw_all RL := ⟨hx, hb, hml, hown, hts⟩
  have htab := vx_table (x := yL_personOf) B (hts0 _ List.mem_cons_self)
  subst hsz
  have hD := hD0.self (sz := s.heap.size)
  generalize hAe : va_A (oW o cJ g (xW z a lv lk pu fa he n nv du ta w mp mi k nt fu re)) s.heap.size = A at hD ⊢
  have hA : ∀ q : Nat, s.heap.size ≤ q → A q := fun q h => by rw [← hAe]; exact Or.inr h
  have hS : va_S A s.heap s.heap [] := va_S.rf
  have hl := lv_entry ([.ref (a 0), .int x, .ref o]) (n := 4) (Nat.le_of_ble_eq_true rfl)
  rw [lg_entry_eq]
  generalize (lg_sl ([.ref (a 0), .int x, .ref o]) ++ List.replicate (4 - (lg_sl ([.ref (a 0), .int x, .ref o])).length) Slot.unset).toArray = ls at hl ⊢
  have hl : lv_has ls 4 [(0, .ref (a 0)), (1, .int x), (2, .ref o)] := hl
  refine lv_aload_n hx hb dL_personOf_0 rfl (lv_at hl 2 rfl) ?_
  refine lv_iconst (v := 0) hx hb dL_personOf_1 (by decide) ?_
  refine lv_aload_n hx hb dL_personOf_2 rfl (lv_at hl 0 rfl) ?_
  refine lv_iload_n hx hb dL_personOf_3 rfl (lv_at hl 1 rfl) ?_
  have hPX := wj_Pr hP
  refine vx_calli (vx_runV (As := [.int x]) (rest := [.int 0, .ref o]) hC (ct_X0_personOf_a l hst x hbad) (cwV 1 hC.2.2.2.2 (gi_V mM_L_78 mV_X0_personOf mS_X0_personOf mI_MissRegistry mC_X0_personOf) rfl rfl rfl (by decide +kernel) ⟨Nat.le_of_ble_eq_true rfl, Nat.le_of_ble_eq_true rfl⟩) ⟨fun a1 U g mk q8 => ⟨q8.1, ⟨q8.2.1.1, va_K.moved (u := U) (U := U.calling g mk a1) (Vm.Alike.refl U.vm) q8.2.1.2⟩, tH.same (u := U) (U := U.calling g mk a1) rfl q8.2.2⟩, va_recv hK hPX (ci := 0) (q0 := 0) rfl rfl, fun U hU hW => ⟨rfl, ⟨by rw [hU]; exact hPX, va_K.moved hW.alike hK⟩, by rw [hU]; exact hT.warm hW⟩⟩ rfl rfl hl.1 rfl (lv_room (Nat.le_of_ble_eq_true rfl)) dL_personOf_4 ⟨Nat.le_of_ble_eq_true rfl, Nat.le_of_ble_eq_true rfl⟩) hS (fun _ _ h => h.elim) (fun _ h => h.elim) (fun _ _ h => h.elim) (fun E9 ce q9 u t H1 locs ht hvm hp hB hz9 hk9 hS9 hce hcv hcl => ?_) (fun r9 u9 t H1 locs ht hvm hw9 hB hz9 hk9 hS9 => hw9.elim)
  have hB : E9 = "java/lang/IndexOutOfBoundsException" := hB
  subst hB
  have hP : va_P D vwCl (oW o cJ g (xW z a lv lk pu fa he n nv du ta w mp mi k nt fu re)) H1 := wj_kept hP hk9
  have hS := hS9
  refine vx_catch (name := "java/lang/IndexOutOfBoundsException") hown [] ⟨0, 9, 12, 24⟩ [] htab (fun z9 h9 => absurd h9 List.not_mem_nil) (by decide) (by decide) (hts _ mK_L_24) (va_Nw.use rfl hT.2.2.1.1.2.2) hce hcv hcl ?_
  refine W.widen (k := 1) (n := 6) (by omega) (by omega) ?_
  refine W.eq (g2 := F0 m 12 ls [.ref q9]) rfl ?_
  refine lv_astore_n (lv' := [(3, .ref q9), (0, .ref (a 0)), (1, .int x), (2, .ref o)]) hx hb dL_personOf_12 rfl hl (by decide) rfl (fun ls hl => ?_)
  refine lv_iconst (v := 1) hx hb dL_personOf_13 (by decide) ?_
  exact W.iret (v := 1) hx hb hr (fun t ht hW => ⟨⟨1, (), rfl, rfl, by rw [ht]; exact hP, hD⟩, hS.F ht⟩) hS.2.2 dL_personOf_14
set_option maxHeartbeats 4000000 in
set_option maxRecDepth 100000 in
theorem w_inchesOf_a (l : Launch) (hst : l.stackTraces = false) (sz : Nat) {D : va_G} {z : ClassId × ClassId} {a : Nat → Nat} {lv lk pu fa he : Nat → Int32} {n : Nat} {nv du ta : Nat → Int32} {w : Nat} {mp mi : Nat → Int32} {k : Nat} {nt fu re : Int32} {o : Nat} {cJ : ClassId} {g : Nat → Int64} (x : Int32) (hbad : sp_isP k x = 0) : Met l yL_inchesOf (wsH_ yL_inchesOf cL_inchesOf 4 (some .int) [(0, 9, 12, 24)]) ({ frames := 8, cells := 1, slots := 6, locals := 132 } : Room) (va_Pc [.ref (a 0), .int x, .ref o] (fun U => U.heap.size = sz ∧ va_P D vwCl (oW o cJ g (xW z a lv lk pu fa he n nv du ta w mp mi k nt fu re)) U.heap ∧ kK D z U ∧ kJ D cJ U ∧ va_D (fun _ => True) (oW o cJ g (xW z a lv lk pu fa he n nv du ta w mp mi k nt fu re)) ∧ tH nA U U.heap ∧ tN U)) (va_Qi (fun (r : Int32) (_ : Unit) => r = 1) (fun _ t9 => va_P D vwCl (oW o cJ g (xW z a lv lk pu fa he n nv du ta w mp mi k nt fu re)) t9.heap ∧ va_D (va_A (oW o cJ g (xW z a lv lk pu fa he n nv du ta w mp mi k nt fu re)) sz) (oW o cJ g (xW z a lv lk pu fa he n nv du ta w mp mi k nt fu re))) (va_A (oW o cJ g (xW z a lv lk pu fa he n nv du ta w mp mi k nt fu re)) sz)) 1 6 (va_A (oW o cJ g (xW z a lv lk pu fa he n nv du ta w mp mi k nt fu re)) sz) := by
  refine va_MetW (hh := [(0, 9, 12, 24)]) (cc := cL_inchesOf) (maxL := 4) (ret := (some .int)) (by decide) rfl ?_
  intro p e s m args below meth c s₁ B hml hv
  obtain ⟨rfl, hsz, hP, hK, hJ, hD0, hT, hN⟩ := hv
  have hx := B.exec
  have hb := B.bytes
  have hr := B.returns
  have hts0 := atoms_spec (ws := wsH_ yL_inchesOf cL_inchesOf 4 (some .int) [(0, 9, 12, 24)]) B.pre
  have hts : ∀ w ∈ lw_all, w.before _ s = true := fun w h => hts0 w (List.mem_cons_of_mem _ h)
  have hown : s.vm.findClass RL = some m.cls := findClass_of_methodNamed B.named
  have hlocks := B.notSynchronized
  have hC : CallFix p m c cL_inchesOf 4 s _ lw_all RL := ⟨hx, hb, hml, hown, hts⟩
  have htab := vx_table (x := yL_inchesOf) B (hts0 _ List.mem_cons_self)
  subst hsz
  have hD := hD0.self (sz := s.heap.size)
  generalize hAe : va_A (oW o cJ g (xW z a lv lk pu fa he n nv du ta w mp mi k nt fu re)) s.heap.size = A at hD ⊢
  have hA : ∀ q : Nat, s.heap.size ≤ q → A q := fun q h => by rw [← hAe]; exact Or.inr h
  have hS : va_S A s.heap s.heap [] := va_S.rf
  have hl := lv_entry ([.ref (a 0), .int x, .ref o]) (n := 4) (Nat.le_of_ble_eq_true rfl)
  rw [lg_entry_eq]
  generalize (lg_sl ([.ref (a 0), .int x, .ref o]) ++ List.replicate (4 - (lg_sl ([.ref (a 0), .int x, .ref o])).length) Slot.unset).toArray = ls at hl ⊢
  have hl : lv_has ls 4 [(0, .ref (a 0)), (1, .int x), (2, .ref o)] := hl
  refine lv_aload_n hx hb dL_inchesOf_0 rfl (lv_at hl 2 rfl) ?_
  refine lv_iconst (v := 0) hx hb dL_inchesOf_1 (by decide) ?_
  refine lv_aload_n hx hb dL_inchesOf_2 rfl (lv_at hl 0 rfl) ?_
  refine lv_iload_n hx hb dL_inchesOf_3 rfl (lv_at hl 1 rfl) ?_
  have hPX := wj_Pr hP
  refine vx_calli (vx_runV (As := [.int x]) (rest := [.int 0, .ref o]) hC (ct_X0_inchesOf_a l hst x hbad) (cwV 1 hC.2.2.2.2 (gi_V mM_L_81 mV_X0_inchesOf mS_X0_inchesOf mI_MissRegistry mC_X0_inchesOf) rfl rfl rfl (by decide +kernel) ⟨Nat.le_of_ble_eq_true rfl, Nat.le_of_ble_eq_true rfl⟩) ⟨fun a1 U g mk q8 => ⟨q8.1, ⟨q8.2.1.1, va_K.moved (u := U) (U := U.calling g mk a1) (Vm.Alike.refl U.vm) q8.2.1.2⟩, tH.same (u := U) (U := U.calling g mk a1) rfl q8.2.2⟩, va_recv hK hPX (ci := 0) (q0 := 0) rfl rfl, fun U hU hW => ⟨rfl, ⟨by rw [hU]; exact hPX, va_K.moved hW.alike hK⟩, by rw [hU]; exact hT.warm hW⟩⟩ rfl rfl hl.1 rfl (lv_room (Nat.le_of_ble_eq_true rfl)) dL_inchesOf_4 ⟨Nat.le_of_ble_eq_true rfl, Nat.le_of_ble_eq_true rfl⟩) hS (fun _ _ h => h.elim) (fun _ h => h.elim) (fun _ _ h => h.elim) (fun E9 ce q9 u t H1 locs ht hvm hp hB hz9 hk9 hS9 hce hcv hcl => ?_) (fun r9 u9 t H1 locs ht hvm hw9 hB hz9 hk9 hS9 => hw9.elim)
  have hB : E9 = "java/lang/IndexOutOfBoundsException" := hB
  subst hB
  have hP : va_P D vwCl (oW o cJ g (xW z a lv lk pu fa he n nv du ta w mp mi k nt fu re)) H1 := wj_kept hP hk9
  have hS := hS9
  refine vx_catch (name := "java/lang/IndexOutOfBoundsException") hown [] ⟨0, 9, 12, 24⟩ [] htab (fun z9 h9 => absurd h9 List.not_mem_nil) (by decide) (by decide) (hts _ mK_L_24) (va_Nw.use rfl hT.2.2.1.1.2.2) hce hcv hcl ?_
  refine W.widen (k := 1) (n := 6) (by omega) (by omega) ?_
  refine W.eq (g2 := F0 m 12 ls [.ref q9]) rfl ?_
  refine lv_astore_n (lv' := [(3, .ref q9), (0, .ref (a 0)), (1, .int x), (2, .ref o)]) hx hb dL_inchesOf_12 rfl hl (by decide) rfl (fun ls hl => ?_)
  refine lv_iconst (v := 1) hx hb dL_inchesOf_13 (by decide) ?_
  exact W.iret (v := 1) hx hb hr (fun t ht hW => ⟨⟨1, (), rfl, rfl, by rw [ht]; exact hP, hD⟩, hS.F ht⟩) hS.2.2 dL_inchesOf_14
set_option maxHeartbeats 4000000 in
set_option maxRecDepth 100000 in
theorem w_sealOf_a (l : Launch) (hst : l.stackTraces = false) (sz : Nat) {D : va_G} {z : ClassId × ClassId} {a : Nat → Nat} {lv lk pu fa he : Nat → Int32} {n : Nat} {nv du ta : Nat → Int32} {w : Nat} {mp mi : Nat → Int32} {k : Nat} {nt fu re : Int32} {o : Nat} {cJ : ClassId} {g : Nat → Int64} (x : Int32) (hbad : sp_isP k x = 0) : Met l yL_sealOf (wsH_ yL_sealOf cL_sealOf 4 (some .int) [(0, 9, 12, 24)]) ({ frames := 8, cells := 1, slots := 6, locals := 132 } : Room) (va_Pc [.ref (a 0), .int x, .ref o] (fun U => U.heap.size = sz ∧ va_P D vwCl (oW o cJ g (xW z a lv lk pu fa he n nv du ta w mp mi k nt fu re)) U.heap ∧ kK D z U ∧ kJ D cJ U ∧ va_D (fun _ => True) (oW o cJ g (xW z a lv lk pu fa he n nv du ta w mp mi k nt fu re)) ∧ tH nA U U.heap ∧ tN U)) (va_Qi (fun (r : Int32) (_ : Unit) => r = 1) (fun _ t9 => va_P D vwCl (oW o cJ g (xW z a lv lk pu fa he n nv du ta w mp mi k nt fu re)) t9.heap ∧ va_D (va_A (oW o cJ g (xW z a lv lk pu fa he n nv du ta w mp mi k nt fu re)) sz) (oW o cJ g (xW z a lv lk pu fa he n nv du ta w mp mi k nt fu re))) (va_A (oW o cJ g (xW z a lv lk pu fa he n nv du ta w mp mi k nt fu re)) sz)) 1 6 (va_A (oW o cJ g (xW z a lv lk pu fa he n nv du ta w mp mi k nt fu re)) sz) := by
  refine va_MetW (hh := [(0, 9, 12, 24)]) (cc := cL_sealOf) (maxL := 4) (ret := (some .int)) (by decide) rfl ?_
  intro p e s m args below meth c s₁ B hml hv
  obtain ⟨rfl, hsz, hP, hK, hJ, hD0, hT, hN⟩ := hv
  have hx := B.exec
  have hb := B.bytes
  have hr := B.returns
  have hts0 := atoms_spec (ws := wsH_ yL_sealOf cL_sealOf 4 (some .int) [(0, 9, 12, 24)]) B.pre
  have hts : ∀ w ∈ lw_all, w.before _ s = true := fun w h => hts0 w (List.mem_cons_of_mem _ h)
  have hown : s.vm.findClass RL = some m.cls := findClass_of_methodNamed B.named
  have hlocks := B.notSynchronized
  have hC : CallFix p m c cL_sealOf 4 s _ lw_all RL := ⟨hx, hb, hml, hown, hts⟩
  have htab := vx_table (x := yL_sealOf) B (hts0 _ List.mem_cons_self)
  subst hsz
  have hD := hD0.self (sz := s.heap.size)
  generalize hAe : va_A (oW o cJ g (xW z a lv lk pu fa he n nv du ta w mp mi k nt fu re)) s.heap.size = A at hD ⊢
  have hA : ∀ q : Nat, s.heap.size ≤ q → A q := fun q h => by rw [← hAe]; exact Or.inr h
  have hS : va_S A s.heap s.heap [] := va_S.rf
  have hl := lv_entry ([.ref (a 0), .int x, .ref o]) (n := 4) (Nat.le_of_ble_eq_true rfl)
  rw [lg_entry_eq]
  generalize (lg_sl ([.ref (a 0), .int x, .ref o]) ++ List.replicate (4 - (lg_sl ([.ref (a 0), .int x, .ref o])).length) Slot.unset).toArray = ls at hl ⊢
  have hl : lv_has ls 4 [(0, .ref (a 0)), (1, .int x), (2, .ref o)] := hl
  refine lv_aload_n hx hb dL_sealOf_0 rfl (lv_at hl 2 rfl) ?_
  refine lv_iconst (v := 0) hx hb dL_sealOf_1 (by decide) ?_
  refine lv_aload_n hx hb dL_sealOf_2 rfl (lv_at hl 0 rfl) ?_
  refine lv_iload_n hx hb dL_sealOf_3 rfl (lv_at hl 1 rfl) ?_
  have hPX := wj_Pr hP
  refine vx_calli (vx_runV (As := [.int x]) (rest := [.int 0, .ref o]) hC (ct_X0_sealOf_a l hst x hbad) (cwV 1 hC.2.2.2.2 (gi_V mM_L_84 mV_X0_sealOf mS_X0_sealOf mI_MissRegistry mC_X0_sealOf) rfl rfl rfl (by decide +kernel) ⟨Nat.le_of_ble_eq_true rfl, Nat.le_of_ble_eq_true rfl⟩) ⟨fun a1 U g mk q8 => ⟨q8.1, ⟨q8.2.1.1, va_K.moved (u := U) (U := U.calling g mk a1) (Vm.Alike.refl U.vm) q8.2.1.2⟩, tH.same (u := U) (U := U.calling g mk a1) rfl q8.2.2⟩, va_recv hK hPX (ci := 0) (q0 := 0) rfl rfl, fun U hU hW => ⟨rfl, ⟨by rw [hU]; exact hPX, va_K.moved hW.alike hK⟩, by rw [hU]; exact hT.warm hW⟩⟩ rfl rfl hl.1 rfl (lv_room (Nat.le_of_ble_eq_true rfl)) dL_sealOf_4 ⟨Nat.le_of_ble_eq_true rfl, Nat.le_of_ble_eq_true rfl⟩) hS (fun _ _ h => h.elim) (fun _ h => h.elim) (fun _ _ h => h.elim) (fun E9 ce q9 u t H1 locs ht hvm hp hB hz9 hk9 hS9 hce hcv hcl => ?_) (fun r9 u9 t H1 locs ht hvm hw9 hB hz9 hk9 hS9 => hw9.elim)
  have hB : E9 = "java/lang/IndexOutOfBoundsException" := hB
  subst hB
  have hP : va_P D vwCl (oW o cJ g (xW z a lv lk pu fa he n nv du ta w mp mi k nt fu re)) H1 := wj_kept hP hk9
  have hS := hS9
  refine vx_catch (name := "java/lang/IndexOutOfBoundsException") hown [] ⟨0, 9, 12, 24⟩ [] htab (fun z9 h9 => absurd h9 List.not_mem_nil) (by decide) (by decide) (hts _ mK_L_24) (va_Nw.use rfl hT.2.2.1.1.2.2) hce hcv hcl ?_
  refine W.widen (k := 1) (n := 6) (by omega) (by omega) ?_
  refine W.eq (g2 := F0 m 12 ls [.ref q9]) rfl ?_
  refine lv_astore_n (lv' := [(3, .ref q9), (0, .ref (a 0)), (1, .int x), (2, .ref o)]) hx hb dL_sealOf_12 rfl hl (by decide) rfl (fun ls hl => ?_)
  refine lv_iconst (v := 1) hx hb dL_sealOf_13 (by decide) ?_
  exact W.iret (v := 1) hx hb hr (fun t ht hW => ⟨⟨1, (), rfl, rfl, by rw [ht]; exact hP, hD⟩, hS.F ht⟩) hS.2.2 dL_sealOf_14
set_option maxHeartbeats 4000000 in
set_option maxRecDepth 100000 in
theorem w_wouldCertify_a (l : Launch) (hst : l.stackTraces = false) (sz : Nat) {D : va_G} {z : ClassId × ClassId} {a : Nat → Nat} {lv lk pu fa he : Nat → Int32} {n : Nat} {nv du ta : Nat → Int32} {w : Nat} {mp mi : Nat → Int32} {k : Nat} {nt fu re : Int32} {o : Nat} {cJ : ClassId} {g : Nat → Int64} (x : Int32) (hbad : x < 1 ∨ ¬ x ≤ 60) : Met l yL_wouldCertify (wsH_ yL_wouldCertify cL_wouldCertify 4 (some .int) [(0, 9, 12, 13)]) ({ frames := 8, cells := 1, slots := 6, locals := 132 } : Room) (va_Pc [.ref (a 0), .int x, .ref o] (fun U => U.heap.size = sz ∧ va_P D vwCl (oW o cJ g (xW z a lv lk pu fa he n nv du ta w mp mi k nt fu re)) U.heap ∧ kK D z U ∧ kJ D cJ U ∧ va_D (fun _ => True) (oW o cJ g (xW z a lv lk pu fa he n nv du ta w mp mi k nt fu re)) ∧ tH nA U U.heap ∧ tN U)) (va_Qi (fun (r : Int32) (_ : Unit) => r = 1) (fun _ t9 => va_P D vwCl (oW o cJ g (xW z a lv lk pu fa he n nv du ta w mp mi k nt fu re)) t9.heap ∧ va_D (va_A (oW o cJ g (xW z a lv lk pu fa he n nv du ta w mp mi k nt fu re)) sz) (oW o cJ g (xW z a lv lk pu fa he n nv du ta w mp mi k nt fu re))) (va_A (oW o cJ g (xW z a lv lk pu fa he n nv du ta w mp mi k nt fu re)) sz)) 1 6 (va_A (oW o cJ g (xW z a lv lk pu fa he n nv du ta w mp mi k nt fu re)) sz) := by
  refine va_MetW (hh := [(0, 9, 12, 13)]) (cc := cL_wouldCertify) (maxL := 4) (ret := (some .int)) (by decide) rfl ?_
  intro p e s m args below meth c s₁ B hml hv
  obtain ⟨rfl, hsz, hP, hK, hJ, hD0, hT, hN⟩ := hv
  have hx := B.exec
  have hb := B.bytes
  have hr := B.returns
  have hts0 := atoms_spec (ws := wsH_ yL_wouldCertify cL_wouldCertify 4 (some .int) [(0, 9, 12, 13)]) B.pre
  have hts : ∀ w ∈ lw_all, w.before _ s = true := fun w h => hts0 w (List.mem_cons_of_mem _ h)
  have hown : s.vm.findClass RL = some m.cls := findClass_of_methodNamed B.named
  have hlocks := B.notSynchronized
  have hC : CallFix p m c cL_wouldCertify 4 s _ lw_all RL := ⟨hx, hb, hml, hown, hts⟩
  have htab := vx_table (x := yL_wouldCertify) B (hts0 _ List.mem_cons_self)
  subst hsz
  have hD := hD0.self (sz := s.heap.size)
  generalize hAe : va_A (oW o cJ g (xW z a lv lk pu fa he n nv du ta w mp mi k nt fu re)) s.heap.size = A at hD ⊢
  have hA : ∀ q : Nat, s.heap.size ≤ q → A q := fun q h => by rw [← hAe]; exact Or.inr h
  have hS : va_S A s.heap s.heap [] := va_S.rf
  have hl := lv_entry ([.ref (a 0), .int x, .ref o]) (n := 4) (Nat.le_of_ble_eq_true rfl)
  rw [lg_entry_eq]
  generalize (lg_sl ([.ref (a 0), .int x, .ref o]) ++ List.replicate (4 - (lg_sl ([.ref (a 0), .int x, .ref o])).length) Slot.unset).toArray = ls at hl ⊢
  have hl : lv_has ls 4 [(0, .ref (a 0)), (1, .int x), (2, .ref o)] := hl
  refine lv_aload_n hx hb dL_wouldCertify_0 rfl (lv_at hl 2 rfl) ?_
  refine lv_iconst (v := 0) hx hb dL_wouldCertify_1 (by decide) ?_
  refine lv_aload_n hx hb dL_wouldCertify_2 rfl (lv_at hl 0 rfl) ?_
  refine lv_iload_n hx hb dL_wouldCertify_3 rfl (lv_at hl 1 rfl) ?_
  have hPX := wj_Pr hP
  refine vx_calli (vx_runV (As := [.int x]) (rest := [.int 0, .ref o]) hC (ct_X0_wouldCertify_a l hst x hbad) (cwV 1 hC.2.2.2.2 (gi_V mM_L_87 mV_X0_wouldCertify mS_X0_wouldCertify mI_MissRegistry mC_X0_wouldCertify) rfl rfl rfl (by decide +kernel) ⟨Nat.le_of_ble_eq_true rfl, Nat.le_of_ble_eq_true rfl⟩) ⟨fun a1 U g mk q8 => ⟨q8.1, ⟨q8.2.1.1, va_K.moved (u := U) (U := U.calling g mk a1) (Vm.Alike.refl U.vm) q8.2.1.2⟩, tH.same (u := U) (U := U.calling g mk a1) rfl q8.2.2⟩, va_recv hK hPX (ci := 0) (q0 := 0) rfl rfl, fun U hU hW => ⟨rfl, ⟨by rw [hU]; exact hPX, va_K.moved hW.alike hK⟩, by rw [hU]; exact hT.warm hW⟩⟩ rfl rfl hl.1 rfl (lv_room (Nat.le_of_ble_eq_true rfl)) dL_wouldCertify_4 ⟨Nat.le_of_ble_eq_true rfl, Nat.le_of_ble_eq_true rfl⟩) hS (fun _ _ h => h.elim) (fun _ h => h.elim) (fun _ _ h => h.elim) (fun E9 ce q9 u t H1 locs ht hvm hp hB hz9 hk9 hS9 hce hcv hcl => ?_) (fun r9 u9 t H1 locs ht hvm hw9 hB hz9 hk9 hS9 => hw9.elim)
  have hB : E9 = "java/lang/IllegalArgumentException" := hB
  subst hB
  have hP : va_P D vwCl (oW o cJ g (xW z a lv lk pu fa he n nv du ta w mp mi k nt fu re)) H1 := wj_kept hP hk9
  have hS := hS9
  refine vx_catch (name := "java/lang/IllegalArgumentException") hown [] ⟨0, 9, 12, 13⟩ [] htab (fun z9 h9 => absurd h9 List.not_mem_nil) (by decide) (by decide) (hts _ mK_L_13) (va_Nw.use rfl hT.2.2.1.1.1) hce hcv hcl ?_
  refine W.widen (k := 1) (n := 6) (by omega) (by omega) ?_
  refine W.eq (g2 := F0 m 12 ls [.ref q9]) rfl ?_
  refine lv_astore_n (lv' := [(3, .ref q9), (0, .ref (a 0)), (1, .int x), (2, .ref o)]) hx hb dL_wouldCertify_12 rfl hl (by decide) rfl (fun ls hl => ?_)
  refine lv_iconst (v := 1) hx hb dL_wouldCertify_13 (by decide) ?_
  exact W.iret (v := 1) hx hb hr (fun t ht hW => ⟨⟨1, (), rfl, rfl, by rw [ht]; exact hP, hD⟩, hS.F ht⟩) hS.2.2 dL_wouldCertify_14
set_option maxHeartbeats 4000000 in
set_option maxRecDepth 100000 in
theorem w_wouldRefund_a (l : Launch) (hst : l.stackTraces = false) (sz : Nat) {D : va_G} {z : ClassId × ClassId} {a : Nat → Nat} {lv lk pu fa he : Nat → Int32} {n : Nat} {nv du ta : Nat → Int32} {w : Nat} {mp mi : Nat → Int32} {k : Nat} {nt fu re : Int32} {o : Nat} {cJ : ClassId} {g : Nat → Int64} (x y : Int32) (hbad : sp_isP n x = 0) : Met l yL_wouldRefund (wsH_ yL_wouldRefund cL_wouldRefund 5 (some .int) [(0, 10, 13, 24), (0, 10, 17, 13)]) ({ frames := 8, cells := 1, slots := 6, locals := 133 } : Room) (va_Pc [.ref (a 0), .int x, .int y, .ref o] (fun U => U.heap.size = sz ∧ va_P D vwCl (oW o cJ g (xW z a lv lk pu fa he n nv du ta w mp mi k nt fu re)) U.heap ∧ kK D z U ∧ kJ D cJ U ∧ va_D (fun _ => True) (oW o cJ g (xW z a lv lk pu fa he n nv du ta w mp mi k nt fu re)) ∧ tH nA U U.heap ∧ tN U)) (va_Qi (fun (r : Int32) (_ : Unit) => r = 1) (fun _ t9 => va_P D vwCl (oW o cJ g (xW z a lv lk pu fa he n nv du ta w mp mi k nt fu re)) t9.heap ∧ va_D (va_A (oW o cJ g (xW z a lv lk pu fa he n nv du ta w mp mi k nt fu re)) sz) (oW o cJ g (xW z a lv lk pu fa he n nv du ta w mp mi k nt fu re))) (va_A (oW o cJ g (xW z a lv lk pu fa he n nv du ta w mp mi k nt fu re)) sz)) 1 6 (va_A (oW o cJ g (xW z a lv lk pu fa he n nv du ta w mp mi k nt fu re)) sz) := by
  refine va_MetW (hh := [(0, 10, 13, 24), (0, 10, 17, 13)]) (cc := cL_wouldRefund) (maxL := 5) (ret := (some .int)) (by decide) rfl ?_
  intro p e s m args below meth c s₁ B hml hv
  obtain ⟨rfl, hsz, hP, hK, hJ, hD0, hT, hN⟩ := hv
  have hx := B.exec
  have hb := B.bytes
  have hr := B.returns
  have hts0 := atoms_spec (ws := wsH_ yL_wouldRefund cL_wouldRefund 5 (some .int) [(0, 10, 13, 24), (0, 10, 17, 13)]) B.pre
  have hts : ∀ w ∈ lw_all, w.before _ s = true := fun w h => hts0 w (List.mem_cons_of_mem _ h)
  have hown : s.vm.findClass RL = some m.cls := findClass_of_methodNamed B.named
  have hlocks := B.notSynchronized
  have hC : CallFix p m c cL_wouldRefund 5 s _ lw_all RL := ⟨hx, hb, hml, hown, hts⟩
  have htab := vx_table (x := yL_wouldRefund) B (hts0 _ List.mem_cons_self)
  subst hsz
  have hD := hD0.self (sz := s.heap.size)
  generalize hAe : va_A (oW o cJ g (xW z a lv lk pu fa he n nv du ta w mp mi k nt fu re)) s.heap.size = A at hD ⊢
  have hA : ∀ q : Nat, s.heap.size ≤ q → A q := fun q h => by rw [← hAe]; exact Or.inr h
  have hS : va_S A s.heap s.heap [] := va_S.rf
  have hl := lv_entry ([.ref (a 0), .int x, .int y, .ref o]) (n := 5) (Nat.le_of_ble_eq_true rfl)
  rw [lg_entry_eq]
  generalize (lg_sl ([.ref (a 0), .int x, .int y, .ref o]) ++ List.replicate (5 - (lg_sl ([.ref (a 0), .int x, .int y, .ref o])).length) Slot.unset).toArray = ls at hl ⊢
  have hl : lv_has ls 5 [(0, .ref (a 0)), (1, .int x), (2, .int y), (3, .ref o)] := hl
  refine lv_aload_n hx hb dL_wouldRefund_0 rfl (lv_at hl 3 rfl) ?_
  refine lv_iconst (v := 0) hx hb dL_wouldRefund_1 (by decide) ?_
  refine lv_aload_n hx hb dL_wouldRefund_2 rfl (lv_at hl 0 rfl) ?_
  refine lv_iload_n hx hb dL_wouldRefund_3 rfl (lv_at hl 1 rfl) ?_
  refine lv_iload_n hx hb dL_wouldRefund_4 rfl (lv_at hl 2 rfl) ?_
  have hPX := wj_Pr hP
  refine vx_calli (vx_runV (As := [.int x, .int y]) (rest := [.int 0, .ref o]) hC (ct_X0_wouldRefund_a l hst x y hbad) (cwV 2 hC.2.2.2.2 (gi_V mM_L_90 mV_X0_wouldRefund mS_X0_wouldRefund mI_MissRegistry mC_X0_wouldRefund) rfl rfl rfl (by decide +kernel) ⟨Nat.le_of_ble_eq_true rfl, Nat.le_of_ble_eq_true rfl⟩) ⟨fun a1 U g mk q8 => ⟨q8.1, ⟨q8.2.1.1, va_K.moved (u := U) (U := U.calling g mk a1) (Vm.Alike.refl U.vm) q8.2.1.2⟩, tH.same (u := U) (U := U.calling g mk a1) rfl q8.2.2⟩, va_recv hK hPX (ci := 0) (q0 := 0) rfl rfl, fun U hU hW => ⟨rfl, ⟨by rw [hU]; exact hPX, va_K.moved hW.alike hK⟩, by rw [hU]; exact hT.warm hW⟩⟩ rfl rfl hl.1 rfl (lv_room (Nat.le_of_ble_eq_true rfl)) dL_wouldRefund_5 ⟨Nat.le_of_ble_eq_true rfl, Nat.le_of_ble_eq_true rfl⟩) hS (fun _ _ h => h.elim) (fun _ h => h.elim) (fun _ _ h => h.elim) (fun E9 ce q9 u t H1 locs ht hvm hp hB hz9 hk9 hS9 hce hcv hcl => ?_) (fun r9 u9 t H1 locs ht hvm hw9 hB hz9 hk9 hS9 => hw9.elim)
  have hB : E9 = "java/lang/IndexOutOfBoundsException" := hB
  subst hB
  have hP : va_P D vwCl (oW o cJ g (xW z a lv lk pu fa he n nv du ta w mp mi k nt fu re)) H1 := wj_kept hP hk9
  have hS := hS9
  refine vx_catch (name := "java/lang/IndexOutOfBoundsException") hown [] ⟨0, 10, 13, 24⟩ [⟨0, 10, 17, 13⟩] htab (fun z9 h9 => absurd h9 List.not_mem_nil) (by decide) (by decide) (hts _ mK_L_24) (va_Nw.use rfl hT.2.2.1.1.2.2) hce hcv hcl ?_
  refine W.widen (k := 1) (n := 6) (by omega) (by omega) ?_
  refine W.eq (g2 := F0 m 13 ls [.ref q9]) rfl ?_
  refine lv_astore (lv' := [(4, .ref q9), (0, .ref (a 0)), (1, .int x), (2, .int y), (3, .ref o)]) hx hb dL_wouldRefund_13 hl (by decide) rfl (fun ls hl => ?_)
  refine lv_iconst (v := 1) hx hb dL_wouldRefund_15 (by decide) ?_
  exact W.iret (v := 1) hx hb hr (fun t ht hW => ⟨⟨1, (), rfl, rfl, by rw [ht]; exact hP, hD⟩, hS.F ht⟩) hS.2.2 dL_wouldRefund_16
set_option maxHeartbeats 4000000 in
set_option maxRecDepth 100000 in
theorem w_wouldRefund_b (l : Launch) (hst : l.stackTraces = false) (sz : Nat) {D : va_G} {z : ClassId × ClassId} {a : Nat → Nat} {lv lk pu fa he : Nat → Int32} {n : Nat} {nv du ta : Nat → Int32} {w : Nat} {mp mi : Nat → Int32} {k : Nat} {nt fu re : Int32} {o : Nat} {cJ : ClassId} {g : Nat → Int64} (i : Nat) (hi : i < n) (hn : n ≤ 10) (y : Int32) (hbad : y < 1 ∨ ¬ y ≤ 60) : Met l yL_wouldRefund (wsH_ yL_wouldRefund cL_wouldRefund 5 (some .int) [(0, 10, 13, 24), (0, 10, 17, 13)]) ({ frames := 8, cells := 1, slots := 6, locals := 133 } : Room) (va_Pc [.ref (a 0), .int (nI i), .int y, .ref o] (fun U => U.heap.size = sz ∧ va_P D vwCl (oW o cJ g (xW z a lv lk pu fa he n nv du ta w mp mi k nt fu re)) U.heap ∧ kK D z U ∧ kJ D cJ U ∧ va_D (fun _ => True) (oW o cJ g (xW z a lv lk pu fa he n nv du ta w mp mi k nt fu re)) ∧ tH nA U U.heap ∧ tN U)) (va_Qi (fun (r : Int32) (_ : Unit) => r = 2) (fun _ t9 => va_P D vwCl (oW o cJ g (xW z a lv lk pu fa he n nv du ta w mp mi k nt fu re)) t9.heap ∧ va_D (va_A (oW o cJ g (xW z a lv lk pu fa he n nv du ta w mp mi k nt fu re)) sz) (oW o cJ g (xW z a lv lk pu fa he n nv du ta w mp mi k nt fu re))) (va_A (oW o cJ g (xW z a lv lk pu fa he n nv du ta w mp mi k nt fu re)) sz)) 1 6 (va_A (oW o cJ g (xW z a lv lk pu fa he n nv du ta w mp mi k nt fu re)) sz) := by
  refine va_MetW (hh := [(0, 10, 13, 24), (0, 10, 17, 13)]) (cc := cL_wouldRefund) (maxL := 5) (ret := (some .int)) (by decide) rfl ?_
  intro p e s m args below meth c s₁ B hml hv
  obtain ⟨rfl, hsz, hP, hK, hJ, hD0, hT, hN⟩ := hv
  have hx := B.exec
  have hb := B.bytes
  have hr := B.returns
  have hts0 := atoms_spec (ws := wsH_ yL_wouldRefund cL_wouldRefund 5 (some .int) [(0, 10, 13, 24), (0, 10, 17, 13)]) B.pre
  have hts : ∀ w ∈ lw_all, w.before _ s = true := fun w h => hts0 w (List.mem_cons_of_mem _ h)
  have hown : s.vm.findClass RL = some m.cls := findClass_of_methodNamed B.named
  have hlocks := B.notSynchronized
  have hC : CallFix p m c cL_wouldRefund 5 s _ lw_all RL := ⟨hx, hb, hml, hown, hts⟩
  have htab := vx_table (x := yL_wouldRefund) B (hts0 _ List.mem_cons_self)
  subst hsz
  have hD := hD0.self (sz := s.heap.size)
  generalize hAe : va_A (oW o cJ g (xW z a lv lk pu fa he n nv du ta w mp mi k nt fu re)) s.heap.size = A at hD ⊢
  have hA : ∀ q : Nat, s.heap.size ≤ q → A q := fun q h => by rw [← hAe]; exact Or.inr h
  have hS : va_S A s.heap s.heap [] := va_S.rf
  have hl := lv_entry ([.ref (a 0), .int (nI i), .int y, .ref o]) (n := 5) (Nat.le_of_ble_eq_true rfl)
  rw [lg_entry_eq]
  generalize (lg_sl ([.ref (a 0), .int (nI i), .int y, .ref o]) ++ List.replicate (5 - (lg_sl ([.ref (a 0), .int (nI i), .int y, .ref o])).length) Slot.unset).toArray = ls at hl ⊢
  have hl : lv_has ls 5 [(0, .ref (a 0)), (1, .int (nI i)), (2, .int y), (3, .ref o)] := hl
  refine lv_aload_n hx hb dL_wouldRefund_0 rfl (lv_at hl 3 rfl) ?_
  refine lv_iconst (v := 0) hx hb dL_wouldRefund_1 (by decide) ?_
  refine lv_aload_n hx hb dL_wouldRefund_2 rfl (lv_at hl 0 rfl) ?_
  refine lv_iload_n hx hb dL_wouldRefund_3 rfl (lv_at hl 1 rfl) ?_
  refine lv_iload_n hx hb dL_wouldRefund_4 rfl (lv_at hl 2 rfl) ?_
  have hPX := wj_Pr hP
  refine vx_calli (vx_runV (As := [.int (nI i), .int y]) (rest := [.int 0, .ref o]) hC (ct_X0_wouldRefund_b l hst i hi hn y hbad) (cwV 2 hC.2.2.2.2 (gi_V mM_L_90 mV_X0_wouldRefund mS_X0_wouldRefund mI_MissRegistry mC_X0_wouldRefund) rfl rfl rfl (by decide +kernel) ⟨Nat.le_of_ble_eq_true rfl, Nat.le_of_ble_eq_true rfl⟩) ⟨fun a1 U g mk q8 => ⟨q8.1, ⟨q8.2.1.1, va_K.moved (u := U) (U := U.calling g mk a1) (Vm.Alike.refl U.vm) q8.2.1.2⟩, tH.same (u := U) (U := U.calling g mk a1) rfl q8.2.2⟩, va_recv hK hPX (ci := 0) (q0 := 0) rfl rfl, fun U hU hW => ⟨rfl, ⟨by rw [hU]; exact hPX, va_K.moved hW.alike hK⟩, by rw [hU]; exact hT.warm hW⟩⟩ rfl rfl hl.1 rfl (lv_room (Nat.le_of_ble_eq_true rfl)) dL_wouldRefund_5 ⟨Nat.le_of_ble_eq_true rfl, Nat.le_of_ble_eq_true rfl⟩) hS (fun _ _ h => h.elim) (fun _ h => h.elim) (fun _ _ h => h.elim) (fun E9 ce q9 u t H1 locs ht hvm hp hB hz9 hk9 hS9 hce hcv hcl => ?_) (fun r9 u9 t H1 locs ht hvm hw9 hB hz9 hk9 hS9 => hw9.elim)
  have hB : E9 = "java/lang/IllegalArgumentException" := hB
  subst hB
  have hP : va_P D vwCl (oW o cJ g (xW z a lv lk pu fa he n nv du ta w mp mi k nt fu re)) H1 := wj_kept hP hk9
  have hS := hS9
  refine vx_catch (name := "java/lang/IllegalArgumentException") hown [⟨0, 10, 13, 24⟩] ⟨0, 10, 17, 13⟩ [] htab (fun z9 h9 => by rw [List.mem_singleton.mp h9]; exact Or.inr ⟨by decide, "java/lang/IndexOutOfBoundsException", hts _ mK_L_24, hN.1.1⟩) (by decide) (by decide) (hts _ mK_L_13) (va_Nw.use rfl hT.2.2.1.1.1) hce hcv hcl ?_
  refine W.widen (k := 1) (n := 6) (by omega) (by omega) ?_
  refine W.eq (g2 := F0 m 17 ls [.ref q9]) rfl ?_
  refine lv_astore (lv' := [(4, .ref q9), (0, .ref (a 0)), (1, .int (nI i)), (2, .int y), (3, .ref o)]) hx hb dL_wouldRefund_17 hl (by decide) rfl (fun ls hl => ?_)
  refine lv_iconst (v := 2) hx hb dL_wouldRefund_19 (by decide) ?_
  exact W.iret (v := 2) hx hb hr (fun t ht hW => ⟨⟨2, (), rfl, rfl, by rw [ht]; exact hP, hD⟩, hS.F ht⟩) hS.2.2 dL_wouldRefund_20
set_option maxHeartbeats 4000000 in
set_option maxRecDepth 100000 in
theorem w_missesUntilShaken_a (l : Launch) (hst : l.stackTraces = false) (sz : Nat) {D : va_G} {z : ClassId × ClassId} {a : Nat → Nat} {lv lk pu fa he : Nat → Int32} {n : Nat} {nv du ta : Nat → Int32} {w : Nat} {mp mi : Nat → Int32} {k : Nat} {nt fu re : Int32} {o : Nat} {cJ : ClassId} {g : Nat → Int64} (x : Int32) (hbad : x < 1 ∨ ¬ x ≤ 60) : Met l yL_missesUntilShaken (wsH_ yL_missesUntilShaken cL_missesUntilShaken 4 (some .int) [(0, 9, 12, 13)]) ({ frames := 8, cells := 1, slots := 6, locals := 135 } : Room) (va_Pc [.ref (a 0), .int x, .ref o] (fun U => U.heap.size = sz ∧ va_P D vwCl (oW o cJ g (xW z a lv lk pu fa he n nv du ta w mp mi k nt fu re)) U.heap ∧ kK D z U ∧ kJ D cJ U ∧ va_D (fun _ => True) (oW o cJ g (xW z a lv lk pu fa he n nv du ta w mp mi k nt fu re)) ∧ tH nA U U.heap ∧ tN U)) (va_Qi (fun (r : Int32) (_ : Unit) => r = 1) (fun _ t9 => va_P D vwCl (oW o cJ g (xW z a lv lk pu fa he n nv du ta w mp mi k nt fu re)) t9.heap ∧ va_D (va_A (oW o cJ g (xW z a lv lk pu fa he n nv du ta w mp mi k nt fu re)) sz) (oW o cJ g (xW z a lv lk pu fa he n nv du ta w mp mi k nt fu re))) (va_A (oW o cJ g (xW z a lv lk pu fa he n nv du ta w mp mi k nt fu re)) sz)) 1 6 (va_A (oW o cJ g (xW z a lv lk pu fa he n nv du ta w mp mi k nt fu re)) sz) := by
  refine va_MetW (hh := [(0, 9, 12, 13)]) (cc := cL_missesUntilShaken) (maxL := 4) (ret := (some .int)) (by decide) rfl ?_
  intro p e s m args below meth c s₁ B hml hv
  obtain ⟨rfl, hsz, hP, hK, hJ, hD0, hT, hN⟩ := hv
  have hx := B.exec
  have hb := B.bytes
  have hr := B.returns
  have hts0 := atoms_spec (ws := wsH_ yL_missesUntilShaken cL_missesUntilShaken 4 (some .int) [(0, 9, 12, 13)]) B.pre
  have hts : ∀ w ∈ lw_all, w.before _ s = true := fun w h => hts0 w (List.mem_cons_of_mem _ h)
  have hown : s.vm.findClass RL = some m.cls := findClass_of_methodNamed B.named
  have hlocks := B.notSynchronized
  have hC : CallFix p m c cL_missesUntilShaken 4 s _ lw_all RL := ⟨hx, hb, hml, hown, hts⟩
  have htab := vx_table (x := yL_missesUntilShaken) B (hts0 _ List.mem_cons_self)
  subst hsz
  have hD := hD0.self (sz := s.heap.size)
  generalize hAe : va_A (oW o cJ g (xW z a lv lk pu fa he n nv du ta w mp mi k nt fu re)) s.heap.size = A at hD ⊢
  have hA : ∀ q : Nat, s.heap.size ≤ q → A q := fun q h => by rw [← hAe]; exact Or.inr h
  have hS : va_S A s.heap s.heap [] := va_S.rf
  have hl := lv_entry ([.ref (a 0), .int x, .ref o]) (n := 4) (Nat.le_of_ble_eq_true rfl)
  rw [lg_entry_eq]
  generalize (lg_sl ([.ref (a 0), .int x, .ref o]) ++ List.replicate (4 - (lg_sl ([.ref (a 0), .int x, .ref o])).length) Slot.unset).toArray = ls at hl ⊢
  have hl : lv_has ls 4 [(0, .ref (a 0)), (1, .int x), (2, .ref o)] := hl
  refine lv_aload_n hx hb dL_missesUntilShaken_0 rfl (lv_at hl 2 rfl) ?_
  refine lv_iconst (v := 0) hx hb dL_missesUntilShaken_1 (by decide) ?_
  refine lv_aload_n hx hb dL_missesUntilShaken_2 rfl (lv_at hl 0 rfl) ?_
  refine lv_iload_n hx hb dL_missesUntilShaken_3 rfl (lv_at hl 1 rfl) ?_
  have hPX := wj_Pr hP
  refine vx_calli (vx_runV (As := [.int x]) (rest := [.int 0, .ref o]) hC (ct_X0_missesUntilShaken_a l hst x hbad) (cwV 1 hC.2.2.2.2 (gi_V mM_L_93 mV_X0_missesUntilShaken mS_X0_missesUntilShaken mI_MissRegistry mC_X0_missesUntilShaken) rfl rfl rfl (by decide +kernel) ⟨Nat.le_of_ble_eq_true rfl, Nat.le_of_ble_eq_true rfl⟩) ⟨fun a1 U g mk q8 => ⟨q8.1, ⟨q8.2.1.1, va_K.moved (u := U) (U := U.calling g mk a1) (Vm.Alike.refl U.vm) q8.2.1.2⟩, tH.same (u := U) (U := U.calling g mk a1) rfl q8.2.2⟩, va_recv hK hPX (ci := 0) (q0 := 0) rfl rfl, fun U hU hW => ⟨rfl, ⟨by rw [hU]; exact hPX, va_K.moved hW.alike hK⟩, by rw [hU]; exact hT.warm hW⟩⟩ rfl rfl hl.1 rfl (lv_room (Nat.le_of_ble_eq_true rfl)) dL_missesUntilShaken_4 ⟨Nat.le_of_ble_eq_true rfl, Nat.le_of_ble_eq_true rfl⟩) hS (fun _ _ h => h.elim) (fun _ h => h.elim) (fun _ _ h => h.elim) (fun E9 ce q9 u t H1 locs ht hvm hp hB hz9 hk9 hS9 hce hcv hcl => ?_) (fun r9 u9 t H1 locs ht hvm hw9 hB hz9 hk9 hS9 => hw9.elim)
  have hB : E9 = "java/lang/IllegalArgumentException" := hB
  subst hB
  have hP : va_P D vwCl (oW o cJ g (xW z a lv lk pu fa he n nv du ta w mp mi k nt fu re)) H1 := wj_kept hP hk9
  have hS := hS9
  refine vx_catch (name := "java/lang/IllegalArgumentException") hown [] ⟨0, 9, 12, 13⟩ [] htab (fun z9 h9 => absurd h9 List.not_mem_nil) (by decide) (by decide) (hts _ mK_L_13) (va_Nw.use rfl hT.2.2.1.1.1) hce hcv hcl ?_
  refine W.widen (k := 1) (n := 6) (by omega) (by omega) ?_
  refine W.eq (g2 := F0 m 12 ls [.ref q9]) rfl ?_
  refine lv_astore_n (lv' := [(3, .ref q9), (0, .ref (a 0)), (1, .int x), (2, .ref o)]) hx hb dL_missesUntilShaken_12 rfl hl (by decide) rfl (fun ls hl => ?_)
  refine lv_iconst (v := 1) hx hb dL_missesUntilShaken_13 (by decide) ?_
  exact W.iret (v := 1) hx hb hr (fun t ht hW => ⟨⟨1, (), rfl, rfl, by rw [ht]; exact hP, hD⟩, hS.F ht⟩) hS.2.2 dL_missesUntilShaken_14

set_option maxHeartbeats 8000000 in
set_option maxRecDepth 100000 in
theorem lc_8 {p : Program} {l : Launch} {e : Env} {s : State} {m : MethodId} {below : List Frame} {meth : Method} {c : Code} {H : Heap} {locs : List Loc} {cells slots : Nat} {Q : State → Prop} {ls : Array Slot} {b L : Nat} {xs : Nat → Int32} {D : va_G} {z z2 : ClassId × ClassId} {cJ : ClassId} {q9 t9 a a2 : Nat → Nat} {o : Nat} {lv lk pu fa he : Nat → Int32} {n : Nat} {nv du ta : Nat → Int32} {w : Nat} {mp mi : Nat → Int32} {k : Nat} {nt fu re : Int32} {gn of : Nat → Int32} {th : Int32} {g : Nat → Int64} {r : Nat} (X : LX p l s m c b L xs D z z2 cJ q9 t9) (hI : IV lv lk fa he n nv du w k gn of) (hP : va_P D vwCl (oW o cJ g (xW z a lv lk pu fa he n nv du ta w mp mi k nt fu re) ++ mW z2 a2 th n w gn lk pu fa he nv of mp mi k nt fu re) H) (hD : va_D (nw s) (oW o cJ g (xW z a lv lk pu fa he n nv du ta w mp mi k nt fu re) ++ mW z2 a2 th n w gn lk pu fa he nv of mp mi k nt fu re)) (hS : va_S (nw s) s.heap H locs) (hcl : cells + 12 ≤ 601024) (hsl : slots + 100 ≤ 7293034) (hr : r + 2 < L) (hl : lv_has ls 9 [(0, .ref b), (1, .ref (a 0)), (2, .ref (a2 0)), (3, .ref o), (4, .int (nI r))]) (kk : ∀ (H1 : Heap) (locs1 : List Loc) (c1 s1 : Nat) (ls1 : Array Slot), Jn D z z2 cJ a a2 o s H1 locs1 → c1 ≤ cells + 11 → s1 ≤ slots + 94 → lv_has ls1 9 [(0, .ref b), (1, .ref (a 0)), (2, .ref (a2 0)), (3, .ref o), (4, .int (nI r))] → W p l e room_1 s m #[.ref b] below meth c H1 locs1 c1 s1 Q (F0 m 1948 ls1 [])) : W p l e room_1 s m #[.ref b] below meth c H locs cells slots Q (F0 m 691 ls []) := by
  obtain ⟨hC, hst, ⟨hX, hbl, hL⟩, ⟨hK, hK2, hJ⟩, hT, hN, hE⟩ := X
  have hx := hC.1
  have hb := hC.2.1
  have hA : ∀ q : Nat, s.heap.size ≤ q → nw s q := fun q h => h
  have hbA : ¬ nw s b := Nat.not_le.mpr hbl
  have hn := hI.1.1
  have hw := hI.1.2.1
  have hk := hI.1.2.2
  refine lv_aload_n hx hb dL_law_691 rfl (lv_at hl 1 rfl) ?_
  refine vp_callSi (W.runV (As := []) (rest := []) hC (c_X0_night l ) (cwV 0 hC.2.2.2.2 (gi_V mM_L_132 mV_X0_night mS_X0_night mI_MissRegistry mC_X0_night) rfl rfl rfl (by decide +kernel) ⟨Nat.le_of_ble_eq_true rfl, Nat.le_of_ble_eq_true rfl⟩) (xpre hK (wj_Pr (wj_Pl hP))) rfl rfl hl.1 rfl (lv_room (Nat.le_of_ble_eq_true rfl)) dL_law_692 ⟨(show _ ≤ 601024 by omega), (show _ ≤ 7293034 by omega)⟩) (fun r8 hr8 => ?_)
  rw [show r8 = nt from hr8]
  refine lv_aload_n hx hb dL_law_695 rfl (lv_at hl 2 rfl) ?_
  have hPM := wj_Pr hP
  have hDM := wj_Dr hD
  have hF := wj_Fr hD hS hA
  refine va_calli (va_runV (As := []) (rest := [.int nt]) hC (c_X1_night l H.size ) (cwV 0 hC.2.2.2.2 (gi_V mM_L_135 mV_X1_night mS_X1_night mI_MissRegistryModel mC_X1_night) rfl rfl rfl (by decide +kernel) ⟨Nat.le_of_ble_eq_true rfl, Nat.le_of_ble_eq_true rfl⟩) ⟨fun a1 U g mk q => ⟨q.1, q.2.1, ⟨q.2.2.1.1, va_K.moved (u := U) (U := U.calling g mk a1) (Vm.Alike.refl U.vm) q.2.2.1.2⟩, q.2.2.2⟩, va_recv hK2 hPM (ci := 1) (q0 := 0) rfl rfl, fun U hU hW => ⟨rfl, by rw [hU], ⟨by rw [hU]; exact hPM, va_K.moved hW.alike hK2⟩, hDM.weaken (fun _ _ _ _ => trivial)⟩⟩ rfl rfl hl.1 rfl (lv_room (Nat.le_of_ble_eq_true rfl)) dL_law_696 ⟨(show _ ≤ 601024 by omega), (show _ ≤ 7293034 by omega)⟩) hS (fun q _ h => hF q h) hF (fun r7 u7 t H locs ht hvm hw7 hB hz9 hk9 hS9 => ?_)
  obtain ⟨hP1, hK1, hD1⟩ := hB
  rw [ht] at hP1
  obtain ⟨hP, hD⟩ := wj_r hP hD hk9 hF hP1 hD1
  have hP : va_P D vwCl (oW o cJ g (xW z a lv lk pu fa he n nv du ta w mp mi k nt fu re) ++ mW z2 a2 0 n w gn lk pu fa he nv of mp mi k nt fu re) H := hP
  have hD : va_D (nw s) (oW o cJ g (xW z a lv lk pu fa he n nv du ta w mp mi k nt fu re) ++ mW z2 a2 0 n w gn lk pu fa he nv of mp mi k nt fu re) := hD
  have hS := hS9
  rw [show r7 = nt from hw7]
  refine lv_icmp_eq (tgt := 1948) hx hb dL_law_699 (by decide) (fun c_699 => ?_) (fun c_699 => ?_)
  · exact kk _ _ _ _ _ ⟨lv, lk, pu, fa, he, n, nv, du, ta, w, mp, mi, k, nt, fu, re, gn, of, 0, g, hI, hP, hD, hS⟩ (by omega) (by omega) (lv_sub hl [0, 1, 2, 3, 4] rfl)
  · exact absurd rfl c_699
set_option maxHeartbeats 8000000 in
set_option maxRecDepth 100000 in
theorem lc_9 {p : Program} {l : Launch} {e : Env} {s : State} {m : MethodId} {below : List Frame} {meth : Method} {c : Code} {H : Heap} {locs : List Loc} {cells slots : Nat} {Q : State → Prop} {ls : Array Slot} {b L : Nat} {xs : Nat → Int32} {D : va_G} {z z2 : ClassId × ClassId} {cJ : ClassId} {q9 t9 a a2 : Nat → Nat} {o : Nat} {lv lk pu fa he : Nat → Int32} {n : Nat} {nv du ta : Nat → Int32} {w : Nat} {mp mi : Nat → Int32} {k : Nat} {nt fu re : Int32} {gn of : Nat → Int32} {th : Int32} {g : Nat → Int64} {r : Nat} (X : LX p l s m c b L xs D z z2 cJ q9 t9) (hI : IV lv lk fa he n nv du w k gn of) (hP : va_P D vwCl (oW o cJ g (xW z a lv lk pu fa he n nv du ta w mp mi k nt fu re) ++ mW z2 a2 th n w gn lk pu fa he nv of mp mi k nt fu re) H) (hD : va_D (nw s) (oW o cJ g (xW z a lv lk pu fa he n nv du ta w mp mi k nt fu re) ++ mW z2 a2 th n w gn lk pu fa he nv of mp mi k nt fu re)) (hS : va_S (nw s) s.heap H locs) (hcl : cells + 12 ≤ 601024) (hsl : slots + 100 ≤ 7293034) (hr : r + 2 < L) (hl : lv_has ls 9 [(0, .ref b), (1, .ref (a 0)), (2, .ref (a2 0)), (3, .ref o), (4, .int (nI r))]) (kk : ∀ (H1 : Heap) (locs1 : List Loc) (c1 s1 : Nat) (ls1 : Array Slot), Jn D z z2 cJ a a2 o s H1 locs1 → c1 ≤ cells + 11 → s1 ≤ slots + 94 → lv_has ls1 9 [(0, .ref b), (1, .ref (a 0)), (2, .ref (a2 0)), (3, .ref o), (4, .int (nI r))] → W p l e room_1 s m #[.ref b] below meth c H1 locs1 c1 s1 Q (F0 m 1948 ls1 [])) : W p l e room_1 s m #[.ref b] below meth c H locs cells slots Q (F0 m 704 ls []) := by
  obtain ⟨hC, hst, ⟨hX, hbl, hL⟩, ⟨hK, hK2, hJ⟩, hT, hN, hE⟩ := X
  have hx := hC.1
  have hb := hC.2.1
  have hA : ∀ q : Nat, s.heap.size ≤ q → nw s q := fun q h => h
  have hbA : ¬ nw s b := Nat.not_le.mpr hbl
  have hn := hI.1.1
  have hw := hI.1.2.1
  have hk := hI.1.2.2
  refine lv_aload_n hx hb dL_law_704 rfl (lv_at hl 1 rfl) ?_
  refine vp_callSi (W.runV (As := []) (rest := []) hC (c_X0_persons l ) (cwV 0 hC.2.2.2.2 (gi_V mM_L_136 mV_X0_persons mS_X0_persons mI_MissRegistry mC_X0_persons) rfl rfl rfl (by decide +kernel) ⟨Nat.le_of_ble_eq_true rfl, Nat.le_of_ble_eq_true rfl⟩) (xpre hK (wj_Pr (wj_Pl hP))) rfl rfl hl.1 rfl (lv_room (Nat.le_of_ble_eq_true rfl)) dL_law_705 ⟨(show _ ≤ 601024 by omega), (show _ ≤ 7293034 by omega)⟩) (fun r8 hr8 => ?_)
  rw [show r8 = nI n from hr8]
  refine lv_aload_n hx hb dL_law_708 rfl (lv_at hl 2 rfl) ?_
  have hPM := wj_Pr hP
  have hDM := wj_Dr hD
  have hF := wj_Fr hD hS hA
  refine va_calli (va_runV (As := []) (rest := [.int (nI n)]) hC (c_X1_persons l H.size ) (cwV 0 hC.2.2.2.2 (gi_V mM_L_139 mV_X1_persons mS_X1_persons mI_MissRegistryModel mC_X1_persons) rfl rfl rfl (by decide +kernel) ⟨Nat.le_of_ble_eq_true rfl, Nat.le_of_ble_eq_true rfl⟩) ⟨fun a1 U g mk q => ⟨q.1, q.2.1, ⟨q.2.2.1.1, va_K.moved (u := U) (U := U.calling g mk a1) (Vm.Alike.refl U.vm) q.2.2.1.2⟩, q.2.2.2⟩, va_recv hK2 hPM (ci := 1) (q0 := 0) rfl rfl, fun U hU hW => ⟨rfl, by rw [hU], ⟨by rw [hU]; exact hPM, va_K.moved hW.alike hK2⟩, hDM.weaken (fun _ _ _ _ => trivial)⟩⟩ rfl rfl hl.1 rfl (lv_room (Nat.le_of_ble_eq_true rfl)) dL_law_709 ⟨(show _ ≤ 601024 by omega), (show _ ≤ 7293034 by omega)⟩) hS (fun q _ h => hF q h) hF (fun r7 u7 t H locs ht hvm hw7 hB hz9 hk9 hS9 => ?_)
  obtain ⟨hP1, hK1, hD1⟩ := hB
  rw [ht] at hP1
  obtain ⟨hP, hD⟩ := wj_r hP hD hk9 hF hP1 hD1
  have hP : va_P D vwCl (oW o cJ g (xW z a lv lk pu fa he n nv du ta w mp mi k nt fu re) ++ mW z2 a2 0 n w gn lk pu fa he nv of mp mi k nt fu re) H := hP
  have hD : va_D (nw s) (oW o cJ g (xW z a lv lk pu fa he n nv du ta w mp mi k nt fu re) ++ mW z2 a2 0 n w gn lk pu fa he nv of mp mi k nt fu re) := hD
  have hS := hS9
  rw [show r7 = nI n from hw7]
  refine lv_icmp_eq (tgt := 1948) hx hb dL_law_712 (by decide) (fun c_712 => ?_) (fun c_712 => ?_)
  · exact kk _ _ _ _ _ ⟨lv, lk, pu, fa, he, n, nv, du, ta, w, mp, mi, k, nt, fu, re, gn, of, 0, g, hI, hP, hD, hS⟩ (by omega) (by omega) (lv_sub hl [0, 1, 2, 3, 4] rfl)
  · exact absurd rfl c_712
set_option maxHeartbeats 8000000 in
set_option maxRecDepth 100000 in
theorem lc_10 {p : Program} {l : Launch} {e : Env} {s : State} {m : MethodId} {below : List Frame} {meth : Method} {c : Code} {H : Heap} {locs : List Loc} {cells slots : Nat} {Q : State → Prop} {ls : Array Slot} {b L : Nat} {xs : Nat → Int32} {D : va_G} {z z2 : ClassId × ClassId} {cJ : ClassId} {q9 t9 a a2 : Nat → Nat} {o : Nat} {lv lk pu fa he : Nat → Int32} {n : Nat} {nv du ta : Nat → Int32} {w : Nat} {mp mi : Nat → Int32} {k : Nat} {nt fu re : Int32} {gn of : Nat → Int32} {th : Int32} {g : Nat → Int64} {r : Nat} (X : LX p l s m c b L xs D z z2 cJ q9 t9) (hI : IV lv lk fa he n nv du w k gn of) (hP : va_P D vwCl (oW o cJ g (xW z a lv lk pu fa he n nv du ta w mp mi k nt fu re) ++ mW z2 a2 th n w gn lk pu fa he nv of mp mi k nt fu re) H) (hD : va_D (nw s) (oW o cJ g (xW z a lv lk pu fa he n nv du ta w mp mi k nt fu re) ++ mW z2 a2 th n w gn lk pu fa he nv of mp mi k nt fu re)) (hS : va_S (nw s) s.heap H locs) (hcl : cells + 12 ≤ 601024) (hsl : slots + 100 ≤ 7293034) (hr : r + 2 < L) (hl : lv_has ls 9 [(0, .ref b), (1, .ref (a 0)), (2, .ref (a2 0)), (3, .ref o), (4, .int (nI r))]) (kk : ∀ (H1 : Heap) (locs1 : List Loc) (c1 s1 : Nat) (ls1 : Array Slot), Jn D z z2 cJ a a2 o s H1 locs1 → c1 ≤ cells + 11 → s1 ≤ slots + 94 → lv_has ls1 9 [(0, .ref b), (1, .ref (a 0)), (2, .ref (a2 0)), (3, .ref o), (4, .int (nI r))] → W p l e room_1 s m #[.ref b] below meth c H1 locs1 c1 s1 Q (F0 m 1948 ls1 [])) : W p l e room_1 s m #[.ref b] below meth c H locs cells slots Q (F0 m 717 ls []) := by
  obtain ⟨hC, hst, ⟨hX, hbl, hL⟩, ⟨hK, hK2, hJ⟩, hT, hN, hE⟩ := X
  have hx := hC.1
  have hb := hC.2.1
  have hA : ∀ q : Nat, s.heap.size ≤ q → nw s q := fun q h => h
  have hbA : ¬ nw s b := Nat.not_le.mpr hbl
  have hn := hI.1.1
  have hw := hI.1.2.1
  have hk := hI.1.2.2
  refine lv_aload_n hx hb dL_law_717 rfl (lv_at hl 1 rfl) ?_
  refine vp_callSi (W.runV (As := []) (rest := []) hC (c_X0_alive l hn) (cwV 0 hC.2.2.2.2 (gi_V mM_L_140 mV_X0_alive mS_X0_alive mI_MissRegistry mC_X0_alive) rfl rfl rfl (by decide +kernel) ⟨Nat.le_of_ble_eq_true rfl, Nat.le_of_ble_eq_true rfl⟩) (xpre hK (wj_Pr (wj_Pl hP))) rfl rfl hl.1 rfl (lv_room (Nat.le_of_ble_eq_true rfl)) dL_law_718 ⟨(show _ ≤ 601024 by omega), (show _ ≤ 7293034 by omega)⟩) (fun r8 hr8 => ?_)
  rw [show r8 = sp_cnt lv n from hr8]
  refine lv_aload_n hx hb dL_law_721 rfl (lv_at hl 2 rfl) ?_
  have hPM := wj_Pr hP
  have hDM := wj_Dr hD
  have hF := wj_Fr hD hS hA
  refine va_calli (va_runV (As := []) (rest := [.int (sp_cnt lv n)]) hC (c_X1_alive l H.size hn) (cwV 0 hC.2.2.2.2 (gi_V mM_L_143 mV_X1_alive mS_X1_alive mI_MissRegistryModel mC_X1_alive) rfl rfl rfl (by decide +kernel) ⟨Nat.le_of_ble_eq_true rfl, Nat.le_of_ble_eq_true rfl⟩) ⟨fun a1 U g mk q => ⟨q.1, q.2.1, ⟨q.2.2.1.1, va_K.moved (u := U) (U := U.calling g mk a1) (Vm.Alike.refl U.vm) q.2.2.1.2⟩, q.2.2.2⟩, va_recv hK2 hPM (ci := 1) (q0 := 0) rfl rfl, fun U hU hW => ⟨rfl, by rw [hU], ⟨by rw [hU]; exact hPM, va_K.moved hW.alike hK2⟩, hDM.weaken (fun _ _ _ _ => trivial)⟩⟩ rfl rfl hl.1 rfl (lv_room (Nat.le_of_ble_eq_true rfl)) dL_law_722 ⟨(show _ ≤ 601024 by omega), (show _ ≤ 7293034 by omega)⟩) hS (fun q _ h => hF q h) hF (fun r7 u7 t H locs ht hvm hw7 hB hz9 hk9 hS9 => ?_)
  obtain ⟨hP1, hK1, hD1⟩ := hB
  rw [ht] at hP1
  obtain ⟨hP, hD⟩ := wj_r hP hD hk9 hF hP1 hD1
  have hP : va_P D vwCl (oW o cJ g (xW z a lv lk pu fa he n nv du ta w mp mi k nt fu re) ++ mW z2 a2 0 n w gn lk pu fa he nv of mp mi k nt fu re) H := hP
  have hD : va_D (nw s) (oW o cJ g (xW z a lv lk pu fa he n nv du ta w mp mi k nt fu re) ++ mW z2 a2 0 n w gn lk pu fa he nv of mp mi k nt fu re) := hD
  have hS := hS9
  rw [show r7 = mq_liv gn n from hw7]
  rw [show mq_liv gn n = sp_cnt lv n from (e_cnt hI.2.1.1.iff)]
  refine lv_icmp_eq (tgt := 1948) hx hb dL_law_725 (by decide) (fun c_725 => ?_) (fun c_725 => ?_)
  · exact kk _ _ _ _ _ ⟨lv, lk, pu, fa, he, n, nv, du, ta, w, mp, mi, k, nt, fu, re, gn, of, 0, g, hI, hP, hD, hS⟩ (by omega) (by omega) (lv_sub hl [0, 1, 2, 3, 4] rfl)
  · exact absurd rfl c_725
set_option maxHeartbeats 8000000 in
set_option maxRecDepth 100000 in
theorem lc_11 {p : Program} {l : Launch} {e : Env} {s : State} {m : MethodId} {below : List Frame} {meth : Method} {c : Code} {H : Heap} {locs : List Loc} {cells slots : Nat} {Q : State → Prop} {ls : Array Slot} {b L : Nat} {xs : Nat → Int32} {D : va_G} {z z2 : ClassId × ClassId} {cJ : ClassId} {q9 t9 a a2 : Nat → Nat} {o : Nat} {lv lk pu fa he : Nat → Int32} {n : Nat} {nv du ta : Nat → Int32} {w : Nat} {mp mi : Nat → Int32} {k : Nat} {nt fu re : Int32} {gn of : Nat → Int32} {th : Int32} {g : Nat → Int64} {r : Nat} (X : LX p l s m c b L xs D z z2 cJ q9 t9) (hI : IV lv lk fa he n nv du w k gn of) (hP : va_P D vwCl (oW o cJ g (xW z a lv lk pu fa he n nv du ta w mp mi k nt fu re) ++ mW z2 a2 th n w gn lk pu fa he nv of mp mi k nt fu re) H) (hD : va_D (nw s) (oW o cJ g (xW z a lv lk pu fa he n nv du ta w mp mi k nt fu re) ++ mW z2 a2 th n w gn lk pu fa he nv of mp mi k nt fu re)) (hS : va_S (nw s) s.heap H locs) (hcl : cells + 12 ≤ 601024) (hsl : slots + 100 ≤ 7293034) (hr : r + 2 < L) (hl : lv_has ls 9 [(0, .ref b), (1, .ref (a 0)), (2, .ref (a2 0)), (3, .ref o), (4, .int (nI r))]) (kk : ∀ (H1 : Heap) (locs1 : List Loc) (c1 s1 : Nat) (ls1 : Array Slot), Jn D z z2 cJ a a2 o s H1 locs1 → c1 ≤ cells + 11 → s1 ≤ slots + 94 → lv_has ls1 9 [(0, .ref b), (1, .ref (a 0)), (2, .ref (a2 0)), (3, .ref o), (4, .int (nI r))] → W p l e room_1 s m #[.ref b] below meth c H1 locs1 c1 s1 Q (F0 m 1948 ls1 [])) : W p l e room_1 s m #[.ref b] below meth c H locs cells slots Q (F0 m 730 ls []) := by
  obtain ⟨hC, hst, ⟨hX, hbl, hL⟩, ⟨hK, hK2, hJ⟩, hT, hN, hE⟩ := X
  have hx := hC.1
  have hb := hC.2.1
  have hA : ∀ q : Nat, s.heap.size ≤ q → nw s q := fun q h => h
  have hbA : ¬ nw s b := Nat.not_le.mpr hbl
  have hn := hI.1.1
  have hw := hI.1.2.1
  have hk := hI.1.2.2
  refine lv_aload_n hx hb dL_law_730 rfl (lv_at hl 1 rfl) ?_
  refine vp_callSi (W.runV (As := []) (rest := []) hC (c_X0_witnesses l ) (cwV 0 hC.2.2.2.2 (gi_V mM_L_144 mV_X0_witnesses mS_X0_witnesses mI_MissRegistry mC_X0_witnesses) rfl rfl rfl (by decide +kernel) ⟨Nat.le_of_ble_eq_true rfl, Nat.le_of_ble_eq_true rfl⟩) (xpre hK (wj_Pr (wj_Pl hP))) rfl rfl hl.1 rfl (lv_room (Nat.le_of_ble_eq_true rfl)) dL_law_731 ⟨(show _ ≤ 601024 by omega), (show _ ≤ 7293034 by omega)⟩) (fun r8 hr8 => ?_)
  rw [show r8 = nI w from hr8]
  refine lv_aload_n hx hb dL_law_734 rfl (lv_at hl 2 rfl) ?_
  have hPM := wj_Pr hP
  have hDM := wj_Dr hD
  have hF := wj_Fr hD hS hA
  refine va_calli (va_runV (As := []) (rest := [.int (nI w)]) hC (c_X1_witnesses l H.size ) (cwV 0 hC.2.2.2.2 (gi_V mM_L_147 mV_X1_witnesses mS_X1_witnesses mI_MissRegistryModel mC_X1_witnesses) rfl rfl rfl (by decide +kernel) ⟨Nat.le_of_ble_eq_true rfl, Nat.le_of_ble_eq_true rfl⟩) ⟨fun a1 U g mk q => ⟨q.1, q.2.1, ⟨q.2.2.1.1, va_K.moved (u := U) (U := U.calling g mk a1) (Vm.Alike.refl U.vm) q.2.2.1.2⟩, q.2.2.2⟩, va_recv hK2 hPM (ci := 1) (q0 := 0) rfl rfl, fun U hU hW => ⟨rfl, by rw [hU], ⟨by rw [hU]; exact hPM, va_K.moved hW.alike hK2⟩, hDM.weaken (fun _ _ _ _ => trivial)⟩⟩ rfl rfl hl.1 rfl (lv_room (Nat.le_of_ble_eq_true rfl)) dL_law_735 ⟨(show _ ≤ 601024 by omega), (show _ ≤ 7293034 by omega)⟩) hS (fun q _ h => hF q h) hF (fun r7 u7 t H locs ht hvm hw7 hB hz9 hk9 hS9 => ?_)
  obtain ⟨hP1, hK1, hD1⟩ := hB
  rw [ht] at hP1
  obtain ⟨hP, hD⟩ := wj_r hP hD hk9 hF hP1 hD1
  have hP : va_P D vwCl (oW o cJ g (xW z a lv lk pu fa he n nv du ta w mp mi k nt fu re) ++ mW z2 a2 0 n w gn lk pu fa he nv of mp mi k nt fu re) H := hP
  have hD : va_D (nw s) (oW o cJ g (xW z a lv lk pu fa he n nv du ta w mp mi k nt fu re) ++ mW z2 a2 0 n w gn lk pu fa he nv of mp mi k nt fu re) := hD
  have hS := hS9
  rw [show r7 = nI w from hw7]
  refine lv_icmp_eq (tgt := 1948) hx hb dL_law_738 (by decide) (fun c_738 => ?_) (fun c_738 => ?_)
  · exact kk _ _ _ _ _ ⟨lv, lk, pu, fa, he, n, nv, du, ta, w, mp, mi, k, nt, fu, re, gn, of, 0, g, hI, hP, hD, hS⟩ (by omega) (by omega) (lv_sub hl [0, 1, 2, 3, 4] rfl)
  · exact absurd rfl c_738
set_option maxHeartbeats 8000000 in
set_option maxRecDepth 100000 in
theorem lc_12 {p : Program} {l : Launch} {e : Env} {s : State} {m : MethodId} {below : List Frame} {meth : Method} {c : Code} {H : Heap} {locs : List Loc} {cells slots : Nat} {Q : State → Prop} {ls : Array Slot} {b L : Nat} {xs : Nat → Int32} {D : va_G} {z z2 : ClassId × ClassId} {cJ : ClassId} {q9 t9 a a2 : Nat → Nat} {o : Nat} {lv lk pu fa he : Nat → Int32} {n : Nat} {nv du ta : Nat → Int32} {w : Nat} {mp mi : Nat → Int32} {k : Nat} {nt fu re : Int32} {gn of : Nat → Int32} {th : Int32} {g : Nat → Int64} {r : Nat} (X : LX p l s m c b L xs D z z2 cJ q9 t9) (hI : IV lv lk fa he n nv du w k gn of) (hP : va_P D vwCl (oW o cJ g (xW z a lv lk pu fa he n nv du ta w mp mi k nt fu re) ++ mW z2 a2 th n w gn lk pu fa he nv of mp mi k nt fu re) H) (hD : va_D (nw s) (oW o cJ g (xW z a lv lk pu fa he n nv du ta w mp mi k nt fu re) ++ mW z2 a2 th n w gn lk pu fa he nv of mp mi k nt fu re)) (hS : va_S (nw s) s.heap H locs) (hcl : cells + 12 ≤ 601024) (hsl : slots + 100 ≤ 7293034) (hr : r + 2 < L) (hl : lv_has ls 9 [(0, .ref b), (1, .ref (a 0)), (2, .ref (a2 0)), (3, .ref o), (4, .int (nI r))]) (kk : ∀ (H1 : Heap) (locs1 : List Loc) (c1 s1 : Nat) (ls1 : Array Slot), Jn D z z2 cJ a a2 o s H1 locs1 → c1 ≤ cells + 11 → s1 ≤ slots + 94 → lv_has ls1 9 [(0, .ref b), (1, .ref (a 0)), (2, .ref (a2 0)), (3, .ref o), (4, .int (nI r))] → W p l e room_1 s m #[.ref b] below meth c H1 locs1 c1 s1 Q (F0 m 1948 ls1 [])) : W p l e room_1 s m #[.ref b] below meth c H locs cells slots Q (F0 m 743 ls []) := by
  obtain ⟨hC, hst, ⟨hX, hbl, hL⟩, ⟨hK, hK2, hJ⟩, hT, hN, hE⟩ := X
  have hx := hC.1
  have hb := hC.2.1
  have hA : ∀ q : Nat, s.heap.size ≤ q → nw s q := fun q h => h
  have hbA : ¬ nw s b := Nat.not_le.mpr hbl
  have hn := hI.1.1
  have hw := hI.1.2.1
  have hk := hI.1.2.2
  refine lv_aload_n hx hb dL_law_743 rfl (lv_at hl 1 rfl) ?_
  refine vp_callSi (W.runV (As := []) (rest := []) hC (c_X0_shaken l hw) (cwV 0 hC.2.2.2.2 (gi_V mM_L_148 mV_X0_shaken mS_X0_shaken mI_MissRegistry mC_X0_shaken) rfl rfl rfl (by decide +kernel) ⟨Nat.le_of_ble_eq_true rfl, Nat.le_of_ble_eq_true rfl⟩) (xpre hK (wj_Pr (wj_Pl hP))) rfl rfl hl.1 rfl (lv_room (Nat.le_of_ble_eq_true rfl)) dL_law_744 ⟨(show _ ≤ 601024 by omega), (show _ ≤ 7293034 by omega)⟩) (fun r8 hr8 => ?_)
  rw [show r8 = sp_shk nv w from hr8]
  refine lv_aload_n hx hb dL_law_747 rfl (lv_at hl 2 rfl) ?_
  have hPM := wj_Pr hP
  have hDM := wj_Dr hD
  have hF := wj_Fr hD hS hA
  refine va_calli (va_runV (As := []) (rest := [.int (sp_shk nv w)]) hC (c_X1_shaken l H.size hw) (cwV 0 hC.2.2.2.2 (gi_V mM_L_151 mV_X1_shaken mS_X1_shaken mI_MissRegistryModel mC_X1_shaken) rfl rfl rfl (by decide +kernel) ⟨Nat.le_of_ble_eq_true rfl, Nat.le_of_ble_eq_true rfl⟩) ⟨fun a1 U g mk q => ⟨q.1, q.2.1, ⟨q.2.2.1.1, va_K.moved (u := U) (U := U.calling g mk a1) (Vm.Alike.refl U.vm) q.2.2.1.2⟩, q.2.2.2⟩, va_recv hK2 hPM (ci := 1) (q0 := 0) rfl rfl, fun U hU hW => ⟨rfl, by rw [hU], ⟨by rw [hU]; exact hPM, va_K.moved hW.alike hK2⟩, hDM.weaken (fun _ _ _ _ => trivial)⟩⟩ rfl rfl hl.1 rfl (lv_room (Nat.le_of_ble_eq_true rfl)) dL_law_748 ⟨(show _ ≤ 601024 by omega), (show _ ≤ 7293034 by omega)⟩) hS (fun q _ h => hF q h) hF (fun r7 u7 t H locs ht hvm hw7 hB hz9 hk9 hS9 => ?_)
  obtain ⟨hP1, hK1, hD1⟩ := hB
  rw [ht] at hP1
  obtain ⟨hP, hD⟩ := wj_r hP hD hk9 hF hP1 hD1
  have hP : va_P D vwCl (oW o cJ g (xW z a lv lk pu fa he n nv du ta w mp mi k nt fu re) ++ mW z2 a2 0 n w gn lk pu fa he nv of mp mi k nt fu re) H := hP
  have hD : va_D (nw s) (oW o cJ g (xW z a lv lk pu fa he n nv du ta w mp mi k nt fu re) ++ mW z2 a2 0 n w gn lk pu fa he nv of mp mi k nt fu re) := hD
  have hS := hS9
  rw [show r7 = sp_shk nv w from hw7]
  refine lv_icmp_eq (tgt := 1948) hx hb dL_law_751 (by decide) (fun c_751 => ?_) (fun c_751 => ?_)
  · exact kk _ _ _ _ _ ⟨lv, lk, pu, fa, he, n, nv, du, ta, w, mp, mi, k, nt, fu, re, gn, of, 0, g, hI, hP, hD, hS⟩ (by omega) (by omega) (lv_sub hl [0, 1, 2, 3, 4] rfl)
  · exact absurd rfl c_751
set_option maxHeartbeats 8000000 in
set_option maxRecDepth 100000 in
theorem lc_13 {p : Program} {l : Launch} {e : Env} {s : State} {m : MethodId} {below : List Frame} {meth : Method} {c : Code} {H : Heap} {locs : List Loc} {cells slots : Nat} {Q : State → Prop} {ls : Array Slot} {b L : Nat} {xs : Nat → Int32} {D : va_G} {z z2 : ClassId × ClassId} {cJ : ClassId} {q9 t9 a a2 : Nat → Nat} {o : Nat} {lv lk pu fa he : Nat → Int32} {n : Nat} {nv du ta : Nat → Int32} {w : Nat} {mp mi : Nat → Int32} {k : Nat} {nt fu re : Int32} {gn of : Nat → Int32} {th : Int32} {g : Nat → Int64} {r : Nat} (X : LX p l s m c b L xs D z z2 cJ q9 t9) (hI : IV lv lk fa he n nv du w k gn of) (hP : va_P D vwCl (oW o cJ g (xW z a lv lk pu fa he n nv du ta w mp mi k nt fu re) ++ mW z2 a2 th n w gn lk pu fa he nv of mp mi k nt fu re) H) (hD : va_D (nw s) (oW o cJ g (xW z a lv lk pu fa he n nv du ta w mp mi k nt fu re) ++ mW z2 a2 th n w gn lk pu fa he nv of mp mi k nt fu re)) (hS : va_S (nw s) s.heap H locs) (hcl : cells + 12 ≤ 601024) (hsl : slots + 100 ≤ 7293034) (hr : r + 2 < L) (hl : lv_has ls 9 [(0, .ref b), (1, .ref (a 0)), (2, .ref (a2 0)), (3, .ref o), (4, .int (nI r))]) (kk : ∀ (H1 : Heap) (locs1 : List Loc) (c1 s1 : Nat) (ls1 : Array Slot), Jn D z z2 cJ a a2 o s H1 locs1 → c1 ≤ cells + 11 → s1 ≤ slots + 94 → lv_has ls1 9 [(0, .ref b), (1, .ref (a 0)), (2, .ref (a2 0)), (3, .ref o), (4, .int (nI r))] → W p l e room_1 s m #[.ref b] below meth c H1 locs1 c1 s1 Q (F0 m 1948 ls1 [])) : W p l e room_1 s m #[.ref b] below meth c H locs cells slots Q (F0 m 756 ls []) := by
  obtain ⟨hC, hst, ⟨hX, hbl, hL⟩, ⟨hK, hK2, hJ⟩, hT, hN, hE⟩ := X
  have hx := hC.1
  have hb := hC.2.1
  have hA : ∀ q : Nat, s.heap.size ≤ q → nw s q := fun q h => h
  have hbA : ¬ nw s b := Nat.not_le.mpr hbl
  have hn := hI.1.1
  have hw := hI.1.2.1
  have hk := hI.1.2.2
  refine lv_aload_n hx hb dL_law_756 rfl (lv_at hl 1 rfl) ?_
  refine vp_callSi (W.runV (As := []) (rest := []) hC (c_X0_fund l ) (cwV 0 hC.2.2.2.2 (gi_V mM_L_152 mV_X0_fund mS_X0_fund mI_MissRegistry mC_X0_fund) rfl rfl rfl (by decide +kernel) ⟨Nat.le_of_ble_eq_true rfl, Nat.le_of_ble_eq_true rfl⟩) (xpre hK (wj_Pr (wj_Pl hP))) rfl rfl hl.1 rfl (lv_room (Nat.le_of_ble_eq_true rfl)) dL_law_757 ⟨(show _ ≤ 601024 by omega), (show _ ≤ 7293034 by omega)⟩) (fun r8 hr8 => ?_)
  rw [show r8 = fu from hr8]
  refine lv_aload_n hx hb dL_law_760 rfl (lv_at hl 2 rfl) ?_
  have hPM := wj_Pr hP
  have hDM := wj_Dr hD
  have hF := wj_Fr hD hS hA
  refine va_calli (va_runV (As := []) (rest := [.int fu]) hC (c_X1_fund l H.size ) (cwV 0 hC.2.2.2.2 (gi_V mM_L_155 mV_X1_fund mS_X1_fund mI_MissRegistryModel mC_X1_fund) rfl rfl rfl (by decide +kernel) ⟨Nat.le_of_ble_eq_true rfl, Nat.le_of_ble_eq_true rfl⟩) ⟨fun a1 U g mk q => ⟨q.1, q.2.1, ⟨q.2.2.1.1, va_K.moved (u := U) (U := U.calling g mk a1) (Vm.Alike.refl U.vm) q.2.2.1.2⟩, q.2.2.2⟩, va_recv hK2 hPM (ci := 1) (q0 := 0) rfl rfl, fun U hU hW => ⟨rfl, by rw [hU], ⟨by rw [hU]; exact hPM, va_K.moved hW.alike hK2⟩, hDM.weaken (fun _ _ _ _ => trivial)⟩⟩ rfl rfl hl.1 rfl (lv_room (Nat.le_of_ble_eq_true rfl)) dL_law_761 ⟨(show _ ≤ 601024 by omega), (show _ ≤ 7293034 by omega)⟩) hS (fun q _ h => hF q h) hF (fun r7 u7 t H locs ht hvm hw7 hB hz9 hk9 hS9 => ?_)
  obtain ⟨hP1, hK1, hD1⟩ := hB
  rw [ht] at hP1
  obtain ⟨hP, hD⟩ := wj_r hP hD hk9 hF hP1 hD1
  have hP : va_P D vwCl (oW o cJ g (xW z a lv lk pu fa he n nv du ta w mp mi k nt fu re) ++ mW z2 a2 0 n w gn lk pu fa he nv of mp mi k nt fu re) H := hP
  have hD : va_D (nw s) (oW o cJ g (xW z a lv lk pu fa he n nv du ta w mp mi k nt fu re) ++ mW z2 a2 0 n w gn lk pu fa he nv of mp mi k nt fu re) := hD
  have hS := hS9
  rw [show r7 = fu from hw7]
  refine lv_icmp_eq (tgt := 1948) hx hb dL_law_764 (by decide) (fun c_764 => ?_) (fun c_764 => ?_)
  · exact kk _ _ _ _ _ ⟨lv, lk, pu, fa, he, n, nv, du, ta, w, mp, mi, k, nt, fu, re, gn, of, 0, g, hI, hP, hD, hS⟩ (by omega) (by omega) (lv_sub hl [0, 1, 2, 3, 4] rfl)
  · exact absurd rfl c_764
set_option maxHeartbeats 8000000 in
set_option maxRecDepth 100000 in
theorem lc_14 {p : Program} {l : Launch} {e : Env} {s : State} {m : MethodId} {below : List Frame} {meth : Method} {c : Code} {H : Heap} {locs : List Loc} {cells slots : Nat} {Q : State → Prop} {ls : Array Slot} {b L : Nat} {xs : Nat → Int32} {D : va_G} {z z2 : ClassId × ClassId} {cJ : ClassId} {q9 t9 a a2 : Nat → Nat} {o : Nat} {lv lk pu fa he : Nat → Int32} {n : Nat} {nv du ta : Nat → Int32} {w : Nat} {mp mi : Nat → Int32} {k : Nat} {nt fu re : Int32} {gn of : Nat → Int32} {th : Int32} {g : Nat → Int64} {r : Nat} (X : LX p l s m c b L xs D z z2 cJ q9 t9) (hI : IV lv lk fa he n nv du w k gn of) (hP : va_P D vwCl (oW o cJ g (xW z a lv lk pu fa he n nv du ta w mp mi k nt fu re) ++ mW z2 a2 th n w gn lk pu fa he nv of mp mi k nt fu re) H) (hD : va_D (nw s) (oW o cJ g (xW z a lv lk pu fa he n nv du ta w mp mi k nt fu re) ++ mW z2 a2 th n w gn lk pu fa he nv of mp mi k nt fu re)) (hS : va_S (nw s) s.heap H locs) (hcl : cells + 12 ≤ 601024) (hsl : slots + 100 ≤ 7293034) (hr : r + 2 < L) (hl : lv_has ls 9 [(0, .ref b), (1, .ref (a 0)), (2, .ref (a2 0)), (3, .ref o), (4, .int (nI r))]) (kk : ∀ (H1 : Heap) (locs1 : List Loc) (c1 s1 : Nat) (ls1 : Array Slot), Jn D z z2 cJ a a2 o s H1 locs1 → c1 ≤ cells + 11 → s1 ≤ slots + 94 → lv_has ls1 9 [(0, .ref b), (1, .ref (a 0)), (2, .ref (a2 0)), (3, .ref o), (4, .int (nI r))] → W p l e room_1 s m #[.ref b] below meth c H1 locs1 c1 s1 Q (F0 m 1948 ls1 [])) : W p l e room_1 s m #[.ref b] below meth c H locs cells slots Q (F0 m 769 ls []) := by
  obtain ⟨hC, hst, ⟨hX, hbl, hL⟩, ⟨hK, hK2, hJ⟩, hT, hN, hE⟩ := X
  have hx := hC.1
  have hb := hC.2.1
  have hA : ∀ q : Nat, s.heap.size ≤ q → nw s q := fun q h => h
  have hbA : ¬ nw s b := Nat.not_le.mpr hbl
  have hn := hI.1.1
  have hw := hI.1.2.1
  have hk := hI.1.2.2
  refine lv_aload_n hx hb dL_law_769 rfl (lv_at hl 1 rfl) ?_
  refine vp_callSi (W.runV (As := []) (rest := []) hC (c_X0_refunded l ) (cwV 0 hC.2.2.2.2 (gi_V mM_L_156 mV_X0_refunded mS_X0_refunded mI_MissRegistry mC_X0_refunded) rfl rfl rfl (by decide +kernel) ⟨Nat.le_of_ble_eq_true rfl, Nat.le_of_ble_eq_true rfl⟩) (xpre hK (wj_Pr (wj_Pl hP))) rfl rfl hl.1 rfl (lv_room (Nat.le_of_ble_eq_true rfl)) dL_law_770 ⟨(show _ ≤ 601024 by omega), (show _ ≤ 7293034 by omega)⟩) (fun r8 hr8 => ?_)
  rw [show r8 = re from hr8]
  refine lv_aload_n hx hb dL_law_773 rfl (lv_at hl 2 rfl) ?_
  have hPM := wj_Pr hP
  have hDM := wj_Dr hD
  have hF := wj_Fr hD hS hA
  refine va_calli (va_runV (As := []) (rest := [.int re]) hC (c_X1_refunded l H.size ) (cwV 0 hC.2.2.2.2 (gi_V mM_L_159 mV_X1_refunded mS_X1_refunded mI_MissRegistryModel mC_X1_refunded) rfl rfl rfl (by decide +kernel) ⟨Nat.le_of_ble_eq_true rfl, Nat.le_of_ble_eq_true rfl⟩) ⟨fun a1 U g mk q => ⟨q.1, q.2.1, ⟨q.2.2.1.1, va_K.moved (u := U) (U := U.calling g mk a1) (Vm.Alike.refl U.vm) q.2.2.1.2⟩, q.2.2.2⟩, va_recv hK2 hPM (ci := 1) (q0 := 0) rfl rfl, fun U hU hW => ⟨rfl, by rw [hU], ⟨by rw [hU]; exact hPM, va_K.moved hW.alike hK2⟩, hDM.weaken (fun _ _ _ _ => trivial)⟩⟩ rfl rfl hl.1 rfl (lv_room (Nat.le_of_ble_eq_true rfl)) dL_law_774 ⟨(show _ ≤ 601024 by omega), (show _ ≤ 7293034 by omega)⟩) hS (fun q _ h => hF q h) hF (fun r7 u7 t H locs ht hvm hw7 hB hz9 hk9 hS9 => ?_)
  obtain ⟨hP1, hK1, hD1⟩ := hB
  rw [ht] at hP1
  obtain ⟨hP, hD⟩ := wj_r hP hD hk9 hF hP1 hD1
  have hP : va_P D vwCl (oW o cJ g (xW z a lv lk pu fa he n nv du ta w mp mi k nt fu re) ++ mW z2 a2 0 n w gn lk pu fa he nv of mp mi k nt fu re) H := hP
  have hD : va_D (nw s) (oW o cJ g (xW z a lv lk pu fa he n nv du ta w mp mi k nt fu re) ++ mW z2 a2 0 n w gn lk pu fa he nv of mp mi k nt fu re) := hD
  have hS := hS9
  rw [show r7 = re from hw7]
  refine lv_icmp_eq (tgt := 1948) hx hb dL_law_777 (by decide) (fun c_777 => ?_) (fun c_777 => ?_)
  · exact kk _ _ _ _ _ ⟨lv, lk, pu, fa, he, n, nv, du, ta, w, mp, mi, k, nt, fu, re, gn, of, 0, g, hI, hP, hD, hS⟩ (by omega) (by omega) (lv_sub hl [0, 1, 2, 3, 4] rfl)
  · exact absurd rfl c_777
set_option maxHeartbeats 8000000 in
set_option maxRecDepth 100000 in
theorem lc_15 {p : Program} {l : Launch} {e : Env} {s : State} {m : MethodId} {below : List Frame} {meth : Method} {c : Code} {H : Heap} {locs : List Loc} {cells slots : Nat} {Q : State → Prop} {ls : Array Slot} {b L : Nat} {xs : Nat → Int32} {D : va_G} {z z2 : ClassId × ClassId} {cJ : ClassId} {q9 t9 a a2 : Nat → Nat} {o : Nat} {lv lk pu fa he : Nat → Int32} {n : Nat} {nv du ta : Nat → Int32} {w : Nat} {mp mi : Nat → Int32} {k : Nat} {nt fu re : Int32} {gn of : Nat → Int32} {th : Int32} {g : Nat → Int64} {r : Nat} (X : LX p l s m c b L xs D z z2 cJ q9 t9) (hI : IV lv lk fa he n nv du w k gn of) (hP : va_P D vwCl (oW o cJ g (xW z a lv lk pu fa he n nv du ta w mp mi k nt fu re) ++ mW z2 a2 th n w gn lk pu fa he nv of mp mi k nt fu re) H) (hD : va_D (nw s) (oW o cJ g (xW z a lv lk pu fa he n nv du ta w mp mi k nt fu re) ++ mW z2 a2 th n w gn lk pu fa he nv of mp mi k nt fu re)) (hS : va_S (nw s) s.heap H locs) (hcl : cells + 12 ≤ 601024) (hsl : slots + 100 ≤ 7293034) (hr : r + 2 < L) (hl : lv_has ls 9 [(0, .ref b), (1, .ref (a 0)), (2, .ref (a2 0)), (3, .ref o), (4, .int (nI r))]) (kk : ∀ (H1 : Heap) (locs1 : List Loc) (c1 s1 : Nat) (ls1 : Array Slot), Jn D z z2 cJ a a2 o s H1 locs1 → c1 ≤ cells + 11 → s1 ≤ slots + 94 → lv_has ls1 9 [(0, .ref b), (1, .ref (a 0)), (2, .ref (a2 0)), (3, .ref o), (4, .int (nI r))] → W p l e room_1 s m #[.ref b] below meth c H1 locs1 c1 s1 Q (F0 m 1948 ls1 [])) : W p l e room_1 s m #[.ref b] below meth c H locs cells slots Q (F0 m 782 ls []) := by
  obtain ⟨hC, hst, ⟨hX, hbl, hL⟩, ⟨hK, hK2, hJ⟩, hT, hN, hE⟩ := X
  have hx := hC.1
  have hb := hC.2.1
  have hA : ∀ q : Nat, s.heap.size ≤ q → nw s q := fun q h => h
  have hbA : ¬ nw s b := Nat.not_le.mpr hbl
  have hn := hI.1.1
  have hw := hI.1.2.1
  have hk := hI.1.2.2
  refine lv_aload_n hx hb dL_law_782 rfl (lv_at hl 1 rfl) ?_
  refine vp_callSi (W.runV (As := []) (rest := []) hC (c_X0_misses l ) (cwV 0 hC.2.2.2.2 (gi_V mM_L_160 mV_X0_misses mS_X0_misses mI_MissRegistry mC_X0_misses) rfl rfl rfl (by decide +kernel) ⟨Nat.le_of_ble_eq_true rfl, Nat.le_of_ble_eq_true rfl⟩) (xpre hK (wj_Pr (wj_Pl hP))) rfl rfl hl.1 rfl (lv_room (Nat.le_of_ble_eq_true rfl)) dL_law_783 ⟨(show _ ≤ 601024 by omega), (show _ ≤ 7293034 by omega)⟩) (fun r8 hr8 => ?_)
  rw [show r8 = nI k from hr8]
  refine lv_aload_n hx hb dL_law_786 rfl (lv_at hl 2 rfl) ?_
  have hPM := wj_Pr hP
  have hDM := wj_Dr hD
  have hF := wj_Fr hD hS hA
  refine va_calli (va_runV (As := []) (rest := [.int (nI k)]) hC (c_X1_misses l H.size ) (cwV 0 hC.2.2.2.2 (gi_V mM_L_163 mV_X1_misses mS_X1_misses mI_MissRegistryModel mC_X1_misses) rfl rfl rfl (by decide +kernel) ⟨Nat.le_of_ble_eq_true rfl, Nat.le_of_ble_eq_true rfl⟩) ⟨fun a1 U g mk q => ⟨q.1, q.2.1, ⟨q.2.2.1.1, va_K.moved (u := U) (U := U.calling g mk a1) (Vm.Alike.refl U.vm) q.2.2.1.2⟩, q.2.2.2⟩, va_recv hK2 hPM (ci := 1) (q0 := 0) rfl rfl, fun U hU hW => ⟨rfl, by rw [hU], ⟨by rw [hU]; exact hPM, va_K.moved hW.alike hK2⟩, hDM.weaken (fun _ _ _ _ => trivial)⟩⟩ rfl rfl hl.1 rfl (lv_room (Nat.le_of_ble_eq_true rfl)) dL_law_787 ⟨(show _ ≤ 601024 by omega), (show _ ≤ 7293034 by omega)⟩) hS (fun q _ h => hF q h) hF (fun r7 u7 t H locs ht hvm hw7 hB hz9 hk9 hS9 => ?_)
  obtain ⟨hP1, hK1, hD1⟩ := hB
  rw [ht] at hP1
  obtain ⟨hP, hD⟩ := wj_r hP hD hk9 hF hP1 hD1
  have hP : va_P D vwCl (oW o cJ g (xW z a lv lk pu fa he n nv du ta w mp mi k nt fu re) ++ mW z2 a2 0 n w gn lk pu fa he nv of mp mi k nt fu re) H := hP
  have hD : va_D (nw s) (oW o cJ g (xW z a lv lk pu fa he n nv du ta w mp mi k nt fu re) ++ mW z2 a2 0 n w gn lk pu fa he nv of mp mi k nt fu re) := hD
  have hS := hS9
  rw [show r7 = nI k from hw7]
  refine lv_icmp_eq (tgt := 1948) hx hb dL_law_790 (by decide) (fun c_790 => ?_) (fun c_790 => ?_)
  · exact kk _ _ _ _ _ ⟨lv, lk, pu, fa, he, n, nv, du, ta, w, mp, mi, k, nt, fu, re, gn, of, 0, g, hI, hP, hD, hS⟩ (by omega) (by omega) (lv_sub hl [0, 1, 2, 3, 4] rfl)
  · exact absurd rfl c_790

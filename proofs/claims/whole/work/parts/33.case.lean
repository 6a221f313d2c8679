set_option maxHeartbeats 8000000 in
set_option maxRecDepth 100000 in
theorem lc_16 {p : Program} {l : Launch} {e : Env} {s : State} {m : MethodId} {below : List Frame} {meth : Method} {c : Code} {H : Heap} {locs : List Loc} {cells slots : Nat} {Q : State → Prop} {ls : Array Slot} {b L : Nat} {xs : Nat → Int32} {D : va_G} {z z2 : ClassId × ClassId} {cJ : ClassId} {q9 t9 a a2 : Nat → Nat} {o : Nat} {lv lk pu fa he : Nat → Int32} {n : Nat} {nv du ta : Nat → Int32} {w : Nat} {mp mi : Nat → Int32} {k : Nat} {nt fu re : Int32} {gn of : Nat → Int32} {th : Int32} {g : Nat → Int64} {r : Nat} (X : LX p l s m c b L xs D z z2 cJ q9 t9) (hI : IV lv lk fa he n nv du w k gn of) (hP : va_P D vwCl (oW o cJ g (xW z a lv lk pu fa he n nv du ta w mp mi k nt fu re) ++ mW z2 a2 th n w gn lk pu fa he nv of mp mi k nt fu re) H) (hD : va_D (nw s) (oW o cJ g (xW z a lv lk pu fa he n nv du ta w mp mi k nt fu re) ++ mW z2 a2 th n w gn lk pu fa he nv of mp mi k nt fu re)) (hS : va_S (nw s) s.heap H locs) (hcl : cells + 12 ≤ 601024) (hsl : slots + 100 ≤ 7293034) (hr : r + 2 < L) (hl : lv_has ls 9 [(0, .ref b), (1, .ref (a 0)), (2, .ref (a2 0)), (3, .ref o), (4, .int (nI r))]) (kk : ∀ (H1 : Heap) (locs1 : List Loc) (c1 s1 : Nat) (ls1 : Array Slot), Jn D z z2 cJ a a2 o s H1 locs1 → c1 ≤ cells + 11 → s1 ≤ slots + 94 → lv_has ls1 9 [(0, .ref b), (1, .ref (a 0)), (2, .ref (a2 0)), (3, .ref o), (4, .int (nI r))] → W p l e room_1 s m #[.ref b] below meth c H1 locs1 c1 s1 Q (F0 m 1948 ls1 [])) : W p l e room_1 s m #[.ref b] below meth c H locs cells slots Q (F0 m 795 ls []) := by
  obtain ⟨hC, hst, ⟨hX, hbl, hL⟩, ⟨hK, hK2, hJ⟩, hT, hN, hE⟩ := X
  have hx := hC.1
  have hb := hC.2.1
  have hA : ∀ q : Nat, s.heap.size ≤ q → nw s q := fun q h => h
  have hbA : ¬ nw s b := Nat.not_le.mpr hbl
  have hn := hI.1.1
  have hw := hI.1.2.1
  have hk := hI.1.2.2
  refine lv_aload_n hx hb dL_law_795 rfl (lv_at hl 1 rfl) ?_
  refine vp_callSi (W.runV (As := []) (rest := []) hC (c_X0_certified l hk) (cwV 0 hC.2.2.2.2 (gi_V mM_L_164 mV_X0_certified mS_X0_certified mI_MissRegistry mC_X0_certified) rfl rfl rfl (by decide +kernel) ⟨Nat.le_of_ble_eq_true rfl, Nat.le_of_ble_eq_true rfl⟩) (xpre hK (wj_Pr (wj_Pl hP))) rfl rfl hl.1 rfl (lv_room (Nat.le_of_ble_eq_true rfl)) dL_law_796 ⟨(show _ ≤ 601024 by omega), (show _ ≤ 7293034 by omega)⟩) (fun r8 hr8 => ?_)
  rw [show r8 = sp_cert mi k from hr8]
  refine lv_aload_n hx hb dL_law_799 rfl (lv_at hl 2 rfl) ?_
  have hPM := wj_Pr hP
  have hDM := wj_Dr hD
  have hF := wj_Fr hD hS hA
  refine va_calli (va_runV (As := []) (rest := [.int (sp_cert mi k)]) hC (c_X1_certified l H.size hk) (cwV 0 hC.2.2.2.2 (gi_V mM_L_167 mV_X1_certified mS_X1_certified mI_MissRegistryModel mC_X1_certified) rfl rfl rfl (by decide +kernel) ⟨Nat.le_of_ble_eq_true rfl, Nat.le_of_ble_eq_true rfl⟩) ⟨fun a1 U g mk q => ⟨q.1, q.2.1, ⟨q.2.2.1.1, va_K.moved (u := U) (U := U.calling g mk a1) (Vm.Alike.refl U.vm) q.2.2.1.2⟩, q.2.2.2⟩, va_recv hK2 hPM (ci := 1) (q0 := 0) rfl rfl, fun U hU hW => ⟨rfl, by rw [hU], ⟨by rw [hU]; exact hPM, va_K.moved hW.alike hK2⟩, hDM.weaken (fun _ _ _ _ => trivial)⟩⟩ rfl rfl hl.1 rfl (lv_room (Nat.le_of_ble_eq_true rfl)) dL_law_800 ⟨(show _ ≤ 601024 by omega), (show _ ≤ 7293034 by omega)⟩) hS (fun q _ h => hF q h) hF (fun r7 u7 t H locs ht hvm hw7 hB hz9 hk9 hS9 => ?_)
  obtain ⟨hP1, hK1, hD1⟩ := hB
  rw [ht] at hP1
  obtain ⟨hP, hD⟩ := wj_r hP hD hk9 hF hP1 hD1
  have hP : va_P D vwCl (oW o cJ g (xW z a lv lk pu fa he n nv du ta w mp mi k nt fu re) ++ mW z2 a2 0 n w gn lk pu fa he nv of mp mi k nt fu re) H := hP
  have hD : va_D (nw s) (oW o cJ g (xW z a lv lk pu fa he n nv du ta w mp mi k nt fu re) ++ mW z2 a2 0 n w gn lk pu fa he nv of mp mi k nt fu re) := hD
  have hS := hS9
  rw [show r7 = sp_cert mi k from hw7]
  refine lv_icmp_eq (tgt := 1948) hx hb dL_law_803 (by decide) (fun c_803 => ?_) (fun c_803 => ?_)
  · exact kk _ _ _ _ _ ⟨lv, lk, pu, fa, he, n, nv, du, ta, w, mp, mi, k, nt, fu, re, gn, of, 0, g, hI, hP, hD, hS⟩ (by omega) (by omega) (lv_sub hl [0, 1, 2, 3, 4] rfl)
  · exact absurd rfl c_803
set_option maxHeartbeats 8000000 in
set_option maxRecDepth 100000 in
theorem lc_17 {p : Program} {l : Launch} {e : Env} {s : State} {m : MethodId} {below : List Frame} {meth : Method} {c : Code} {H : Heap} {locs : List Loc} {cells slots : Nat} {Q : State → Prop} {ls : Array Slot} {b L : Nat} {xs : Nat → Int32} {D : va_G} {z z2 : ClassId × ClassId} {cJ : ClassId} {q9 t9 a a2 : Nat → Nat} {o : Nat} {lv lk pu fa he : Nat → Int32} {n : Nat} {nv du ta : Nat → Int32} {w : Nat} {mp mi : Nat → Int32} {k : Nat} {nt fu re : Int32} {gn of : Nat → Int32} {th : Int32} {g : Nat → Int64} {r : Nat} (X : LX p l s m c b L xs D z z2 cJ q9 t9) (hI : IV lv lk fa he n nv du w k gn of) (hP : va_P D vwCl (oW o cJ g (xW z a lv lk pu fa he n nv du ta w mp mi k nt fu re) ++ mW z2 a2 th n w gn lk pu fa he nv of mp mi k nt fu re) H) (hD : va_D (nw s) (oW o cJ g (xW z a lv lk pu fa he n nv du ta w mp mi k nt fu re) ++ mW z2 a2 th n w gn lk pu fa he nv of mp mi k nt fu re)) (hS : va_S (nw s) s.heap H locs) (hcl : cells + 12 ≤ 601024) (hsl : slots + 100 ≤ 7293034) (hr : r + 2 < L) (hl : lv_has ls 9 [(0, .ref b), (1, .ref (a 0)), (2, .ref (a2 0)), (3, .ref o), (4, .int (nI r))]) (kk : ∀ (H1 : Heap) (locs1 : List Loc) (c1 s1 : Nat) (ls1 : Array Slot), Jn D z z2 cJ a a2 o s H1 locs1 → c1 ≤ cells + 11 → s1 ≤ slots + 94 → lv_has ls1 9 [(0, .ref b), (1, .ref (a 0)), (2, .ref (a2 0)), (3, .ref o), (4, .int (nI r))] → W p l e room_1 s m #[.ref b] below meth c H1 locs1 c1 s1 Q (F0 m 1948 ls1 [])) : W p l e room_1 s m #[.ref b] below meth c H locs cells slots Q (F0 m 808 ls []) := by
  obtain ⟨hC, hst, ⟨hX, hbl, hL⟩, ⟨hK, hK2, hJ⟩, hT, hN, hE⟩ := X
  have hx := hC.1
  have hb := hC.2.1
  have hA : ∀ q : Nat, s.heap.size ≤ q → nw s q := fun q h => h
  have hbA : ¬ nw s b := Nat.not_le.mpr hbl
  have hn := hI.1.1
  have hw := hI.1.2.1
  have hk := hI.1.2.2
  obtain ⟨x, hx1⟩ : ∃ x : Int32, xs (r + 1) = x := ⟨_, rfl⟩
  obtain ⟨y, hx2⟩ : ∃ y : Int32, xs (r + 2) = y := ⟨_, rfl⟩
  by_cases hp : sp_isP n x = 0
  · refine lv_aload_n hx hb dL_law_808 rfl (lv_at hl 1 rfl) ?_
    refine lv_aload_n hx hb dL_law_809 rfl (lv_at hl 0 rfl) ?_
    refine lv_iload hx hb dL_law_810 (lv_at hl 4 rfl) ?_
    refine lv_iconst (v := 1) hx hb dL_law_812 (by decide) ?_
    refine lv_iadd hx hb dL_law_813 ?_
    refine w_sld hx hb hX hbl hbA hS hL (r + 1) (nI_1 r) (by omega) hx1 dL_law_814 ?_
    refine lv_aload_n hx hb dL_law_815 rfl (lv_at hl 3 rfl) ?_
    have hPO := wj_Pl hP
    have hDO := wj_Dl hD
    have hF := wj_Fl hD hS hA
    refine va_calli (vx_runSW (As := [.ref (a 0), .int x, .ref o]) (rest := []) hC (w_isAlive_a l hst H.size x hp) (vx_cwSW 3 hC.2.2.2.2 (gi_S mM_L_168 mT_L_isAlive mI_MissRegistryLaw mC_L_isAlive) rfl rfl rfl (by decide +kernel) ⟨Nat.le_of_ble_eq_true rfl, Nat.le_of_ble_eq_true rfl⟩) ⟨fun a1 U g mk q => ⟨q.1, q.2.1, q.2.2.1, va_K.moved (u := U) (U := U.calling g mk a1) (Vm.Alike.refl U.vm) q.2.2.2.1, va_K.moved (u := U) (U := U.calling g mk a1) (Vm.Alike.refl U.vm) q.2.2.2.2.1, ⟨q.2.2.2.2.2.1, tH.same (u := U) (U := U.calling g mk a1) rfl q.2.2.2.2.2.2.1, tN.moved (u := U) (U := U.calling g mk a1) (Vm.Alike.refl U.vm) q.2.2.2.2.2.2.2⟩⟩, fun U hU hW => ⟨rfl, by rw [hU], by rw [hU]; exact hPO, va_K.moved hW.alike hK, va_K.moved hW.alike hJ, hDO.weaken (fun _ _ _ _ => trivial), by rw [hU]; exact (hT.at hS).warm hW, hN.moved hW.alike⟩⟩ rfl rfl hl.1 rfl (lv_room (Nat.le_of_ble_eq_true rfl)) dL_law_816 ⟨(show _ ≤ 601024 by omega), (show _ ≤ 7293034 by omega)⟩) hS (fun q _ h => hF q h) hF (fun r9 u9 t H locs ht hvm hw9 hB hz9 hk9 hS9 => ?_)
    obtain ⟨hP1, hD1⟩ := hB
    rw [ht] at hP1
    obtain ⟨hP, hD⟩ := wj_l hP hD hk9 hF hP1 hD1
    rw [show r9 = 1 from hw9]
    have hP : va_P D vwCl (oW o cJ g (xW z a lv lk pu fa he n nv du ta w mp mi k nt fu re) ++ mW z2 a2 th n w gn lk pu fa he nv of mp mi k nt fu re) H := hP
    have hD : va_D (nw s) (oW o cJ g (xW z a lv lk pu fa he n nv du ta w mp mi k nt fu re) ++ mW z2 a2 th n w gn lk pu fa he nv of mp mi k nt fu re) := hD
    have hS := hS9
    refine lv_istore (lv' := [(5, .int 1), (0, .ref b), (1, .ref (a 0)), (2, .ref (a2 0)), (3, .ref o), (4, .int (nI r))]) hx hb dL_law_819 hl (by decide) rfl (fun ls hl => ?_)
    refine lv_aload_n hx hb dL_law_821 rfl (lv_at hl 3 rfl) ?_
    refine lv_aload_n hx hb dL_law_822 rfl (lv_at hl 1 rfl) ?_
    refine lv_iload hx hb dL_law_823 (lv_at hl 5 rfl) ?_
    refine lv_iconst (v := 1) hx hb dL_law_825 (by decide) ?_
    refine lv_iadd hx hb dL_law_826 ?_
    refine w_sld hx hb hX hbl hbA hS hL (r + 1) (nI_1 r) (by omega) hx1 dL_law_827 ?_
    have hPM := wj_Pr hP
    have hDM := wj_Dr hD
    have hF := wj_Fr hD hS hA
    refine va_calli (va_runV (As := [.int x]) (rest := []) hC (c_X1_isAlive_a l H.size x hn hp) (cwV 1 hC.2.2.2.2 (gi_V mM_L_170 mV_X1_isAlive mS_X1_isAlive mI_MissRegistryModel mC_X1_isAlive) rfl rfl rfl (by decide +kernel) ⟨Nat.le_of_ble_eq_true rfl, Nat.le_of_ble_eq_true rfl⟩) ⟨fun a1 U g mk q => ⟨q.1, q.2.1, ⟨q.2.2.1.1, va_K.moved (u := U) (U := U.calling g mk a1) (Vm.Alike.refl U.vm) q.2.2.1.2⟩, q.2.2.2⟩, va_recv hK2 hPM (ci := 1) (q0 := 0) rfl rfl, fun U hU hW => ⟨rfl, by rw [hU], ⟨by rw [hU]; exact hPM, va_K.moved hW.alike hK2⟩, hDM.weaken (fun _ _ _ _ => trivial)⟩⟩ rfl rfl hl.1 rfl (lv_room (Nat.le_of_ble_eq_true rfl)) dL_law_828 ⟨(show _ ≤ 601024 by omega), (show _ ≤ 7293034 by omega)⟩) hS (fun q _ h => hF q h) hF (fun r7 u7 t H locs ht hvm hw7 hB hz9 hk9 hS9 => ?_)
    obtain ⟨hP1, hK1, hD1⟩ := hB
    rw [ht] at hP1
    obtain ⟨hP, hD⟩ := wj_r hP hD hk9 hF hP1 hD1
    have hP : va_P D vwCl (oW o cJ g (xW z a lv lk pu fa he n nv du ta w mp mi k nt fu re) ++ mW z2 a2 1 n w gn lk pu fa he nv of mp mi k nt fu re) H := hP
    have hD : va_D (nw s) (oW o cJ g (xW z a lv lk pu fa he n nv du ta w mp mi k nt fu re) ++ mW z2 a2 1 n w gn lk pu fa he nv of mp mi k nt fu re) := hD
    have hS := hS9
    rw [show r7 = 0 from hw7]
    refine lv_istore (lv' := [(6, .int 0), (5, .int 1), (0, .ref b), (1, .ref (a 0)), (2, .ref (a2 0)), (3, .ref o), (4, .int (nI r))]) hx hb dL_law_831 hl (by decide) rfl (fun ls hl => ?_)
    refine lv_aload_n hx hb dL_law_833 rfl (lv_at hl 4 rfl) ?_
    refine vp_callSi (W.runV (As := []) (rest := []) hC (c_X1_thrown l) (cwV 0 hC.2.2.2.2 (gi_V mM_L_106 mV_X1_thrown mS_X1_thrown mI_MissRegistryModel mC_X1_thrown) rfl rfl rfl (by decide +kernel) ⟨Nat.le_of_ble_eq_true rfl, Nat.le_of_ble_eq_true rfl⟩) (mpre hK2 (wj_Pr hP)) rfl rfl hl.1 rfl (lv_room (Nat.le_of_ble_eq_true rfl)) dL_law_834 ⟨(show _ ≤ 601024 by omega), (show _ ≤ 7293034 by omega)⟩) (fun r8 hr8 => ?_)
    rw [show r8 = 1 from hr8]
    refine lv_iload hx hb dL_law_837 (lv_at hl 1 rfl) ?_
    refine lv_icmp_eq (tgt := 844) hx hb dL_law_839 (by decide) (fun c_839 => ?_) (fun c_839 => ?_)
    · refine lv_iload hx hb dL_law_844 (lv_at hl 1 rfl) ?_
      refine lv_if_ne (tgt := 868) hx hb dL_law_846 (by decide) (fun c_846 => ?_) (fun c_846 => ?_)
      · refine lv_goto (tgt := 1948) hx hb dL_law_868 (by decide) ?_
        exact kk _ _ _ _ _ ⟨lv, lk, pu, fa, he, n, nv, du, ta, w, mp, mi, k, nt, fu, re, gn, of, 1, g, hI, hP, hD, hS⟩ (by omega) (by omega) (lv_sub hl [2, 3, 4, 5, 6] rfl)
      · exact absurd c_846 (by decide)
    · exact absurd rfl c_839
  · obtain ⟨i, hi, exi⟩ := isP_ex (by omega) hp
    subst exi
    refine lv_aload_n hx hb dL_law_808 rfl (lv_at hl 1 rfl) ?_
    refine lv_aload_n hx hb dL_law_809 rfl (lv_at hl 0 rfl) ?_
    refine lv_iload hx hb dL_law_810 (lv_at hl 4 rfl) ?_
    refine lv_iconst (v := 1) hx hb dL_law_812 (by decide) ?_
    refine lv_iadd hx hb dL_law_813 ?_
    refine w_sld hx hb hX hbl hbA hS hL (r + 1) (nI_1 r) (by omega) hx1 dL_law_814 ?_
    refine lv_aload_n hx hb dL_law_815 rfl (lv_at hl 3 rfl) ?_
    have hPO := wj_Pl hP
    have hDO := wj_Dl hD
    have hF := wj_Fl hD hS hA
    refine va_calli (vx_runSW (As := [.ref (a 0), .int (nI i), .ref o]) (rest := []) hC (w_isAlive l H.size i hi hn (hI.2.1.1.1 i hi).1) (vx_cwSW 3 hC.2.2.2.2 (gi_S mM_L_168 mT_L_isAlive mI_MissRegistryLaw mC_L_isAlive) rfl rfl rfl (by decide +kernel) ⟨Nat.le_of_ble_eq_true rfl, Nat.le_of_ble_eq_true rfl⟩) ⟨fun a1 U g mk q => ⟨q.1, q.2.1, q.2.2.1, va_K.moved (u := U) (U := U.calling g mk a1) (Vm.Alike.refl U.vm) q.2.2.2.1, va_K.moved (u := U) (U := U.calling g mk a1) (Vm.Alike.refl U.vm) q.2.2.2.2.1, q.2.2.2.2.2⟩, fun U hU hW => ⟨rfl, by rw [hU], by rw [hU]; exact hPO, va_K.moved hW.alike hK, va_K.moved hW.alike hJ, hDO.weaken (fun _ _ _ _ => trivial)⟩⟩ rfl rfl hl.1 rfl (lv_room (Nat.le_of_ble_eq_true rfl)) dL_law_816 ⟨(show _ ≤ 601024 by omega), (show _ ≤ 7293034 by omega)⟩) hS (fun q _ h => hF q h) hF (fun r9 u9 t H locs ht hvm hw9 hB hz9 hk9 hS9 => ?_)
    obtain ⟨hP1, hD1⟩ := hB
    rw [ht] at hP1
    obtain ⟨hP, hD⟩ := wj_l hP hD hk9 hF hP1 hD1
    obtain ⟨hr9, hu9⟩ := hw9
    rw [hr9]
    have hP : va_P D vwCl (oW o cJ u9 (xW z a lv lk pu fa he n nv du ta w mp mi k nt fu re) ++ mW z2 a2 th n w gn lk pu fa he nv of mp mi k nt fu re) H := hP
    have hD : va_D (nw s) (oW o cJ u9 (xW z a lv lk pu fa he n nv du ta w mp mi k nt fu re) ++ mW z2 a2 th n w gn lk pu fa he nv of mp mi k nt fu re) := hD
    have hS := hS9
    refine lv_istore (lv' := [(5, .int 0), (0, .ref b), (1, .ref (a 0)), (2, .ref (a2 0)), (3, .ref o), (4, .int (nI r))]) hx hb dL_law_819 hl (by decide) rfl (fun ls hl => ?_)
    refine lv_aload_n hx hb dL_law_821 rfl (lv_at hl 3 rfl) ?_
    refine lv_aload_n hx hb dL_law_822 rfl (lv_at hl 1 rfl) ?_
    refine lv_iload hx hb dL_law_823 (lv_at hl 5 rfl) ?_
    refine lv_iconst (v := 1) hx hb dL_law_825 (by decide) ?_
    refine lv_iadd hx hb dL_law_826 ?_
    refine w_sld hx hb hX hbl hbA hS hL (r + 1) (nI_1 r) (by omega) hx1 dL_law_827 ?_
    have hPM := wj_Pr hP
    have hDM := wj_Dr hD
    have hF := wj_Fr hD hS hA
    refine va_calli (va_runV (As := [.int (nI i)]) (rest := []) hC (c_X1_isAlive l H.size i hi hn) (cwV 1 hC.2.2.2.2 (gi_V mM_L_170 mV_X1_isAlive mS_X1_isAlive mI_MissRegistryModel mC_X1_isAlive) rfl rfl rfl (by decide +kernel) ⟨Nat.le_of_ble_eq_true rfl, Nat.le_of_ble_eq_true rfl⟩) ⟨fun a1 U g mk q => ⟨q.1, q.2.1, ⟨q.2.2.1.1, va_K.moved (u := U) (U := U.calling g mk a1) (Vm.Alike.refl U.vm) q.2.2.1.2⟩, q.2.2.2⟩, va_recv hK2 hPM (ci := 1) (q0 := 0) rfl rfl, fun U hU hW => ⟨rfl, by rw [hU], ⟨by rw [hU]; exact hPM, va_K.moved hW.alike hK2⟩, hDM.weaken (fun _ _ _ _ => trivial)⟩⟩ rfl rfl hl.1 rfl (lv_room (Nat.le_of_ble_eq_true rfl)) dL_law_828 ⟨(show _ ≤ 601024 by omega), (show _ ≤ 7293034 by omega)⟩) hS (fun q _ h => hF q h) hF (fun r7 u7 t H locs ht hvm hw7 hB hz9 hk9 hS9 => ?_)
    obtain ⟨hP1, hK1, hD1⟩ := hB
    rw [ht] at hP1
    obtain ⟨hP, hD⟩ := wj_r hP hD hk9 hF hP1 hD1
    have hP : va_P D vwCl (oW o cJ u9 (xW z a lv lk pu fa he n nv du ta w mp mi k nt fu re) ++ mW z2 a2 0 n w gn lk pu fa he nv of mp mi k nt fu re) H := hP
    have hD : va_D (nw s) (oW o cJ u9 (xW z a lv lk pu fa he n nv du ta w mp mi k nt fu re) ++ mW z2 a2 0 n w gn lk pu fa he nv of mp mi k nt fu re) := hD
    have hS := hS9
    rw [show r7 = sp_not (gn i) from hw7]
    refine lv_istore (lv' := [(6, .int (sp_not (gn i))), (5, .int 0), (0, .ref b), (1, .ref (a 0)), (2, .ref (a2 0)), (3, .ref o), (4, .int (nI r))]) hx hb dL_law_831 hl (by decide) rfl (fun ls hl => ?_)
    refine lv_aload_n hx hb dL_law_833 rfl (lv_at hl 4 rfl) ?_
    refine vp_callSi (W.runV (As := []) (rest := []) hC (c_X1_thrown l) (cwV 0 hC.2.2.2.2 (gi_V mM_L_106 mV_X1_thrown mS_X1_thrown mI_MissRegistryModel mC_X1_thrown) rfl rfl rfl (by decide +kernel) ⟨Nat.le_of_ble_eq_true rfl, Nat.le_of_ble_eq_true rfl⟩) (mpre hK2 (wj_Pr hP)) rfl rfl hl.1 rfl (lv_room (Nat.le_of_ble_eq_true rfl)) dL_law_834 ⟨(show _ ≤ 601024 by omega), (show _ ≤ 7293034 by omega)⟩) (fun r8 hr8 => ?_)
    rw [show r8 = 0 from hr8]
    refine lv_iload hx hb dL_law_837 (lv_at hl 1 rfl) ?_
    refine lv_icmp_eq (tgt := 844) hx hb dL_law_839 (by decide) (fun c_839 => ?_) (fun c_839 => ?_)
    · refine lv_iload hx hb dL_law_844 (lv_at hl 1 rfl) ?_
      refine lv_if_ne (tgt := 868) hx hb dL_law_846 (by decide) (fun c_846 => ?_) (fun c_846 => ?_)
      · exact absurd rfl c_846
      · refine lv_aload_n hx hb dL_law_849 rfl (lv_at hl 5 rfl) ?_
        refine lv_iconst (v := 0) hx hb dL_law_850 (by decide) ?_
        refine w_lald hC hJ (wj_Pl hP) dL_law_851 ?_
        refine lv_iload hx hb dL_law_852 (lv_at hl 0 rfl) ?_
        refine lv_if_eq (tgt := 861) hx hb dL_law_854 (by decide) (fun c_854 => ?_) (fun c_854 => ?_)
        · refine lv_lconst (v := 0) hx hb dL_law_861 rfl ?_
          refine w_lcmp hx hb dL_law_862 (hu9.trans (by unfold b64; rw [if_pos (show _ from (hI.2.1.1.eq hi) ▸ c_854)])) ?_
          refine lv_if_eq (tgt := 868) hx hb dL_law_863 (by decide) (fun c_863 => ?_) (fun c_863 => ?_)
          · refine lv_goto (tgt := 1948) hx hb dL_law_868 (by decide) ?_
            exact kk _ _ _ _ _ ⟨lv, lk, pu, fa, he, n, nv, du, ta, w, mp, mi, k, nt, fu, re, gn, of, 0, u9, hI, hP, hD, hS⟩ (by omega) (by omega) (lv_sub hl [2, 3, 4, 5, 6] rfl)
          · exact absurd rfl c_863
        · refine lv_lconst (v := 1) hx hb dL_law_857 rfl ?_
          refine lv_goto (tgt := 862) hx hb dL_law_858 (by decide) ?_
          refine w_lcmp hx hb dL_law_862 (hu9.trans (by unfold b64; rw [if_neg (show _ from (hI.2.1.1.eq hi) ▸ c_854)])) ?_
          refine lv_if_eq (tgt := 868) hx hb dL_law_863 (by decide) (fun c_863 => ?_) (fun c_863 => ?_)
          · refine lv_goto (tgt := 1948) hx hb dL_law_868 (by decide) ?_
            exact kk _ _ _ _ _ ⟨lv, lk, pu, fa, he, n, nv, du, ta, w, mp, mi, k, nt, fu, re, gn, of, 0, u9, hI, hP, hD, hS⟩ (by omega) (by omega) (lv_sub hl [2, 3, 4, 5, 6] rfl)
          · exact absurd rfl c_863
    · exact absurd rfl c_839
set_option maxHeartbeats 8000000 in
set_option maxRecDepth 100000 in
theorem lc_18 {p : Program} {l : Launch} {e : Env} {s : State} {m : MethodId} {below : List Frame} {meth : Method} {c : Code} {H : Heap} {locs : List Loc} {cells slots : Nat} {Q : State → Prop} {ls : Array Slot} {b L : Nat} {xs : Nat → Int32} {D : va_G} {z z2 : ClassId × ClassId} {cJ : ClassId} {q9 t9 a a2 : Nat → Nat} {o : Nat} {lv lk pu fa he : Nat → Int32} {n : Nat} {nv du ta : Nat → Int32} {w : Nat} {mp mi : Nat → Int32} {k : Nat} {nt fu re : Int32} {gn of : Nat → Int32} {th : Int32} {g : Nat → Int64} {r : Nat} (X : LX p l s m c b L xs D z z2 cJ q9 t9) (hI : IV lv lk fa he n nv du w k gn of) (hP : va_P D vwCl (oW o cJ g (xW z a lv lk pu fa he n nv du ta w mp mi k nt fu re) ++ mW z2 a2 th n w gn lk pu fa he nv of mp mi k nt fu re) H) (hD : va_D (nw s) (oW o cJ g (xW z a lv lk pu fa he n nv du ta w mp mi k nt fu re) ++ mW z2 a2 th n w gn lk pu fa he nv of mp mi k nt fu re)) (hS : va_S (nw s) s.heap H locs) (hcl : cells + 12 ≤ 601024) (hsl : slots + 100 ≤ 7293034) (hr : r + 2 < L) (hl : lv_has ls 9 [(0, .ref b), (1, .ref (a 0)), (2, .ref (a2 0)), (3, .ref o), (4, .int (nI r))]) (kk : ∀ (H1 : Heap) (locs1 : List Loc) (c1 s1 : Nat) (ls1 : Array Slot), Jn D z z2 cJ a a2 o s H1 locs1 → c1 ≤ cells + 11 → s1 ≤ slots + 94 → lv_has ls1 9 [(0, .ref b), (1, .ref (a 0)), (2, .ref (a2 0)), (3, .ref o), (4, .int (nI r))] → W p l e room_1 s m #[.ref b] below meth c H1 locs1 c1 s1 Q (F0 m 1948 ls1 [])) : W p l e room_1 s m #[.ref b] below meth c H locs cells slots Q (F0 m 871 ls []) := by
  obtain ⟨hC, hst, ⟨hX, hbl, hL⟩, ⟨hK, hK2, hJ⟩, hT, hN, hE⟩ := X
  have hx := hC.1
  have hb := hC.2.1
  have hA : ∀ q : Nat, s.heap.size ≤ q → nw s q := fun q h => h
  have hbA : ¬ nw s b := Nat.not_le.mpr hbl
  have hn := hI.1.1
  have hw := hI.1.2.1
  have hk := hI.1.2.2
  obtain ⟨x, hx1⟩ : ∃ x : Int32, xs (r + 1) = x := ⟨_, rfl⟩
  obtain ⟨y, hx2⟩ : ∃ y : Int32, xs (r + 2) = y := ⟨_, rfl⟩
  by_cases hp : sp_isP n x = 0
  · refine lv_aload_n hx hb dL_law_871 rfl (lv_at hl 1 rfl) ?_
    refine lv_aload_n hx hb dL_law_872 rfl (lv_at hl 0 rfl) ?_
    refine lv_iload hx hb dL_law_873 (lv_at hl 4 rfl) ?_
    refine lv_iconst (v := 1) hx hb dL_law_875 (by decide) ?_
    refine lv_iadd hx hb dL_law_876 ?_
    refine w_sld hx hb hX hbl hbA hS hL (r + 1) (nI_1 r) (by omega) hx1 dL_law_877 ?_
    refine lv_aload_n hx hb dL_law_878 rfl (lv_at hl 3 rfl) ?_
    have hPO := wj_Pl hP
    have hDO := wj_Dl hD
    have hF := wj_Fl hD hS hA
    refine va_calli (vx_runSW (As := [.ref (a 0), .int x, .ref o]) (rest := []) hC (w_luckOf_a l hst H.size x hp) (vx_cwSW 3 hC.2.2.2.2 (gi_S mM_L_171 mT_L_luckOf mI_MissRegistryLaw mC_L_luckOf) rfl rfl rfl (by decide +kernel) ⟨Nat.le_of_ble_eq_true rfl, Nat.le_of_ble_eq_true rfl⟩) ⟨fun a1 U g mk q => ⟨q.1, q.2.1, q.2.2.1, va_K.moved (u := U) (U := U.calling g mk a1) (Vm.Alike.refl U.vm) q.2.2.2.1, va_K.moved (u := U) (U := U.calling g mk a1) (Vm.Alike.refl U.vm) q.2.2.2.2.1, ⟨q.2.2.2.2.2.1, tH.same (u := U) (U := U.calling g mk a1) rfl q.2.2.2.2.2.2.1, tN.moved (u := U) (U := U.calling g mk a1) (Vm.Alike.refl U.vm) q.2.2.2.2.2.2.2⟩⟩, fun U hU hW => ⟨rfl, by rw [hU], by rw [hU]; exact hPO, va_K.moved hW.alike hK, va_K.moved hW.alike hJ, hDO.weaken (fun _ _ _ _ => trivial), by rw [hU]; exact (hT.at hS).warm hW, hN.moved hW.alike⟩⟩ rfl rfl hl.1 rfl (lv_room (Nat.le_of_ble_eq_true rfl)) dL_law_879 ⟨(show _ ≤ 601024 by omega), (show _ ≤ 7293034 by omega)⟩) hS (fun q _ h => hF q h) hF (fun r9 u9 t H locs ht hvm hw9 hB hz9 hk9 hS9 => ?_)
    obtain ⟨hP1, hD1⟩ := hB
    rw [ht] at hP1
    obtain ⟨hP, hD⟩ := wj_l hP hD hk9 hF hP1 hD1
    rw [show r9 = 1 from hw9]
    have hP : va_P D vwCl (oW o cJ g (xW z a lv lk pu fa he n nv du ta w mp mi k nt fu re) ++ mW z2 a2 th n w gn lk pu fa he nv of mp mi k nt fu re) H := hP
    have hD : va_D (nw s) (oW o cJ g (xW z a lv lk pu fa he n nv du ta w mp mi k nt fu re) ++ mW z2 a2 th n w gn lk pu fa he nv of mp mi k nt fu re) := hD
    have hS := hS9
    refine lv_istore (lv' := [(5, .int 1), (0, .ref b), (1, .ref (a 0)), (2, .ref (a2 0)), (3, .ref o), (4, .int (nI r))]) hx hb dL_law_882 hl (by decide) rfl (fun ls hl => ?_)
    refine lv_aload_n hx hb dL_law_884 rfl (lv_at hl 3 rfl) ?_
    refine lv_aload_n hx hb dL_law_885 rfl (lv_at hl 1 rfl) ?_
    refine lv_iload hx hb dL_law_886 (lv_at hl 5 rfl) ?_
    refine lv_iconst (v := 1) hx hb dL_law_888 (by decide) ?_
    refine lv_iadd hx hb dL_law_889 ?_
    refine w_sld hx hb hX hbl hbA hS hL (r + 1) (nI_1 r) (by omega) hx1 dL_law_890 ?_
    have hPM := wj_Pr hP
    have hDM := wj_Dr hD
    have hF := wj_Fr hD hS hA
    refine va_calli (va_runV (As := [.int x]) (rest := []) hC (c_X1_luckOf_a l H.size x hn hp) (cwV 1 hC.2.2.2.2 (gi_V mM_L_173 mV_X1_luckOf mS_X1_luckOf mI_MissRegistryModel mC_X1_luckOf) rfl rfl rfl (by decide +kernel) ⟨Nat.le_of_ble_eq_true rfl, Nat.le_of_ble_eq_true rfl⟩) ⟨fun a1 U g mk q => ⟨q.1, q.2.1, ⟨q.2.2.1.1, va_K.moved (u := U) (U := U.calling g mk a1) (Vm.Alike.refl U.vm) q.2.2.1.2⟩, q.2.2.2⟩, va_recv hK2 hPM (ci := 1) (q0 := 0) rfl rfl, fun U hU hW => ⟨rfl, by rw [hU], ⟨by rw [hU]; exact hPM, va_K.moved hW.alike hK2⟩, hDM.weaken (fun _ _ _ _ => trivial)⟩⟩ rfl rfl hl.1 rfl (lv_room (Nat.le_of_ble_eq_true rfl)) dL_law_891 ⟨(show _ ≤ 601024 by omega), (show _ ≤ 7293034 by omega)⟩) hS (fun q _ h => hF q h) hF (fun r7 u7 t H locs ht hvm hw7 hB hz9 hk9 hS9 => ?_)
    obtain ⟨hP1, hK1, hD1⟩ := hB
    rw [ht] at hP1
    obtain ⟨hP, hD⟩ := wj_r hP hD hk9 hF hP1 hD1
    have hP : va_P D vwCl (oW o cJ g (xW z a lv lk pu fa he n nv du ta w mp mi k nt fu re) ++ mW z2 a2 1 n w gn lk pu fa he nv of mp mi k nt fu re) H := hP
    have hD : va_D (nw s) (oW o cJ g (xW z a lv lk pu fa he n nv du ta w mp mi k nt fu re) ++ mW z2 a2 1 n w gn lk pu fa he nv of mp mi k nt fu re) := hD
    have hS := hS9
    rw [show r7 = 0 from hw7]
    refine lv_istore (lv' := [(6, .int 0), (5, .int 1), (0, .ref b), (1, .ref (a 0)), (2, .ref (a2 0)), (3, .ref o), (4, .int (nI r))]) hx hb dL_law_894 hl (by decide) rfl (fun ls hl => ?_)
    refine lv_aload_n hx hb dL_law_896 rfl (lv_at hl 4 rfl) ?_
    refine vp_callSi (W.runV (As := []) (rest := []) hC (c_X1_thrown l) (cwV 0 hC.2.2.2.2 (gi_V mM_L_106 mV_X1_thrown mS_X1_thrown mI_MissRegistryModel mC_X1_thrown) rfl rfl rfl (by decide +kernel) ⟨Nat.le_of_ble_eq_true rfl, Nat.le_of_ble_eq_true rfl⟩) (mpre hK2 (wj_Pr hP)) rfl rfl hl.1 rfl (lv_room (Nat.le_of_ble_eq_true rfl)) dL_law_897 ⟨(show _ ≤ 601024 by omega), (show _ ≤ 7293034 by omega)⟩) (fun r8 hr8 => ?_)
    rw [show r8 = 1 from hr8]
    refine lv_iload hx hb dL_law_900 (lv_at hl 1 rfl) ?_
    refine lv_icmp_eq (tgt := 907) hx hb dL_law_902 (by decide) (fun c_902 => ?_) (fun c_902 => ?_)
    · refine lv_iload hx hb dL_law_907 (lv_at hl 1 rfl) ?_
      refine lv_if_ne (tgt := 924) hx hb dL_law_909 (by decide) (fun c_909 => ?_) (fun c_909 => ?_)
      · refine lv_goto (tgt := 1948) hx hb dL_law_924 (by decide) ?_
        exact kk _ _ _ _ _ ⟨lv, lk, pu, fa, he, n, nv, du, ta, w, mp, mi, k, nt, fu, re, gn, of, 1, g, hI, hP, hD, hS⟩ (by omega) (by omega) (lv_sub hl [2, 3, 4, 5, 6] rfl)
      · exact absurd c_909 (by decide)
    · exact absurd rfl c_902
  · obtain ⟨i, hi, exi⟩ := isP_ex (by omega) hp
    subst exi
    refine lv_aload_n hx hb dL_law_871 rfl (lv_at hl 1 rfl) ?_
    refine lv_aload_n hx hb dL_law_872 rfl (lv_at hl 0 rfl) ?_
    refine lv_iload hx hb dL_law_873 (lv_at hl 4 rfl) ?_
    refine lv_iconst (v := 1) hx hb dL_law_875 (by decide) ?_
    refine lv_iadd hx hb dL_law_876 ?_
    refine w_sld hx hb hX hbl hbA hS hL (r + 1) (nI_1 r) (by omega) hx1 dL_law_877 ?_
    refine lv_aload_n hx hb dL_law_878 rfl (lv_at hl 3 rfl) ?_
    have hPO := wj_Pl hP
    have hDO := wj_Dl hD
    have hF := wj_Fl hD hS hA
    refine va_calli (vx_runSW (As := [.ref (a 0), .int (nI i), .ref o]) (rest := []) hC (w_luckOf l H.size i hi hn) (vx_cwSW 3 hC.2.2.2.2 (gi_S mM_L_171 mT_L_luckOf mI_MissRegistryLaw mC_L_luckOf) rfl rfl rfl (by decide +kernel) ⟨Nat.le_of_ble_eq_true rfl, Nat.le_of_ble_eq_true rfl⟩) ⟨fun a1 U g mk q => ⟨q.1, q.2.1, q.2.2.1, va_K.moved (u := U) (U := U.calling g mk a1) (Vm.Alike.refl U.vm) q.2.2.2.1, va_K.moved (u := U) (U := U.calling g mk a1) (Vm.Alike.refl U.vm) q.2.2.2.2.1, q.2.2.2.2.2⟩, fun U hU hW => ⟨rfl, by rw [hU], by rw [hU]; exact hPO, va_K.moved hW.alike hK, va_K.moved hW.alike hJ, hDO.weaken (fun _ _ _ _ => trivial)⟩⟩ rfl rfl hl.1 rfl (lv_room (Nat.le_of_ble_eq_true rfl)) dL_law_879 ⟨(show _ ≤ 601024 by omega), (show _ ≤ 7293034 by omega)⟩) hS (fun q _ h => hF q h) hF (fun r9 u9 t H locs ht hvm hw9 hB hz9 hk9 hS9 => ?_)
    obtain ⟨hP1, hD1⟩ := hB
    rw [ht] at hP1
    obtain ⟨hP, hD⟩ := wj_l hP hD hk9 hF hP1 hD1
    obtain ⟨hr9, hu9⟩ := hw9
    rw [hr9]
    have hP : va_P D vwCl (oW o cJ u9 (xW z a lv lk pu fa he n nv du ta w mp mi k nt fu re) ++ mW z2 a2 th n w gn lk pu fa he nv of mp mi k nt fu re) H := hP
    have hD : va_D (nw s) (oW o cJ u9 (xW z a lv lk pu fa he n nv du ta w mp mi k nt fu re) ++ mW z2 a2 th n w gn lk pu fa he nv of mp mi k nt fu re) := hD
    have hS := hS9
    refine lv_istore (lv' := [(5, .int 0), (0, .ref b), (1, .ref (a 0)), (2, .ref (a2 0)), (3, .ref o), (4, .int (nI r))]) hx hb dL_law_882 hl (by decide) rfl (fun ls hl => ?_)
    refine lv_aload_n hx hb dL_law_884 rfl (lv_at hl 3 rfl) ?_
    refine lv_aload_n hx hb dL_law_885 rfl (lv_at hl 1 rfl) ?_
    refine lv_iload hx hb dL_law_886 (lv_at hl 5 rfl) ?_
    refine lv_iconst (v := 1) hx hb dL_law_888 (by decide) ?_
    refine lv_iadd hx hb dL_law_889 ?_
    refine w_sld hx hb hX hbl hbA hS hL (r + 1) (nI_1 r) (by omega) hx1 dL_law_890 ?_
    have hPM := wj_Pr hP
    have hDM := wj_Dr hD
    have hF := wj_Fr hD hS hA
    refine va_calli (va_runV (As := [.int (nI i)]) (rest := []) hC (c_X1_luckOf l H.size i hi hn) (cwV 1 hC.2.2.2.2 (gi_V mM_L_173 mV_X1_luckOf mS_X1_luckOf mI_MissRegistryModel mC_X1_luckOf) rfl rfl rfl (by decide +kernel) ⟨Nat.le_of_ble_eq_true rfl, Nat.le_of_ble_eq_true rfl⟩) ⟨fun a1 U g mk q => ⟨q.1, q.2.1, ⟨q.2.2.1.1, va_K.moved (u := U) (U := U.calling g mk a1) (Vm.Alike.refl U.vm) q.2.2.1.2⟩, q.2.2.2⟩, va_recv hK2 hPM (ci := 1) (q0 := 0) rfl rfl, fun U hU hW => ⟨rfl, by rw [hU], ⟨by rw [hU]; exact hPM, va_K.moved hW.alike hK2⟩, hDM.weaken (fun _ _ _ _ => trivial)⟩⟩ rfl rfl hl.1 rfl (lv_room (Nat.le_of_ble_eq_true rfl)) dL_law_891 ⟨(show _ ≤ 601024 by omega), (show _ ≤ 7293034 by omega)⟩) hS (fun q _ h => hF q h) hF (fun r7 u7 t H locs ht hvm hw7 hB hz9 hk9 hS9 => ?_)
    obtain ⟨hP1, hK1, hD1⟩ := hB
    rw [ht] at hP1
    obtain ⟨hP, hD⟩ := wj_r hP hD hk9 hF hP1 hD1
    have hP : va_P D vwCl (oW o cJ u9 (xW z a lv lk pu fa he n nv du ta w mp mi k nt fu re) ++ mW z2 a2 0 n w gn lk pu fa he nv of mp mi k nt fu re) H := hP
    have hD : va_D (nw s) (oW o cJ u9 (xW z a lv lk pu fa he n nv du ta w mp mi k nt fu re) ++ mW z2 a2 0 n w gn lk pu fa he nv of mp mi k nt fu re) := hD
    have hS := hS9
    rw [show r7 = lk i from hw7]
    refine lv_istore (lv' := [(6, .int (lk i)), (5, .int 0), (0, .ref b), (1, .ref (a 0)), (2, .ref (a2 0)), (3, .ref o), (4, .int (nI r))]) hx hb dL_law_894 hl (by decide) rfl (fun ls hl => ?_)
    refine lv_aload_n hx hb dL_law_896 rfl (lv_at hl 4 rfl) ?_
    refine vp_callSi (W.runV (As := []) (rest := []) hC (c_X1_thrown l) (cwV 0 hC.2.2.2.2 (gi_V mM_L_106 mV_X1_thrown mS_X1_thrown mI_MissRegistryModel mC_X1_thrown) rfl rfl rfl (by decide +kernel) ⟨Nat.le_of_ble_eq_true rfl, Nat.le_of_ble_eq_true rfl⟩) (mpre hK2 (wj_Pr hP)) rfl rfl hl.1 rfl (lv_room (Nat.le_of_ble_eq_true rfl)) dL_law_897 ⟨(show _ ≤ 601024 by omega), (show _ ≤ 7293034 by omega)⟩) (fun r8 hr8 => ?_)
    rw [show r8 = 0 from hr8]
    refine lv_iload hx hb dL_law_900 (lv_at hl 1 rfl) ?_
    refine lv_icmp_eq (tgt := 907) hx hb dL_law_902 (by decide) (fun c_902 => ?_) (fun c_902 => ?_)
    · refine lv_iload hx hb dL_law_907 (lv_at hl 1 rfl) ?_
      refine lv_if_ne (tgt := 924) hx hb dL_law_909 (by decide) (fun c_909 => ?_) (fun c_909 => ?_)
      · exact absurd rfl c_909
      · refine lv_aload_n hx hb dL_law_912 rfl (lv_at hl 5 rfl) ?_
        refine lv_iconst (v := 0) hx hb dL_law_913 (by decide) ?_
        refine w_lald hC hJ (wj_Pl hP) dL_law_914 ?_
        refine lv_iload hx hb dL_law_915 (lv_at hl 0 rfl) ?_
        refine lv_i2l hx hb dL_law_917 rfl ?_
        refine w_lcmp hx hb dL_law_918 hu9 ?_
        refine lv_if_eq (tgt := 924) hx hb dL_law_919 (by decide) (fun c_919 => ?_) (fun c_919 => ?_)
        · refine lv_goto (tgt := 1948) hx hb dL_law_924 (by decide) ?_
          exact kk _ _ _ _ _ ⟨lv, lk, pu, fa, he, n, nv, du, ta, w, mp, mi, k, nt, fu, re, gn, of, 0, u9, hI, hP, hD, hS⟩ (by omega) (by omega) (lv_sub hl [2, 3, 4, 5, 6] rfl)
        · exact absurd rfl c_919
    · exact absurd rfl c_902
set_option maxHeartbeats 8000000 in
set_option maxRecDepth 100000 in
theorem lc_19 {p : Program} {l : Launch} {e : Env} {s : State} {m : MethodId} {below : List Frame} {meth : Method} {c : Code} {H : Heap} {locs : List Loc} {cells slots : Nat} {Q : State → Prop} {ls : Array Slot} {b L : Nat} {xs : Nat → Int32} {D : va_G} {z z2 : ClassId × ClassId} {cJ : ClassId} {q9 t9 a a2 : Nat → Nat} {o : Nat} {lv lk pu fa he : Nat → Int32} {n : Nat} {nv du ta : Nat → Int32} {w : Nat} {mp mi : Nat → Int32} {k : Nat} {nt fu re : Int32} {gn of : Nat → Int32} {th : Int32} {g : Nat → Int64} {r : Nat} (X : LX p l s m c b L xs D z z2 cJ q9 t9) (hI : IV lv lk fa he n nv du w k gn of) (hP : va_P D vwCl (oW o cJ g (xW z a lv lk pu fa he n nv du ta w mp mi k nt fu re) ++ mW z2 a2 th n w gn lk pu fa he nv of mp mi k nt fu re) H) (hD : va_D (nw s) (oW o cJ g (xW z a lv lk pu fa he n nv du ta w mp mi k nt fu re) ++ mW z2 a2 th n w gn lk pu fa he nv of mp mi k nt fu re)) (hS : va_S (nw s) s.heap H locs) (hcl : cells + 12 ≤ 601024) (hsl : slots + 100 ≤ 7293034) (hr : r + 2 < L) (hl : lv_has ls 9 [(0, .ref b), (1, .ref (a 0)), (2, .ref (a2 0)), (3, .ref o), (4, .int (nI r))]) (kk : ∀ (H1 : Heap) (locs1 : List Loc) (c1 s1 : Nat) (ls1 : Array Slot), Jn D z z2 cJ a a2 o s H1 locs1 → c1 ≤ cells + 11 → s1 ≤ slots + 94 → lv_has ls1 9 [(0, .ref b), (1, .ref (a 0)), (2, .ref (a2 0)), (3, .ref o), (4, .int (nI r))] → W p l e room_1 s m #[.ref b] below meth c H1 locs1 c1 s1 Q (F0 m 1948 ls1 [])) : W p l e room_1 s m #[.ref b] below meth c H locs cells slots Q (F0 m 927 ls []) := by
  obtain ⟨hC, hst, ⟨hX, hbl, hL⟩, ⟨hK, hK2, hJ⟩, hT, hN, hE⟩ := X
  have hx := hC.1
  have hb := hC.2.1
  have hA : ∀ q : Nat, s.heap.size ≤ q → nw s q := fun q h => h
  have hbA : ¬ nw s b := Nat.not_le.mpr hbl
  have hn := hI.1.1
  have hw := hI.1.2.1
  have hk := hI.1.2.2
  obtain ⟨x, hx1⟩ : ∃ x : Int32, xs (r + 1) = x := ⟨_, rfl⟩
  obtain ⟨y, hx2⟩ : ∃ y : Int32, xs (r + 2) = y := ⟨_, rfl⟩
  by_cases hp : sp_isP n x = 0
  · refine lv_aload_n hx hb dL_law_927 rfl (lv_at hl 1 rfl) ?_
    refine lv_aload_n hx hb dL_law_928 rfl (lv_at hl 0 rfl) ?_
    refine lv_iload hx hb dL_law_929 (lv_at hl 4 rfl) ?_
    refine lv_iconst (v := 1) hx hb dL_law_931 (by decide) ?_
    refine lv_iadd hx hb dL_law_932 ?_
    refine w_sld hx hb hX hbl hbA hS hL (r + 1) (nI_1 r) (by omega) hx1 dL_law_933 ?_
    refine lv_aload_n hx hb dL_law_934 rfl (lv_at hl 3 rfl) ?_
    have hPO := wj_Pl hP
    have hDO := wj_Dl hD
    have hF := wj_Fl hD hS hA
    refine va_calli (vx_runSW (As := [.ref (a 0), .int x, .ref o]) (rest := []) hC (w_purseOf_a l hst H.size x hp) (vx_cwSW 3 hC.2.2.2.2 (gi_S mM_L_174 mT_L_purseOf mI_MissRegistryLaw mC_L_purseOf) rfl rfl rfl (by decide +kernel) ⟨Nat.le_of_ble_eq_true rfl, Nat.le_of_ble_eq_true rfl⟩) ⟨fun a1 U g mk q => ⟨q.1, q.2.1, q.2.2.1, va_K.moved (u := U) (U := U.calling g mk a1) (Vm.Alike.refl U.vm) q.2.2.2.1, va_K.moved (u := U) (U := U.calling g mk a1) (Vm.Alike.refl U.vm) q.2.2.2.2.1, ⟨q.2.2.2.2.2.1, tH.same (u := U) (U := U.calling g mk a1) rfl q.2.2.2.2.2.2.1, tN.moved (u := U) (U := U.calling g mk a1) (Vm.Alike.refl U.vm) q.2.2.2.2.2.2.2⟩⟩, fun U hU hW => ⟨rfl, by rw [hU], by rw [hU]; exact hPO, va_K.moved hW.alike hK, va_K.moved hW.alike hJ, hDO.weaken (fun _ _ _ _ => trivial), by rw [hU]; exact (hT.at hS).warm hW, hN.moved hW.alike⟩⟩ rfl rfl hl.1 rfl (lv_room (Nat.le_of_ble_eq_true rfl)) dL_law_935 ⟨(show _ ≤ 601024 by omega), (show _ ≤ 7293034 by omega)⟩) hS (fun q _ h => hF q h) hF (fun r9 u9 t H locs ht hvm hw9 hB hz9 hk9 hS9 => ?_)
    obtain ⟨hP1, hD1⟩ := hB
    rw [ht] at hP1
    obtain ⟨hP, hD⟩ := wj_l hP hD hk9 hF hP1 hD1
    rw [show r9 = 1 from hw9]
    have hP : va_P D vwCl (oW o cJ g (xW z a lv lk pu fa he n nv du ta w mp mi k nt fu re) ++ mW z2 a2 th n w gn lk pu fa he nv of mp mi k nt fu re) H := hP
    have hD : va_D (nw s) (oW o cJ g (xW z a lv lk pu fa he n nv du ta w mp mi k nt fu re) ++ mW z2 a2 th n w gn lk pu fa he nv of mp mi k nt fu re) := hD
    have hS := hS9
    refine lv_istore (lv' := [(5, .int 1), (0, .ref b), (1, .ref (a 0)), (2, .ref (a2 0)), (3, .ref o), (4, .int (nI r))]) hx hb dL_law_938 hl (by decide) rfl (fun ls hl => ?_)
    refine lv_aload_n hx hb dL_law_940 rfl (lv_at hl 3 rfl) ?_
    refine lv_aload_n hx hb dL_law_941 rfl (lv_at hl 1 rfl) ?_
    refine lv_iload hx hb dL_law_942 (lv_at hl 5 rfl) ?_
    refine lv_iconst (v := 1) hx hb dL_law_944 (by decide) ?_
    refine lv_iadd hx hb dL_law_945 ?_
    refine w_sld hx hb hX hbl hbA hS hL (r + 1) (nI_1 r) (by omega) hx1 dL_law_946 ?_
    have hPM := wj_Pr hP
    have hDM := wj_Dr hD
    have hF := wj_Fr hD hS hA
    refine va_calli (va_runV (As := [.int x]) (rest := []) hC (c_X1_purseOf_a l H.size x hn hp) (cwV 1 hC.2.2.2.2 (gi_V mM_L_176 mV_X1_purseOf mS_X1_purseOf mI_MissRegistryModel mC_X1_purseOf) rfl rfl rfl (by decide +kernel) ⟨Nat.le_of_ble_eq_true rfl, Nat.le_of_ble_eq_true rfl⟩) ⟨fun a1 U g mk q => ⟨q.1, q.2.1, ⟨q.2.2.1.1, va_K.moved (u := U) (U := U.calling g mk a1) (Vm.Alike.refl U.vm) q.2.2.1.2⟩, q.2.2.2⟩, va_recv hK2 hPM (ci := 1) (q0 := 0) rfl rfl, fun U hU hW => ⟨rfl, by rw [hU], ⟨by rw [hU]; exact hPM, va_K.moved hW.alike hK2⟩, hDM.weaken (fun _ _ _ _ => trivial)⟩⟩ rfl rfl hl.1 rfl (lv_room (Nat.le_of_ble_eq_true rfl)) dL_law_947 ⟨(show _ ≤ 601024 by omega), (show _ ≤ 7293034 by omega)⟩) hS (fun q _ h => hF q h) hF (fun r7 u7 t H locs ht hvm hw7 hB hz9 hk9 hS9 => ?_)
    obtain ⟨hP1, hK1, hD1⟩ := hB
    rw [ht] at hP1
    obtain ⟨hP, hD⟩ := wj_r hP hD hk9 hF hP1 hD1
    have hP : va_P D vwCl (oW o cJ g (xW z a lv lk pu fa he n nv du ta w mp mi k nt fu re) ++ mW z2 a2 1 n w gn lk pu fa he nv of mp mi k nt fu re) H := hP
    have hD : va_D (nw s) (oW o cJ g (xW z a lv lk pu fa he n nv du ta w mp mi k nt fu re) ++ mW z2 a2 1 n w gn lk pu fa he nv of mp mi k nt fu re) := hD
    have hS := hS9
    rw [show r7 = 0 from hw7]
    refine lv_istore (lv' := [(6, .int 0), (5, .int 1), (0, .ref b), (1, .ref (a 0)), (2, .ref (a2 0)), (3, .ref o), (4, .int (nI r))]) hx hb dL_law_950 hl (by decide) rfl (fun ls hl => ?_)
    refine lv_aload_n hx hb dL_law_952 rfl (lv_at hl 4 rfl) ?_
    refine vp_callSi (W.runV (As := []) (rest := []) hC (c_X1_thrown l) (cwV 0 hC.2.2.2.2 (gi_V mM_L_106 mV_X1_thrown mS_X1_thrown mI_MissRegistryModel mC_X1_thrown) rfl rfl rfl (by decide +kernel) ⟨Nat.le_of_ble_eq_true rfl, Nat.le_of_ble_eq_true rfl⟩) (mpre hK2 (wj_Pr hP)) rfl rfl hl.1 rfl (lv_room (Nat.le_of_ble_eq_true rfl)) dL_law_953 ⟨(show _ ≤ 601024 by omega), (show _ ≤ 7293034 by omega)⟩) (fun r8 hr8 => ?_)
    rw [show r8 = 1 from hr8]
    refine lv_iload hx hb dL_law_956 (lv_at hl 1 rfl) ?_
    refine lv_icmp_eq (tgt := 963) hx hb dL_law_958 (by decide) (fun c_958 => ?_) (fun c_958 => ?_)
    · refine lv_iload hx hb dL_law_963 (lv_at hl 1 rfl) ?_
      refine lv_if_ne (tgt := 980) hx hb dL_law_965 (by decide) (fun c_965 => ?_) (fun c_965 => ?_)
      · refine lv_goto (tgt := 1948) hx hb dL_law_980 (by decide) ?_
        exact kk _ _ _ _ _ ⟨lv, lk, pu, fa, he, n, nv, du, ta, w, mp, mi, k, nt, fu, re, gn, of, 1, g, hI, hP, hD, hS⟩ (by omega) (by omega) (lv_sub hl [2, 3, 4, 5, 6] rfl)
      · exact absurd c_965 (by decide)
    · exact absurd rfl c_958
  · obtain ⟨i, hi, exi⟩ := isP_ex (by omega) hp
    subst exi
    refine lv_aload_n hx hb dL_law_927 rfl (lv_at hl 1 rfl) ?_
    refine lv_aload_n hx hb dL_law_928 rfl (lv_at hl 0 rfl) ?_
    refine lv_iload hx hb dL_law_929 (lv_at hl 4 rfl) ?_
    refine lv_iconst (v := 1) hx hb dL_law_931 (by decide) ?_
    refine lv_iadd hx hb dL_law_932 ?_
    refine w_sld hx hb hX hbl hbA hS hL (r + 1) (nI_1 r) (by omega) hx1 dL_law_933 ?_
    refine lv_aload_n hx hb dL_law_934 rfl (lv_at hl 3 rfl) ?_
    have hPO := wj_Pl hP
    have hDO := wj_Dl hD
    have hF := wj_Fl hD hS hA
    refine va_calli (vx_runSW (As := [.ref (a 0), .int (nI i), .ref o]) (rest := []) hC (w_purseOf l H.size i hi hn) (vx_cwSW 3 hC.2.2.2.2 (gi_S mM_L_174 mT_L_purseOf mI_MissRegistryLaw mC_L_purseOf) rfl rfl rfl (by decide +kernel) ⟨Nat.le_of_ble_eq_true rfl, Nat.le_of_ble_eq_true rfl⟩) ⟨fun a1 U g mk q => ⟨q.1, q.2.1, q.2.2.1, va_K.moved (u := U) (U := U.calling g mk a1) (Vm.Alike.refl U.vm) q.2.2.2.1, va_K.moved (u := U) (U := U.calling g mk a1) (Vm.Alike.refl U.vm) q.2.2.2.2.1, q.2.2.2.2.2⟩, fun U hU hW => ⟨rfl, by rw [hU], by rw [hU]; exact hPO, va_K.moved hW.alike hK, va_K.moved hW.alike hJ, hDO.weaken (fun _ _ _ _ => trivial)⟩⟩ rfl rfl hl.1 rfl (lv_room (Nat.le_of_ble_eq_true rfl)) dL_law_935 ⟨(show _ ≤ 601024 by omega), (show _ ≤ 7293034 by omega)⟩) hS (fun q _ h => hF q h) hF (fun r9 u9 t H locs ht hvm hw9 hB hz9 hk9 hS9 => ?_)
    obtain ⟨hP1, hD1⟩ := hB
    rw [ht] at hP1
    obtain ⟨hP, hD⟩ := wj_l hP hD hk9 hF hP1 hD1
    obtain ⟨hr9, hu9⟩ := hw9
    rw [hr9]
    have hP : va_P D vwCl (oW o cJ u9 (xW z a lv lk pu fa he n nv du ta w mp mi k nt fu re) ++ mW z2 a2 th n w gn lk pu fa he nv of mp mi k nt fu re) H := hP
    have hD : va_D (nw s) (oW o cJ u9 (xW z a lv lk pu fa he n nv du ta w mp mi k nt fu re) ++ mW z2 a2 th n w gn lk pu fa he nv of mp mi k nt fu re) := hD
    have hS := hS9
    refine lv_istore (lv' := [(5, .int 0), (0, .ref b), (1, .ref (a 0)), (2, .ref (a2 0)), (3, .ref o), (4, .int (nI r))]) hx hb dL_law_938 hl (by decide) rfl (fun ls hl => ?_)
    refine lv_aload_n hx hb dL_law_940 rfl (lv_at hl 3 rfl) ?_
    refine lv_aload_n hx hb dL_law_941 rfl (lv_at hl 1 rfl) ?_
    refine lv_iload hx hb dL_law_942 (lv_at hl 5 rfl) ?_
    refine lv_iconst (v := 1) hx hb dL_law_944 (by decide) ?_
    refine lv_iadd hx hb dL_law_945 ?_
    refine w_sld hx hb hX hbl hbA hS hL (r + 1) (nI_1 r) (by omega) hx1 dL_law_946 ?_
    have hPM := wj_Pr hP
    have hDM := wj_Dr hD
    have hF := wj_Fr hD hS hA
    refine va_calli (va_runV (As := [.int (nI i)]) (rest := []) hC (c_X1_purseOf l H.size i hi hn) (cwV 1 hC.2.2.2.2 (gi_V mM_L_176 mV_X1_purseOf mS_X1_purseOf mI_MissRegistryModel mC_X1_purseOf) rfl rfl rfl (by decide +kernel) ⟨Nat.le_of_ble_eq_true rfl, Nat.le_of_ble_eq_true rfl⟩) ⟨fun a1 U g mk q => ⟨q.1, q.2.1, ⟨q.2.2.1.1, va_K.moved (u := U) (U := U.calling g mk a1) (Vm.Alike.refl U.vm) q.2.2.1.2⟩, q.2.2.2⟩, va_recv hK2 hPM (ci := 1) (q0 := 0) rfl rfl, fun U hU hW => ⟨rfl, by rw [hU], ⟨by rw [hU]; exact hPM, va_K.moved hW.alike hK2⟩, hDM.weaken (fun _ _ _ _ => trivial)⟩⟩ rfl rfl hl.1 rfl (lv_room (Nat.le_of_ble_eq_true rfl)) dL_law_947 ⟨(show _ ≤ 601024 by omega), (show _ ≤ 7293034 by omega)⟩) hS (fun q _ h => hF q h) hF (fun r7 u7 t H locs ht hvm hw7 hB hz9 hk9 hS9 => ?_)
    obtain ⟨hP1, hK1, hD1⟩ := hB
    rw [ht] at hP1
    obtain ⟨hP, hD⟩ := wj_r hP hD hk9 hF hP1 hD1
    have hP : va_P D vwCl (oW o cJ u9 (xW z a lv lk pu fa he n nv du ta w mp mi k nt fu re) ++ mW z2 a2 0 n w gn lk pu fa he nv of mp mi k nt fu re) H := hP
    have hD : va_D (nw s) (oW o cJ u9 (xW z a lv lk pu fa he n nv du ta w mp mi k nt fu re) ++ mW z2 a2 0 n w gn lk pu fa he nv of mp mi k nt fu re) := hD
    have hS := hS9
    rw [show r7 = pu i from hw7]
    refine lv_istore (lv' := [(6, .int (pu i)), (5, .int 0), (0, .ref b), (1, .ref (a 0)), (2, .ref (a2 0)), (3, .ref o), (4, .int (nI r))]) hx hb dL_law_950 hl (by decide) rfl (fun ls hl => ?_)
    refine lv_aload_n hx hb dL_law_952 rfl (lv_at hl 4 rfl) ?_
    refine vp_callSi (W.runV (As := []) (rest := []) hC (c_X1_thrown l) (cwV 0 hC.2.2.2.2 (gi_V mM_L_106 mV_X1_thrown mS_X1_thrown mI_MissRegistryModel mC_X1_thrown) rfl rfl rfl (by decide +kernel) ⟨Nat.le_of_ble_eq_true rfl, Nat.le_of_ble_eq_true rfl⟩) (mpre hK2 (wj_Pr hP)) rfl rfl hl.1 rfl (lv_room (Nat.le_of_ble_eq_true rfl)) dL_law_953 ⟨(show _ ≤ 601024 by omega), (show _ ≤ 7293034 by omega)⟩) (fun r8 hr8 => ?_)
    rw [show r8 = 0 from hr8]
    refine lv_iload hx hb dL_law_956 (lv_at hl 1 rfl) ?_
    refine lv_icmp_eq (tgt := 963) hx hb dL_law_958 (by decide) (fun c_958 => ?_) (fun c_958 => ?_)
    · refine lv_iload hx hb dL_law_963 (lv_at hl 1 rfl) ?_
      refine lv_if_ne (tgt := 980) hx hb dL_law_965 (by decide) (fun c_965 => ?_) (fun c_965 => ?_)
      · exact absurd rfl c_965
      · refine lv_aload_n hx hb dL_law_968 rfl (lv_at hl 5 rfl) ?_
        refine lv_iconst (v := 0) hx hb dL_law_969 (by decide) ?_
        refine w_lald hC hJ (wj_Pl hP) dL_law_970 ?_
        refine lv_iload hx hb dL_law_971 (lv_at hl 0 rfl) ?_
        refine lv_i2l hx hb dL_law_973 rfl ?_
        refine w_lcmp hx hb dL_law_974 hu9 ?_
        refine lv_if_eq (tgt := 980) hx hb dL_law_975 (by decide) (fun c_975 => ?_) (fun c_975 => ?_)
        · refine lv_goto (tgt := 1948) hx hb dL_law_980 (by decide) ?_
          exact kk _ _ _ _ _ ⟨lv, lk, pu, fa, he, n, nv, du, ta, w, mp, mi, k, nt, fu, re, gn, of, 0, u9, hI, hP, hD, hS⟩ (by omega) (by omega) (lv_sub hl [2, 3, 4, 5, 6] rfl)
        · exact absurd rfl c_975
    · exact absurd rfl c_958
set_option maxHeartbeats 8000000 in
set_option maxRecDepth 100000 in
theorem lc_20 {p : Program} {l : Launch} {e : Env} {s : State} {m : MethodId} {below : List Frame} {meth : Method} {c : Code} {H : Heap} {locs : List Loc} {cells slots : Nat} {Q : State → Prop} {ls : Array Slot} {b L : Nat} {xs : Nat → Int32} {D : va_G} {z z2 : ClassId × ClassId} {cJ : ClassId} {q9 t9 a a2 : Nat → Nat} {o : Nat} {lv lk pu fa he : Nat → Int32} {n : Nat} {nv du ta : Nat → Int32} {w : Nat} {mp mi : Nat → Int32} {k : Nat} {nt fu re : Int32} {gn of : Nat → Int32} {th : Int32} {g : Nat → Int64} {r : Nat} (X : LX p l s m c b L xs D z z2 cJ q9 t9) (hI : IV lv lk fa he n nv du w k gn of) (hP : va_P D vwCl (oW o cJ g (xW z a lv lk pu fa he n nv du ta w mp mi k nt fu re) ++ mW z2 a2 th n w gn lk pu fa he nv of mp mi k nt fu re) H) (hD : va_D (nw s) (oW o cJ g (xW z a lv lk pu fa he n nv du ta w mp mi k nt fu re) ++ mW z2 a2 th n w gn lk pu fa he nv of mp mi k nt fu re)) (hS : va_S (nw s) s.heap H locs) (hcl : cells + 12 ≤ 601024) (hsl : slots + 100 ≤ 7293034) (hr : r + 2 < L) (hl : lv_has ls 9 [(0, .ref b), (1, .ref (a 0)), (2, .ref (a2 0)), (3, .ref o), (4, .int (nI r))]) (kk : ∀ (H1 : Heap) (locs1 : List Loc) (c1 s1 : Nat) (ls1 : Array Slot), Jn D z z2 cJ a a2 o s H1 locs1 → c1 ≤ cells + 11 → s1 ≤ slots + 94 → lv_has ls1 9 [(0, .ref b), (1, .ref (a 0)), (2, .ref (a2 0)), (3, .ref o), (4, .int (nI r))] → W p l e room_1 s m #[.ref b] below meth c H1 locs1 c1 s1 Q (F0 m 1948 ls1 [])) : W p l e room_1 s m #[.ref b] below meth c H locs cells slots Q (F0 m 983 ls []) := by
  obtain ⟨hC, hst, ⟨hX, hbl, hL⟩, ⟨hK, hK2, hJ⟩, hT, hN, hE⟩ := X
  have hx := hC.1
  have hb := hC.2.1
  have hA : ∀ q : Nat, s.heap.size ≤ q → nw s q := fun q h => h
  have hbA : ¬ nw s b := Nat.not_le.mpr hbl
  have hn := hI.1.1
  have hw := hI.1.2.1
  have hk := hI.1.2.2
  obtain ⟨x, hx1⟩ : ∃ x : Int32, xs (r + 1) = x := ⟨_, rfl⟩
  obtain ⟨y, hx2⟩ : ∃ y : Int32, xs (r + 2) = y := ⟨_, rfl⟩
  by_cases hp : sp_isP n x = 0
  · refine lv_aload_n hx hb dL_law_983 rfl (lv_at hl 1 rfl) ?_
    refine lv_aload_n hx hb dL_law_984 rfl (lv_at hl 0 rfl) ?_
    refine lv_iload hx hb dL_law_985 (lv_at hl 4 rfl) ?_
    refine lv_iconst (v := 1) hx hb dL_law_987 (by decide) ?_
    refine lv_iadd hx hb dL_law_988 ?_
    refine w_sld hx hb hX hbl hbA hS hL (r + 1) (nI_1 r) (by omega) hx1 dL_law_989 ?_
    refine lv_aload_n hx hb dL_law_990 rfl (lv_at hl 3 rfl) ?_
    have hPO := wj_Pl hP
    have hDO := wj_Dl hD
    have hF := wj_Fl hD hS hA
    refine va_calli (vx_runSW (As := [.ref (a 0), .int x, .ref o]) (rest := []) hC (w_fatesOf_a l hst H.size x hp) (vx_cwSW 3 hC.2.2.2.2 (gi_S mM_L_177 mT_L_fatesOf mI_MissRegistryLaw mC_L_fatesOf) rfl rfl rfl (by decide +kernel) ⟨Nat.le_of_ble_eq_true rfl, Nat.le_of_ble_eq_true rfl⟩) ⟨fun a1 U g mk q => ⟨q.1, q.2.1, q.2.2.1, va_K.moved (u := U) (U := U.calling g mk a1) (Vm.Alike.refl U.vm) q.2.2.2.1, va_K.moved (u := U) (U := U.calling g mk a1) (Vm.Alike.refl U.vm) q.2.2.2.2.1, ⟨q.2.2.2.2.2.1, tH.same (u := U) (U := U.calling g mk a1) rfl q.2.2.2.2.2.2.1, tN.moved (u := U) (U := U.calling g mk a1) (Vm.Alike.refl U.vm) q.2.2.2.2.2.2.2⟩⟩, fun U hU hW => ⟨rfl, by rw [hU], by rw [hU]; exact hPO, va_K.moved hW.alike hK, va_K.moved hW.alike hJ, hDO.weaken (fun _ _ _ _ => trivial), by rw [hU]; exact (hT.at hS).warm hW, hN.moved hW.alike⟩⟩ rfl rfl hl.1 rfl (lv_room (Nat.le_of_ble_eq_true rfl)) dL_law_991 ⟨(show _ ≤ 601024 by omega), (show _ ≤ 7293034 by omega)⟩) hS (fun q _ h => hF q h) hF (fun r9 u9 t H locs ht hvm hw9 hB hz9 hk9 hS9 => ?_)
    obtain ⟨hP1, hD1⟩ := hB
    rw [ht] at hP1
    obtain ⟨hP, hD⟩ := wj_l hP hD hk9 hF hP1 hD1
    rw [show r9 = 1 from hw9]
    have hP : va_P D vwCl (oW o cJ g (xW z a lv lk pu fa he n nv du ta w mp mi k nt fu re) ++ mW z2 a2 th n w gn lk pu fa he nv of mp mi k nt fu re) H := hP
    have hD : va_D (nw s) (oW o cJ g (xW z a lv lk pu fa he n nv du ta w mp mi k nt fu re) ++ mW z2 a2 th n w gn lk pu fa he nv of mp mi k nt fu re) := hD
    have hS := hS9
    refine lv_istore (lv' := [(5, .int 1), (0, .ref b), (1, .ref (a 0)), (2, .ref (a2 0)), (3, .ref o), (4, .int (nI r))]) hx hb dL_law_994 hl (by decide) rfl (fun ls hl => ?_)
    refine lv_aload_n hx hb dL_law_996 rfl (lv_at hl 3 rfl) ?_
    refine lv_aload_n hx hb dL_law_997 rfl (lv_at hl 1 rfl) ?_
    refine lv_iload hx hb dL_law_998 (lv_at hl 5 rfl) ?_
    refine lv_iconst (v := 1) hx hb dL_law_1000 (by decide) ?_
    refine lv_iadd hx hb dL_law_1001 ?_
    refine w_sld hx hb hX hbl hbA hS hL (r + 1) (nI_1 r) (by omega) hx1 dL_law_1002 ?_
    have hPM := wj_Pr hP
    have hDM := wj_Dr hD
    have hF := wj_Fr hD hS hA
    refine va_calli (va_runV (As := [.int x]) (rest := []) hC (c_X1_fatesOf_a l H.size x hn hp) (cwV 1 hC.2.2.2.2 (gi_V mM_L_179 mV_X1_fatesOf mS_X1_fatesOf mI_MissRegistryModel mC_X1_fatesOf) rfl rfl rfl (by decide +kernel) ⟨Nat.le_of_ble_eq_true rfl, Nat.le_of_ble_eq_true rfl⟩) ⟨fun a1 U g mk q => ⟨q.1, q.2.1, ⟨q.2.2.1.1, va_K.moved (u := U) (U := U.calling g mk a1) (Vm.Alike.refl U.vm) q.2.2.1.2⟩, q.2.2.2⟩, va_recv hK2 hPM (ci := 1) (q0 := 0) rfl rfl, fun U hU hW => ⟨rfl, by rw [hU], ⟨by rw [hU]; exact hPM, va_K.moved hW.alike hK2⟩, hDM.weaken (fun _ _ _ _ => trivial)⟩⟩ rfl rfl hl.1 rfl (lv_room (Nat.le_of_ble_eq_true rfl)) dL_law_1003 ⟨(show _ ≤ 601024 by omega), (show _ ≤ 7293034 by omega)⟩) hS (fun q _ h => hF q h) hF (fun r7 u7 t H locs ht hvm hw7 hB hz9 hk9 hS9 => ?_)
    obtain ⟨hP1, hK1, hD1⟩ := hB
    rw [ht] at hP1
    obtain ⟨hP, hD⟩ := wj_r hP hD hk9 hF hP1 hD1
    have hP : va_P D vwCl (oW o cJ g (xW z a lv lk pu fa he n nv du ta w mp mi k nt fu re) ++ mW z2 a2 1 n w gn lk pu fa he nv of mp mi k nt fu re) H := hP
    have hD : va_D (nw s) (oW o cJ g (xW z a lv lk pu fa he n nv du ta w mp mi k nt fu re) ++ mW z2 a2 1 n w gn lk pu fa he nv of mp mi k nt fu re) := hD
    have hS := hS9
    rw [show r7 = 0 from hw7]
    refine lv_istore (lv' := [(6, .int 0), (5, .int 1), (0, .ref b), (1, .ref (a 0)), (2, .ref (a2 0)), (3, .ref o), (4, .int (nI r))]) hx hb dL_law_1006 hl (by decide) rfl (fun ls hl => ?_)
    refine lv_aload_n hx hb dL_law_1008 rfl (lv_at hl 4 rfl) ?_
    refine vp_callSi (W.runV (As := []) (rest := []) hC (c_X1_thrown l) (cwV 0 hC.2.2.2.2 (gi_V mM_L_106 mV_X1_thrown mS_X1_thrown mI_MissRegistryModel mC_X1_thrown) rfl rfl rfl (by decide +kernel) ⟨Nat.le_of_ble_eq_true rfl, Nat.le_of_ble_eq_true rfl⟩) (mpre hK2 (wj_Pr hP)) rfl rfl hl.1 rfl (lv_room (Nat.le_of_ble_eq_true rfl)) dL_law_1009 ⟨(show _ ≤ 601024 by omega), (show _ ≤ 7293034 by omega)⟩) (fun r8 hr8 => ?_)
    rw [show r8 = 1 from hr8]
    refine lv_iload hx hb dL_law_1012 (lv_at hl 1 rfl) ?_
    refine lv_icmp_eq (tgt := 1019) hx hb dL_law_1014 (by decide) (fun c_1014 => ?_) (fun c_1014 => ?_)
    · refine lv_iload hx hb dL_law_1019 (lv_at hl 1 rfl) ?_
      refine lv_if_ne (tgt := 1036) hx hb dL_law_1021 (by decide) (fun c_1021 => ?_) (fun c_1021 => ?_)
      · refine lv_goto (tgt := 1948) hx hb dL_law_1036 (by decide) ?_
        exact kk _ _ _ _ _ ⟨lv, lk, pu, fa, he, n, nv, du, ta, w, mp, mi, k, nt, fu, re, gn, of, 1, g, hI, hP, hD, hS⟩ (by omega) (by omega) (lv_sub hl [2, 3, 4, 5, 6] rfl)
      · exact absurd c_1021 (by decide)
    · exact absurd rfl c_1014
  · obtain ⟨i, hi, exi⟩ := isP_ex (by omega) hp
    subst exi
    refine lv_aload_n hx hb dL_law_983 rfl (lv_at hl 1 rfl) ?_
    refine lv_aload_n hx hb dL_law_984 rfl (lv_at hl 0 rfl) ?_
    refine lv_iload hx hb dL_law_985 (lv_at hl 4 rfl) ?_
    refine lv_iconst (v := 1) hx hb dL_law_987 (by decide) ?_
    refine lv_iadd hx hb dL_law_988 ?_
    refine w_sld hx hb hX hbl hbA hS hL (r + 1) (nI_1 r) (by omega) hx1 dL_law_989 ?_
    refine lv_aload_n hx hb dL_law_990 rfl (lv_at hl 3 rfl) ?_
    have hPO := wj_Pl hP
    have hDO := wj_Dl hD
    have hF := wj_Fl hD hS hA
    refine va_calli (vx_runSW (As := [.ref (a 0), .int (nI i), .ref o]) (rest := []) hC (w_fatesOf l H.size i hi hn) (vx_cwSW 3 hC.2.2.2.2 (gi_S mM_L_177 mT_L_fatesOf mI_MissRegistryLaw mC_L_fatesOf) rfl rfl rfl (by decide +kernel) ⟨Nat.le_of_ble_eq_true rfl, Nat.le_of_ble_eq_true rfl⟩) ⟨fun a1 U g mk q => ⟨q.1, q.2.1, q.2.2.1, va_K.moved (u := U) (U := U.calling g mk a1) (Vm.Alike.refl U.vm) q.2.2.2.1, va_K.moved (u := U) (U := U.calling g mk a1) (Vm.Alike.refl U.vm) q.2.2.2.2.1, q.2.2.2.2.2⟩, fun U hU hW => ⟨rfl, by rw [hU], by rw [hU]; exact hPO, va_K.moved hW.alike hK, va_K.moved hW.alike hJ, hDO.weaken (fun _ _ _ _ => trivial)⟩⟩ rfl rfl hl.1 rfl (lv_room (Nat.le_of_ble_eq_true rfl)) dL_law_991 ⟨(show _ ≤ 601024 by omega), (show _ ≤ 7293034 by omega)⟩) hS (fun q _ h => hF q h) hF (fun r9 u9 t H locs ht hvm hw9 hB hz9 hk9 hS9 => ?_)
    obtain ⟨hP1, hD1⟩ := hB
    rw [ht] at hP1
    obtain ⟨hP, hD⟩ := wj_l hP hD hk9 hF hP1 hD1
    obtain ⟨hr9, hu9⟩ := hw9
    rw [hr9]
    have hP : va_P D vwCl (oW o cJ u9 (xW z a lv lk pu fa he n nv du ta w mp mi k nt fu re) ++ mW z2 a2 th n w gn lk pu fa he nv of mp mi k nt fu re) H := hP
    have hD : va_D (nw s) (oW o cJ u9 (xW z a lv lk pu fa he n nv du ta w mp mi k nt fu re) ++ mW z2 a2 th n w gn lk pu fa he nv of mp mi k nt fu re) := hD
    have hS := hS9
    refine lv_istore (lv' := [(5, .int 0), (0, .ref b), (1, .ref (a 0)), (2, .ref (a2 0)), (3, .ref o), (4, .int (nI r))]) hx hb dL_law_994 hl (by decide) rfl (fun ls hl => ?_)
    refine lv_aload_n hx hb dL_law_996 rfl (lv_at hl 3 rfl) ?_
    refine lv_aload_n hx hb dL_law_997 rfl (lv_at hl 1 rfl) ?_
    refine lv_iload hx hb dL_law_998 (lv_at hl 5 rfl) ?_
    refine lv_iconst (v := 1) hx hb dL_law_1000 (by decide) ?_
    refine lv_iadd hx hb dL_law_1001 ?_
    refine w_sld hx hb hX hbl hbA hS hL (r + 1) (nI_1 r) (by omega) hx1 dL_law_1002 ?_
    have hPM := wj_Pr hP
    have hDM := wj_Dr hD
    have hF := wj_Fr hD hS hA
    refine va_calli (va_runV (As := [.int (nI i)]) (rest := []) hC (c_X1_fatesOf l H.size i hi hn) (cwV 1 hC.2.2.2.2 (gi_V mM_L_179 mV_X1_fatesOf mS_X1_fatesOf mI_MissRegistryModel mC_X1_fatesOf) rfl rfl rfl (by decide +kernel) ⟨Nat.le_of_ble_eq_true rfl, Nat.le_of_ble_eq_true rfl⟩) ⟨fun a1 U g mk q => ⟨q.1, q.2.1, ⟨q.2.2.1.1, va_K.moved (u := U) (U := U.calling g mk a1) (Vm.Alike.refl U.vm) q.2.2.1.2⟩, q.2.2.2⟩, va_recv hK2 hPM (ci := 1) (q0 := 0) rfl rfl, fun U hU hW => ⟨rfl, by rw [hU], ⟨by rw [hU]; exact hPM, va_K.moved hW.alike hK2⟩, hDM.weaken (fun _ _ _ _ => trivial)⟩⟩ rfl rfl hl.1 rfl (lv_room (Nat.le_of_ble_eq_true rfl)) dL_law_1003 ⟨(show _ ≤ 601024 by omega), (show _ ≤ 7293034 by omega)⟩) hS (fun q _ h => hF q h) hF (fun r7 u7 t H locs ht hvm hw7 hB hz9 hk9 hS9 => ?_)
    obtain ⟨hP1, hK1, hD1⟩ := hB
    rw [ht] at hP1
    obtain ⟨hP, hD⟩ := wj_r hP hD hk9 hF hP1 hD1
    have hP : va_P D vwCl (oW o cJ u9 (xW z a lv lk pu fa he n nv du ta w mp mi k nt fu re) ++ mW z2 a2 0 n w gn lk pu fa he nv of mp mi k nt fu re) H := hP
    have hD : va_D (nw s) (oW o cJ u9 (xW z a lv lk pu fa he n nv du ta w mp mi k nt fu re) ++ mW z2 a2 0 n w gn lk pu fa he nv of mp mi k nt fu re) := hD
    have hS := hS9
    rw [show r7 = fa i from hw7]
    refine lv_istore (lv' := [(6, .int (fa i)), (5, .int 0), (0, .ref b), (1, .ref (a 0)), (2, .ref (a2 0)), (3, .ref o), (4, .int (nI r))]) hx hb dL_law_1006 hl (by decide) rfl (fun ls hl => ?_)
    refine lv_aload_n hx hb dL_law_1008 rfl (lv_at hl 4 rfl) ?_
    refine vp_callSi (W.runV (As := []) (rest := []) hC (c_X1_thrown l) (cwV 0 hC.2.2.2.2 (gi_V mM_L_106 mV_X1_thrown mS_X1_thrown mI_MissRegistryModel mC_X1_thrown) rfl rfl rfl (by decide +kernel) ⟨Nat.le_of_ble_eq_true rfl, Nat.le_of_ble_eq_true rfl⟩) (mpre hK2 (wj_Pr hP)) rfl rfl hl.1 rfl (lv_room (Nat.le_of_ble_eq_true rfl)) dL_law_1009 ⟨(show _ ≤ 601024 by omega), (show _ ≤ 7293034 by omega)⟩) (fun r8 hr8 => ?_)
    rw [show r8 = 0 from hr8]
    refine lv_iload hx hb dL_law_1012 (lv_at hl 1 rfl) ?_
    refine lv_icmp_eq (tgt := 1019) hx hb dL_law_1014 (by decide) (fun c_1014 => ?_) (fun c_1014 => ?_)
    · refine lv_iload hx hb dL_law_1019 (lv_at hl 1 rfl) ?_
      refine lv_if_ne (tgt := 1036) hx hb dL_law_1021 (by decide) (fun c_1021 => ?_) (fun c_1021 => ?_)
      · exact absurd rfl c_1021
      · refine lv_aload_n hx hb dL_law_1024 rfl (lv_at hl 5 rfl) ?_
        refine lv_iconst (v := 0) hx hb dL_law_1025 (by decide) ?_
        refine w_lald hC hJ (wj_Pl hP) dL_law_1026 ?_
        refine lv_iload hx hb dL_law_1027 (lv_at hl 0 rfl) ?_
        refine lv_i2l hx hb dL_law_1029 rfl ?_
        refine w_lcmp hx hb dL_law_1030 hu9 ?_
        refine lv_if_eq (tgt := 1036) hx hb dL_law_1031 (by decide) (fun c_1031 => ?_) (fun c_1031 => ?_)
        · refine lv_goto (tgt := 1948) hx hb dL_law_1036 (by decide) ?_
          exact kk _ _ _ _ _ ⟨lv, lk, pu, fa, he, n, nv, du, ta, w, mp, mi, k, nt, fu, re, gn, of, 0, u9, hI, hP, hD, hS⟩ (by omega) (by omega) (lv_sub hl [2, 3, 4, 5, 6] rfl)
        · exact absurd rfl c_1031
    · exact absurd rfl c_1014
set_option maxHeartbeats 8000000 in
set_option maxRecDepth 100000 in
theorem lc_21 {p : Program} {l : Launch} {e : Env} {s : State} {m : MethodId} {below : List Frame} {meth : Method} {c : Code} {H : Heap} {locs : List Loc} {cells slots : Nat} {Q : State → Prop} {ls : Array Slot} {b L : Nat} {xs : Nat → Int32} {D : va_G} {z z2 : ClassId × ClassId} {cJ : ClassId} {q9 t9 a a2 : Nat → Nat} {o : Nat} {lv lk pu fa he : Nat → Int32} {n : Nat} {nv du ta : Nat → Int32} {w : Nat} {mp mi : Nat → Int32} {k : Nat} {nt fu re : Int32} {gn of : Nat → Int32} {th : Int32} {g : Nat → Int64} {r : Nat} (X : LX p l s m c b L xs D z z2 cJ q9 t9) (hI : IV lv lk fa he n nv du w k gn of) (hP : va_P D vwCl (oW o cJ g (xW z a lv lk pu fa he n nv du ta w mp mi k nt fu re) ++ mW z2 a2 th n w gn lk pu fa he nv of mp mi k nt fu re) H) (hD : va_D (nw s) (oW o cJ g (xW z a lv lk pu fa he n nv du ta w mp mi k nt fu re) ++ mW z2 a2 th n w gn lk pu fa he nv of mp mi k nt fu re)) (hS : va_S (nw s) s.heap H locs) (hcl : cells + 12 ≤ 601024) (hsl : slots + 100 ≤ 7293034) (hr : r + 2 < L) (hl : lv_has ls 9 [(0, .ref b), (1, .ref (a 0)), (2, .ref (a2 0)), (3, .ref o), (4, .int (nI r))]) (kk : ∀ (H1 : Heap) (locs1 : List Loc) (c1 s1 : Nat) (ls1 : Array Slot), Jn D z z2 cJ a a2 o s H1 locs1 → c1 ≤ cells + 11 → s1 ≤ slots + 94 → lv_has ls1 9 [(0, .ref b), (1, .ref (a 0)), (2, .ref (a2 0)), (3, .ref o), (4, .int (nI r))] → W p l e room_1 s m #[.ref b] below meth c H1 locs1 c1 s1 Q (F0 m 1948 ls1 [])) : W p l e room_1 s m #[.ref b] below meth c H locs cells slots Q (F0 m 1039 ls []) := by
  obtain ⟨hC, hst, ⟨hX, hbl, hL⟩, ⟨hK, hK2, hJ⟩, hT, hN, hE⟩ := X
  have hx := hC.1
  have hb := hC.2.1
  have hA : ∀ q : Nat, s.heap.size ≤ q → nw s q := fun q h => h
  have hbA : ¬ nw s b := Nat.not_le.mpr hbl
  have hn := hI.1.1
  have hw := hI.1.2.1
  have hk := hI.1.2.2
  obtain ⟨x, hx1⟩ : ∃ x : Int32, xs (r + 1) = x := ⟨_, rfl⟩
  obtain ⟨y, hx2⟩ : ∃ y : Int32, xs (r + 2) = y := ⟨_, rfl⟩
  by_cases hp : sp_isP n x = 0
  · refine lv_aload_n hx hb dL_law_1039 rfl (lv_at hl 1 rfl) ?_
    refine lv_aload_n hx hb dL_law_1040 rfl (lv_at hl 0 rfl) ?_
    refine lv_iload hx hb dL_law_1041 (lv_at hl 4 rfl) ?_
    refine lv_iconst (v := 1) hx hb dL_law_1043 (by decide) ?_
    refine lv_iadd hx hb dL_law_1044 ?_
    refine w_sld hx hb hX hbl hbA hS hL (r + 1) (nI_1 r) (by omega) hx1 dL_law_1045 ?_
    refine lv_aload_n hx hb dL_law_1046 rfl (lv_at hl 3 rfl) ?_
    have hPO := wj_Pl hP
    have hDO := wj_Dl hD
    have hF := wj_Fl hD hS hA
    refine va_calli (vx_runSW (As := [.ref (a 0), .int x, .ref o]) (rest := []) hC (w_heirOf_a l hst H.size x hp) (vx_cwSW 3 hC.2.2.2.2 (gi_S mM_L_180 mT_L_heirOf mI_MissRegistryLaw mC_L_heirOf) rfl rfl rfl (by decide +kernel) ⟨Nat.le_of_ble_eq_true rfl, Nat.le_of_ble_eq_true rfl⟩) ⟨fun a1 U g mk q => ⟨q.1, q.2.1, q.2.2.1, va_K.moved (u := U) (U := U.calling g mk a1) (Vm.Alike.refl U.vm) q.2.2.2.1, va_K.moved (u := U) (U := U.calling g mk a1) (Vm.Alike.refl U.vm) q.2.2.2.2.1, ⟨q.2.2.2.2.2.1, tH.same (u := U) (U := U.calling g mk a1) rfl q.2.2.2.2.2.2.1, tN.moved (u := U) (U := U.calling g mk a1) (Vm.Alike.refl U.vm) q.2.2.2.2.2.2.2⟩⟩, fun U hU hW => ⟨rfl, by rw [hU], by rw [hU]; exact hPO, va_K.moved hW.alike hK, va_K.moved hW.alike hJ, hDO.weaken (fun _ _ _ _ => trivial), by rw [hU]; exact (hT.at hS).warm hW, hN.moved hW.alike⟩⟩ rfl rfl hl.1 rfl (lv_room (Nat.le_of_ble_eq_true rfl)) dL_law_1047 ⟨(show _ ≤ 601024 by omega), (show _ ≤ 7293034 by omega)⟩) hS (fun q _ h => hF q h) hF (fun r9 u9 t H locs ht hvm hw9 hB hz9 hk9 hS9 => ?_)
    obtain ⟨hP1, hD1⟩ := hB
    rw [ht] at hP1
    obtain ⟨hP, hD⟩ := wj_l hP hD hk9 hF hP1 hD1
    rw [show r9 = 1 from hw9]
    have hP : va_P D vwCl (oW o cJ g (xW z a lv lk pu fa he n nv du ta w mp mi k nt fu re) ++ mW z2 a2 th n w gn lk pu fa he nv of mp mi k nt fu re) H := hP
    have hD : va_D (nw s) (oW o cJ g (xW z a lv lk pu fa he n nv du ta w mp mi k nt fu re) ++ mW z2 a2 th n w gn lk pu fa he nv of mp mi k nt fu re) := hD
    have hS := hS9
    refine lv_istore (lv' := [(5, .int 1), (0, .ref b), (1, .ref (a 0)), (2, .ref (a2 0)), (3, .ref o), (4, .int (nI r))]) hx hb dL_law_1050 hl (by decide) rfl (fun ls hl => ?_)
    refine lv_aload_n hx hb dL_law_1052 rfl (lv_at hl 3 rfl) ?_
    refine lv_aload_n hx hb dL_law_1053 rfl (lv_at hl 1 rfl) ?_
    refine lv_iload hx hb dL_law_1054 (lv_at hl 5 rfl) ?_
    refine lv_iconst (v := 1) hx hb dL_law_1056 (by decide) ?_
    refine lv_iadd hx hb dL_law_1057 ?_
    refine w_sld hx hb hX hbl hbA hS hL (r + 1) (nI_1 r) (by omega) hx1 dL_law_1058 ?_
    have hPM := wj_Pr hP
    have hDM := wj_Dr hD
    have hF := wj_Fr hD hS hA
    refine va_calli (va_runV (As := [.int x]) (rest := []) hC (c_X1_heirOf_a l H.size x hn hp) (cwV 1 hC.2.2.2.2 (gi_V mM_L_182 mV_X1_heirOf mS_X1_heirOf mI_MissRegistryModel mC_X1_heirOf) rfl rfl rfl (by decide +kernel) ⟨Nat.le_of_ble_eq_true rfl, Nat.le_of_ble_eq_true rfl⟩) ⟨fun a1 U g mk q => ⟨q.1, q.2.1, ⟨q.2.2.1.1, va_K.moved (u := U) (U := U.calling g mk a1) (Vm.Alike.refl U.vm) q.2.2.1.2⟩, q.2.2.2⟩, va_recv hK2 hPM (ci := 1) (q0 := 0) rfl rfl, fun U hU hW => ⟨rfl, by rw [hU], ⟨by rw [hU]; exact hPM, va_K.moved hW.alike hK2⟩, hDM.weaken (fun _ _ _ _ => trivial)⟩⟩ rfl rfl hl.1 rfl (lv_room (Nat.le_of_ble_eq_true rfl)) dL_law_1059 ⟨(show _ ≤ 601024 by omega), (show _ ≤ 7293034 by omega)⟩) hS (fun q _ h => hF q h) hF (fun r7 u7 t H locs ht hvm hw7 hB hz9 hk9 hS9 => ?_)
    obtain ⟨hP1, hK1, hD1⟩ := hB
    rw [ht] at hP1
    obtain ⟨hP, hD⟩ := wj_r hP hD hk9 hF hP1 hD1
    have hP : va_P D vwCl (oW o cJ g (xW z a lv lk pu fa he n nv du ta w mp mi k nt fu re) ++ mW z2 a2 1 n w gn lk pu fa he nv of mp mi k nt fu re) H := hP
    have hD : va_D (nw s) (oW o cJ g (xW z a lv lk pu fa he n nv du ta w mp mi k nt fu re) ++ mW z2 a2 1 n w gn lk pu fa he nv of mp mi k nt fu re) := hD
    have hS := hS9
    rw [show r7 = 0 from hw7]
    refine lv_istore (lv' := [(6, .int 0), (5, .int 1), (0, .ref b), (1, .ref (a 0)), (2, .ref (a2 0)), (3, .ref o), (4, .int (nI r))]) hx hb dL_law_1062 hl (by decide) rfl (fun ls hl => ?_)
    refine lv_aload_n hx hb dL_law_1064 rfl (lv_at hl 4 rfl) ?_
    refine vp_callSi (W.runV (As := []) (rest := []) hC (c_X1_thrown l) (cwV 0 hC.2.2.2.2 (gi_V mM_L_106 mV_X1_thrown mS_X1_thrown mI_MissRegistryModel mC_X1_thrown) rfl rfl rfl (by decide +kernel) ⟨Nat.le_of_ble_eq_true rfl, Nat.le_of_ble_eq_true rfl⟩) (mpre hK2 (wj_Pr hP)) rfl rfl hl.1 rfl (lv_room (Nat.le_of_ble_eq_true rfl)) dL_law_1065 ⟨(show _ ≤ 601024 by omega), (show _ ≤ 7293034 by omega)⟩) (fun r8 hr8 => ?_)
    rw [show r8 = 1 from hr8]
    refine lv_iload hx hb dL_law_1068 (lv_at hl 1 rfl) ?_
    refine lv_icmp_eq (tgt := 1075) hx hb dL_law_1070 (by decide) (fun c_1070 => ?_) (fun c_1070 => ?_)
    · refine lv_iload hx hb dL_law_1075 (lv_at hl 1 rfl) ?_
      refine lv_if_ne (tgt := 1092) hx hb dL_law_1077 (by decide) (fun c_1077 => ?_) (fun c_1077 => ?_)
      · refine lv_goto (tgt := 1948) hx hb dL_law_1092 (by decide) ?_
        exact kk _ _ _ _ _ ⟨lv, lk, pu, fa, he, n, nv, du, ta, w, mp, mi, k, nt, fu, re, gn, of, 1, g, hI, hP, hD, hS⟩ (by omega) (by omega) (lv_sub hl [2, 3, 4, 5, 6] rfl)
      · exact absurd c_1077 (by decide)
    · exact absurd rfl c_1070
  · obtain ⟨i, hi, exi⟩ := isP_ex (by omega) hp
    subst exi
    refine lv_aload_n hx hb dL_law_1039 rfl (lv_at hl 1 rfl) ?_
    refine lv_aload_n hx hb dL_law_1040 rfl (lv_at hl 0 rfl) ?_
    refine lv_iload hx hb dL_law_1041 (lv_at hl 4 rfl) ?_
    refine lv_iconst (v := 1) hx hb dL_law_1043 (by decide) ?_
    refine lv_iadd hx hb dL_law_1044 ?_
    refine w_sld hx hb hX hbl hbA hS hL (r + 1) (nI_1 r) (by omega) hx1 dL_law_1045 ?_
    refine lv_aload_n hx hb dL_law_1046 rfl (lv_at hl 3 rfl) ?_
    have hPO := wj_Pl hP
    have hDO := wj_Dl hD
    have hF := wj_Fl hD hS hA
    refine va_calli (vx_runSW (As := [.ref (a 0), .int (nI i), .ref o]) (rest := []) hC (w_heirOf l H.size i hi hn) (vx_cwSW 3 hC.2.2.2.2 (gi_S mM_L_180 mT_L_heirOf mI_MissRegistryLaw mC_L_heirOf) rfl rfl rfl (by decide +kernel) ⟨Nat.le_of_ble_eq_true rfl, Nat.le_of_ble_eq_true rfl⟩) ⟨fun a1 U g mk q => ⟨q.1, q.2.1, q.2.2.1, va_K.moved (u := U) (U := U.calling g mk a1) (Vm.Alike.refl U.vm) q.2.2.2.1, va_K.moved (u := U) (U := U.calling g mk a1) (Vm.Alike.refl U.vm) q.2.2.2.2.1, q.2.2.2.2.2⟩, fun U hU hW => ⟨rfl, by rw [hU], by rw [hU]; exact hPO, va_K.moved hW.alike hK, va_K.moved hW.alike hJ, hDO.weaken (fun _ _ _ _ => trivial)⟩⟩ rfl rfl hl.1 rfl (lv_room (Nat.le_of_ble_eq_true rfl)) dL_law_1047 ⟨(show _ ≤ 601024 by omega), (show _ ≤ 7293034 by omega)⟩) hS (fun q _ h => hF q h) hF (fun r9 u9 t H locs ht hvm hw9 hB hz9 hk9 hS9 => ?_)
    obtain ⟨hP1, hD1⟩ := hB
    rw [ht] at hP1
    obtain ⟨hP, hD⟩ := wj_l hP hD hk9 hF hP1 hD1
    obtain ⟨hr9, hu9⟩ := hw9
    rw [hr9]
    have hP : va_P D vwCl (oW o cJ u9 (xW z a lv lk pu fa he n nv du ta w mp mi k nt fu re) ++ mW z2 a2 th n w gn lk pu fa he nv of mp mi k nt fu re) H := hP
    have hD : va_D (nw s) (oW o cJ u9 (xW z a lv lk pu fa he n nv du ta w mp mi k nt fu re) ++ mW z2 a2 th n w gn lk pu fa he nv of mp mi k nt fu re) := hD
    have hS := hS9
    refine lv_istore (lv' := [(5, .int 0), (0, .ref b), (1, .ref (a 0)), (2, .ref (a2 0)), (3, .ref o), (4, .int (nI r))]) hx hb dL_law_1050 hl (by decide) rfl (fun ls hl => ?_)
    refine lv_aload_n hx hb dL_law_1052 rfl (lv_at hl 3 rfl) ?_
    refine lv_aload_n hx hb dL_law_1053 rfl (lv_at hl 1 rfl) ?_
    refine lv_iload hx hb dL_law_1054 (lv_at hl 5 rfl) ?_
    refine lv_iconst (v := 1) hx hb dL_law_1056 (by decide) ?_
    refine lv_iadd hx hb dL_law_1057 ?_
    refine w_sld hx hb hX hbl hbA hS hL (r + 1) (nI_1 r) (by omega) hx1 dL_law_1058 ?_
    have hPM := wj_Pr hP
    have hDM := wj_Dr hD
    have hF := wj_Fr hD hS hA
    refine va_calli (va_runV (As := [.int (nI i)]) (rest := []) hC (c_X1_heirOf l H.size i hi hn) (cwV 1 hC.2.2.2.2 (gi_V mM_L_182 mV_X1_heirOf mS_X1_heirOf mI_MissRegistryModel mC_X1_heirOf) rfl rfl rfl (by decide +kernel) ⟨Nat.le_of_ble_eq_true rfl, Nat.le_of_ble_eq_true rfl⟩) ⟨fun a1 U g mk q => ⟨q.1, q.2.1, ⟨q.2.2.1.1, va_K.moved (u := U) (U := U.calling g mk a1) (Vm.Alike.refl U.vm) q.2.2.1.2⟩, q.2.2.2⟩, va_recv hK2 hPM (ci := 1) (q0 := 0) rfl rfl, fun U hU hW => ⟨rfl, by rw [hU], ⟨by rw [hU]; exact hPM, va_K.moved hW.alike hK2⟩, hDM.weaken (fun _ _ _ _ => trivial)⟩⟩ rfl rfl hl.1 rfl (lv_room (Nat.le_of_ble_eq_true rfl)) dL_law_1059 ⟨(show _ ≤ 601024 by omega), (show _ ≤ 7293034 by omega)⟩) hS (fun q _ h => hF q h) hF (fun r7 u7 t H locs ht hvm hw7 hB hz9 hk9 hS9 => ?_)
    obtain ⟨hP1, hK1, hD1⟩ := hB
    rw [ht] at hP1
    obtain ⟨hP, hD⟩ := wj_r hP hD hk9 hF hP1 hD1
    have hP : va_P D vwCl (oW o cJ u9 (xW z a lv lk pu fa he n nv du ta w mp mi k nt fu re) ++ mW z2 a2 0 n w gn lk pu fa he nv of mp mi k nt fu re) H := hP
    have hD : va_D (nw s) (oW o cJ u9 (xW z a lv lk pu fa he n nv du ta w mp mi k nt fu re) ++ mW z2 a2 0 n w gn lk pu fa he nv of mp mi k nt fu re) := hD
    have hS := hS9
    rw [show r7 = he i from hw7]
    refine lv_istore (lv' := [(6, .int (he i)), (5, .int 0), (0, .ref b), (1, .ref (a 0)), (2, .ref (a2 0)), (3, .ref o), (4, .int (nI r))]) hx hb dL_law_1062 hl (by decide) rfl (fun ls hl => ?_)
    refine lv_aload_n hx hb dL_law_1064 rfl (lv_at hl 4 rfl) ?_
    refine vp_callSi (W.runV (As := []) (rest := []) hC (c_X1_thrown l) (cwV 0 hC.2.2.2.2 (gi_V mM_L_106 mV_X1_thrown mS_X1_thrown mI_MissRegistryModel mC_X1_thrown) rfl rfl rfl (by decide +kernel) ⟨Nat.le_of_ble_eq_true rfl, Nat.le_of_ble_eq_true rfl⟩) (mpre hK2 (wj_Pr hP)) rfl rfl hl.1 rfl (lv_room (Nat.le_of_ble_eq_true rfl)) dL_law_1065 ⟨(show _ ≤ 601024 by omega), (show _ ≤ 7293034 by omega)⟩) (fun r8 hr8 => ?_)
    rw [show r8 = 0 from hr8]
    refine lv_iload hx hb dL_law_1068 (lv_at hl 1 rfl) ?_
    refine lv_icmp_eq (tgt := 1075) hx hb dL_law_1070 (by decide) (fun c_1070 => ?_) (fun c_1070 => ?_)
    · refine lv_iload hx hb dL_law_1075 (lv_at hl 1 rfl) ?_
      refine lv_if_ne (tgt := 1092) hx hb dL_law_1077 (by decide) (fun c_1077 => ?_) (fun c_1077 => ?_)
      · exact absurd rfl c_1077
      · refine lv_aload_n hx hb dL_law_1080 rfl (lv_at hl 5 rfl) ?_
        refine lv_iconst (v := 0) hx hb dL_law_1081 (by decide) ?_
        refine w_lald hC hJ (wj_Pl hP) dL_law_1082 ?_
        refine lv_iload hx hb dL_law_1083 (lv_at hl 0 rfl) ?_
        refine lv_i2l hx hb dL_law_1085 rfl ?_
        refine w_lcmp hx hb dL_law_1086 hu9 ?_
        refine lv_if_eq (tgt := 1092) hx hb dL_law_1087 (by decide) (fun c_1087 => ?_) (fun c_1087 => ?_)
        · refine lv_goto (tgt := 1948) hx hb dL_law_1092 (by decide) ?_
          exact kk _ _ _ _ _ ⟨lv, lk, pu, fa, he, n, nv, du, ta, w, mp, mi, k, nt, fu, re, gn, of, 0, u9, hI, hP, hD, hS⟩ (by omega) (by omega) (lv_sub hl [2, 3, 4, 5, 6] rfl)
        · exact absurd rfl c_1087
    · exact absurd rfl c_1070
set_option maxHeartbeats 8000000 in
set_option maxRecDepth 100000 in
theorem lc_22 {p : Program} {l : Launch} {e : Env} {s : State} {m : MethodId} {below : List Frame} {meth : Method} {c : Code} {H : Heap} {locs : List Loc} {cells slots : Nat} {Q : State → Prop} {ls : Array Slot} {b L : Nat} {xs : Nat → Int32} {D : va_G} {z z2 : ClassId × ClassId} {cJ : ClassId} {q9 t9 a a2 : Nat → Nat} {o : Nat} {lv lk pu fa he : Nat → Int32} {n : Nat} {nv du ta : Nat → Int32} {w : Nat} {mp mi : Nat → Int32} {k : Nat} {nt fu re : Int32} {gn of : Nat → Int32} {th : Int32} {g : Nat → Int64} {r : Nat} (X : LX p l s m c b L xs D z z2 cJ q9 t9) (hI : IV lv lk fa he n nv du w k gn of) (hP : va_P D vwCl (oW o cJ g (xW z a lv lk pu fa he n nv du ta w mp mi k nt fu re) ++ mW z2 a2 th n w gn lk pu fa he nv of mp mi k nt fu re) H) (hD : va_D (nw s) (oW o cJ g (xW z a lv lk pu fa he n nv du ta w mp mi k nt fu re) ++ mW z2 a2 th n w gn lk pu fa he nv of mp mi k nt fu re)) (hS : va_S (nw s) s.heap H locs) (hcl : cells + 12 ≤ 601024) (hsl : slots + 100 ≤ 7293034) (hr : r + 2 < L) (hl : lv_has ls 9 [(0, .ref b), (1, .ref (a 0)), (2, .ref (a2 0)), (3, .ref o), (4, .int (nI r))]) (kk : ∀ (H1 : Heap) (locs1 : List Loc) (c1 s1 : Nat) (ls1 : Array Slot), Jn D z z2 cJ a a2 o s H1 locs1 → c1 ≤ cells + 11 → s1 ≤ slots + 94 → lv_has ls1 9 [(0, .ref b), (1, .ref (a 0)), (2, .ref (a2 0)), (3, .ref o), (4, .int (nI r))] → W p l e room_1 s m #[.ref b] below meth c H1 locs1 c1 s1 Q (F0 m 1948 ls1 [])) : W p l e room_1 s m #[.ref b] below meth c H locs cells slots Q (F0 m 1095 ls []) := by
  obtain ⟨hC, hst, ⟨hX, hbl, hL⟩, ⟨hK, hK2, hJ⟩, hT, hN, hE⟩ := X
  have hx := hC.1
  have hb := hC.2.1
  have hA : ∀ q : Nat, s.heap.size ≤ q → nw s q := fun q h => h
  have hbA : ¬ nw s b := Nat.not_le.mpr hbl
  have hn := hI.1.1
  have hw := hI.1.2.1
  have hk := hI.1.2.2
  obtain ⟨x, hx1⟩ : ∃ x : Int32, xs (r + 1) = x := ⟨_, rfl⟩
  obtain ⟨y, hx2⟩ : ∃ y : Int32, xs (r + 2) = y := ⟨_, rfl⟩
  by_cases hp : sp_isP n x = 0
  · refine lv_aload_n hx hb dL_law_1095 rfl (lv_at hl 1 rfl) ?_
    refine lv_aload_n hx hb dL_law_1096 rfl (lv_at hl 0 rfl) ?_
    refine lv_iload hx hb dL_law_1097 (lv_at hl 4 rfl) ?_
    refine lv_iconst (v := 1) hx hb dL_law_1099 (by decide) ?_
    refine lv_iadd hx hb dL_law_1100 ?_
    refine w_sld hx hb hX hbl hbA hS hL (r + 1) (nI_1 r) (by omega) hx1 dL_law_1101 ?_
    refine lv_aload_n hx hb dL_law_1102 rfl (lv_at hl 3 rfl) ?_
    have hPO := wj_Pl hP
    have hDO := wj_Dl hD
    have hF := wj_Fl hD hS hA
    refine va_calli (vx_runSW (As := [.ref (a 0), .int x, .ref o]) (rest := []) hC (w_lastHeirOf_a l hst H.size x hp) (vx_cwSW 3 hC.2.2.2.2 (gi_S mM_L_183 mT_L_lastHeirOf mI_MissRegistryLaw mC_L_lastHeirOf) rfl rfl rfl (by decide +kernel) ⟨Nat.le_of_ble_eq_true rfl, Nat.le_of_ble_eq_true rfl⟩) ⟨fun a1 U g mk q => ⟨q.1, q.2.1, q.2.2.1, va_K.moved (u := U) (U := U.calling g mk a1) (Vm.Alike.refl U.vm) q.2.2.2.1, va_K.moved (u := U) (U := U.calling g mk a1) (Vm.Alike.refl U.vm) q.2.2.2.2.1, ⟨q.2.2.2.2.2.1, tH.same (u := U) (U := U.calling g mk a1) rfl q.2.2.2.2.2.2.1, tN.moved (u := U) (U := U.calling g mk a1) (Vm.Alike.refl U.vm) q.2.2.2.2.2.2.2⟩⟩, fun U hU hW => ⟨rfl, by rw [hU], by rw [hU]; exact hPO, va_K.moved hW.alike hK, va_K.moved hW.alike hJ, hDO.weaken (fun _ _ _ _ => trivial), by rw [hU]; exact (hT.at hS).warm hW, hN.moved hW.alike⟩⟩ rfl rfl hl.1 rfl (lv_room (Nat.le_of_ble_eq_true rfl)) dL_law_1103 ⟨(show _ ≤ 601024 by omega), (show _ ≤ 7293034 by omega)⟩) hS (fun q _ h => hF q h) hF (fun r9 u9 t H locs ht hvm hw9 hB hz9 hk9 hS9 => ?_)
    obtain ⟨hP1, hD1⟩ := hB
    rw [ht] at hP1
    obtain ⟨hP, hD⟩ := wj_l hP hD hk9 hF hP1 hD1
    rw [show r9 = 1 from hw9]
    have hP : va_P D vwCl (oW o cJ g (xW z a lv lk pu fa he n nv du ta w mp mi k nt fu re) ++ mW z2 a2 th n w gn lk pu fa he nv of mp mi k nt fu re) H := hP
    have hD : va_D (nw s) (oW o cJ g (xW z a lv lk pu fa he n nv du ta w mp mi k nt fu re) ++ mW z2 a2 th n w gn lk pu fa he nv of mp mi k nt fu re) := hD
    have hS := hS9
    refine lv_istore (lv' := [(5, .int 1), (0, .ref b), (1, .ref (a 0)), (2, .ref (a2 0)), (3, .ref o), (4, .int (nI r))]) hx hb dL_law_1106 hl (by decide) rfl (fun ls hl => ?_)
    refine lv_aload_n hx hb dL_law_1108 rfl (lv_at hl 3 rfl) ?_
    refine lv_aload_n hx hb dL_law_1109 rfl (lv_at hl 1 rfl) ?_
    refine lv_iload hx hb dL_law_1110 (lv_at hl 5 rfl) ?_
    refine lv_iconst (v := 1) hx hb dL_law_1112 (by decide) ?_
    refine lv_iadd hx hb dL_law_1113 ?_
    refine w_sld hx hb hX hbl hbA hS hL (r + 1) (nI_1 r) (by omega) hx1 dL_law_1114 ?_
    have hPM := wj_Pr hP
    have hDM := wj_Dr hD
    have hF := wj_Fr hD hS hA
    refine va_calli (va_runV (As := [.int x]) (rest := []) hC (c_X1_lastHeirOf_a l H.size x hn hp) (cwV 1 hC.2.2.2.2 (gi_V mM_L_185 mV_X1_lastHeirOf mS_X1_lastHeirOf mI_MissRegistryModel mC_X1_lastHeirOf) rfl rfl rfl (by decide +kernel) ⟨Nat.le_of_ble_eq_true rfl, Nat.le_of_ble_eq_true rfl⟩) ⟨fun a1 U g mk q => ⟨q.1, q.2.1, ⟨q.2.2.1.1, va_K.moved (u := U) (U := U.calling g mk a1) (Vm.Alike.refl U.vm) q.2.2.1.2⟩, q.2.2.2⟩, va_recv hK2 hPM (ci := 1) (q0 := 0) rfl rfl, fun U hU hW => ⟨rfl, by rw [hU], ⟨by rw [hU]; exact hPM, va_K.moved hW.alike hK2⟩, hDM.weaken (fun _ _ _ _ => trivial)⟩⟩ rfl rfl hl.1 rfl (lv_room (Nat.le_of_ble_eq_true rfl)) dL_law_1115 ⟨(show _ ≤ 601024 by omega), (show _ ≤ 7293034 by omega)⟩) hS (fun q _ h => hF q h) hF (fun r7 u7 t H locs ht hvm hw7 hB hz9 hk9 hS9 => ?_)
    obtain ⟨hP1, hK1, hD1⟩ := hB
    rw [ht] at hP1
    obtain ⟨hP, hD⟩ := wj_r hP hD hk9 hF hP1 hD1
    have hP : va_P D vwCl (oW o cJ g (xW z a lv lk pu fa he n nv du ta w mp mi k nt fu re) ++ mW z2 a2 1 n w gn lk pu fa he nv of mp mi k nt fu re) H := hP
    have hD : va_D (nw s) (oW o cJ g (xW z a lv lk pu fa he n nv du ta w mp mi k nt fu re) ++ mW z2 a2 1 n w gn lk pu fa he nv of mp mi k nt fu re) := hD
    have hS := hS9
    rw [show r7 = 0 from hw7]
    refine lv_istore (lv' := [(6, .int 0), (5, .int 1), (0, .ref b), (1, .ref (a 0)), (2, .ref (a2 0)), (3, .ref o), (4, .int (nI r))]) hx hb dL_law_1118 hl (by decide) rfl (fun ls hl => ?_)
    refine lv_aload_n hx hb dL_law_1120 rfl (lv_at hl 4 rfl) ?_
    refine vp_callSi (W.runV (As := []) (rest := []) hC (c_X1_thrown l) (cwV 0 hC.2.2.2.2 (gi_V mM_L_106 mV_X1_thrown mS_X1_thrown mI_MissRegistryModel mC_X1_thrown) rfl rfl rfl (by decide +kernel) ⟨Nat.le_of_ble_eq_true rfl, Nat.le_of_ble_eq_true rfl⟩) (mpre hK2 (wj_Pr hP)) rfl rfl hl.1 rfl (lv_room (Nat.le_of_ble_eq_true rfl)) dL_law_1121 ⟨(show _ ≤ 601024 by omega), (show _ ≤ 7293034 by omega)⟩) (fun r8 hr8 => ?_)
    rw [show r8 = 1 from hr8]
    refine lv_iload hx hb dL_law_1124 (lv_at hl 1 rfl) ?_
    refine lv_icmp_eq (tgt := 1131) hx hb dL_law_1126 (by decide) (fun c_1126 => ?_) (fun c_1126 => ?_)
    · refine lv_iload hx hb dL_law_1131 (lv_at hl 1 rfl) ?_
      refine lv_if_ne (tgt := 1148) hx hb dL_law_1133 (by decide) (fun c_1133 => ?_) (fun c_1133 => ?_)
      · refine lv_goto (tgt := 1948) hx hb dL_law_1148 (by decide) ?_
        exact kk _ _ _ _ _ ⟨lv, lk, pu, fa, he, n, nv, du, ta, w, mp, mi, k, nt, fu, re, gn, of, 1, g, hI, hP, hD, hS⟩ (by omega) (by omega) (lv_sub hl [2, 3, 4, 5, 6] rfl)
      · exact absurd c_1133 (by decide)
    · exact absurd rfl c_1126
  · obtain ⟨i, hi, exi⟩ := isP_ex (by omega) hp
    subst exi
    refine lv_aload_n hx hb dL_law_1095 rfl (lv_at hl 1 rfl) ?_
    refine lv_aload_n hx hb dL_law_1096 rfl (lv_at hl 0 rfl) ?_
    refine lv_iload hx hb dL_law_1097 (lv_at hl 4 rfl) ?_
    refine lv_iconst (v := 1) hx hb dL_law_1099 (by decide) ?_
    refine lv_iadd hx hb dL_law_1100 ?_
    refine w_sld hx hb hX hbl hbA hS hL (r + 1) (nI_1 r) (by omega) hx1 dL_law_1101 ?_
    refine lv_aload_n hx hb dL_law_1102 rfl (lv_at hl 3 rfl) ?_
    have hPO := wj_Pl hP
    have hDO := wj_Dl hD
    have hF := wj_Fl hD hS hA
    refine va_calli (vx_runSW (As := [.ref (a 0), .int (nI i), .ref o]) (rest := []) hC (w_lastHeirOf l H.size i hi hn) (vx_cwSW 3 hC.2.2.2.2 (gi_S mM_L_183 mT_L_lastHeirOf mI_MissRegistryLaw mC_L_lastHeirOf) rfl rfl rfl (by decide +kernel) ⟨Nat.le_of_ble_eq_true rfl, Nat.le_of_ble_eq_true rfl⟩) ⟨fun a1 U g mk q => ⟨q.1, q.2.1, q.2.2.1, va_K.moved (u := U) (U := U.calling g mk a1) (Vm.Alike.refl U.vm) q.2.2.2.1, va_K.moved (u := U) (U := U.calling g mk a1) (Vm.Alike.refl U.vm) q.2.2.2.2.1, q.2.2.2.2.2⟩, fun U hU hW => ⟨rfl, by rw [hU], by rw [hU]; exact hPO, va_K.moved hW.alike hK, va_K.moved hW.alike hJ, hDO.weaken (fun _ _ _ _ => trivial)⟩⟩ rfl rfl hl.1 rfl (lv_room (Nat.le_of_ble_eq_true rfl)) dL_law_1103 ⟨(show _ ≤ 601024 by omega), (show _ ≤ 7293034 by omega)⟩) hS (fun q _ h => hF q h) hF (fun r9 u9 t H locs ht hvm hw9 hB hz9 hk9 hS9 => ?_)
    obtain ⟨hP1, hD1⟩ := hB
    rw [ht] at hP1
    obtain ⟨hP, hD⟩ := wj_l hP hD hk9 hF hP1 hD1
    obtain ⟨hr9, hu9⟩ := hw9
    rw [hr9]
    have hP : va_P D vwCl (oW o cJ u9 (xW z a lv lk pu fa he n nv du ta w mp mi k nt fu re) ++ mW z2 a2 th n w gn lk pu fa he nv of mp mi k nt fu re) H := hP
    have hD : va_D (nw s) (oW o cJ u9 (xW z a lv lk pu fa he n nv du ta w mp mi k nt fu re) ++ mW z2 a2 th n w gn lk pu fa he nv of mp mi k nt fu re) := hD
    have hS := hS9
    refine lv_istore (lv' := [(5, .int 0), (0, .ref b), (1, .ref (a 0)), (2, .ref (a2 0)), (3, .ref o), (4, .int (nI r))]) hx hb dL_law_1106 hl (by decide) rfl (fun ls hl => ?_)
    refine lv_aload_n hx hb dL_law_1108 rfl (lv_at hl 3 rfl) ?_
    refine lv_aload_n hx hb dL_law_1109 rfl (lv_at hl 1 rfl) ?_
    refine lv_iload hx hb dL_law_1110 (lv_at hl 5 rfl) ?_
    refine lv_iconst (v := 1) hx hb dL_law_1112 (by decide) ?_
    refine lv_iadd hx hb dL_law_1113 ?_
    refine w_sld hx hb hX hbl hbA hS hL (r + 1) (nI_1 r) (by omega) hx1 dL_law_1114 ?_
    have hPM := wj_Pr hP
    have hDM := wj_Dr hD
    have hF := wj_Fr hD hS hA
    refine va_calli (va_runV (As := [.int (nI i)]) (rest := []) hC (c_X1_lastHeirOf l H.size i hi hn hI.2.2.2.1) (cwV 1 hC.2.2.2.2 (gi_V mM_L_185 mV_X1_lastHeirOf mS_X1_lastHeirOf mI_MissRegistryModel mC_X1_lastHeirOf) rfl rfl rfl (by decide +kernel) ⟨Nat.le_of_ble_eq_true rfl, Nat.le_of_ble_eq_true rfl⟩) ⟨fun a1 U g mk q => ⟨q.1, q.2.1, ⟨q.2.2.1.1, va_K.moved (u := U) (U := U.calling g mk a1) (Vm.Alike.refl U.vm) q.2.2.1.2⟩, q.2.2.2⟩, va_recv hK2 hPM (ci := 1) (q0 := 0) rfl rfl, fun U hU hW => ⟨rfl, by rw [hU], ⟨by rw [hU]; exact hPM, va_K.moved hW.alike hK2⟩, hDM.weaken (fun _ _ _ _ => trivial)⟩⟩ rfl rfl hl.1 rfl (lv_room (Nat.le_of_ble_eq_true rfl)) dL_law_1115 ⟨(show _ ≤ 601024 by omega), (show _ ≤ 7293034 by omega)⟩) hS (fun q _ h => hF q h) hF (fun r7 u7 t H locs ht hvm hw7 hB hz9 hk9 hS9 => ?_)
    obtain ⟨hP1, hK1, hD1⟩ := hB
    rw [ht] at hP1
    obtain ⟨hP, hD⟩ := wj_r hP hD hk9 hF hP1 hD1
    have hP : va_P D vwCl (oW o cJ u9 (xW z a lv lk pu fa he n nv du ta w mp mi k nt fu re) ++ mW z2 a2 0 n w gn lk pu fa he nv of mp mi k nt fu re) H := hP
    have hD : va_D (nw s) (oW o cJ u9 (xW z a lv lk pu fa he n nv du ta w mp mi k nt fu re) ++ mW z2 a2 0 n w gn lk pu fa he nv of mp mi k nt fu re) := hD
    have hS := hS9
    rw [show r7 = mq_last he gn i (n + 1) i from hw7]
    refine lv_istore (lv' := [(6, .int (mq_last he gn i (n + 1) i)), (5, .int 0), (0, .ref b), (1, .ref (a 0)), (2, .ref (a2 0)), (3, .ref o), (4, .int (nI r))]) hx hb dL_law_1118 hl (by decide) rfl (fun ls hl => ?_)
    refine lv_aload_n hx hb dL_law_1120 rfl (lv_at hl 4 rfl) ?_
    refine vp_callSi (W.runV (As := []) (rest := []) hC (c_X1_thrown l) (cwV 0 hC.2.2.2.2 (gi_V mM_L_106 mV_X1_thrown mS_X1_thrown mI_MissRegistryModel mC_X1_thrown) rfl rfl rfl (by decide +kernel) ⟨Nat.le_of_ble_eq_true rfl, Nat.le_of_ble_eq_true rfl⟩) (mpre hK2 (wj_Pr hP)) rfl rfl hl.1 rfl (lv_room (Nat.le_of_ble_eq_true rfl)) dL_law_1121 ⟨(show _ ≤ 601024 by omega), (show _ ≤ 7293034 by omega)⟩) (fun r8 hr8 => ?_)
    rw [show r8 = 0 from hr8]
    refine lv_iload hx hb dL_law_1124 (lv_at hl 1 rfl) ?_
    refine lv_icmp_eq (tgt := 1131) hx hb dL_law_1126 (by decide) (fun c_1126 => ?_) (fun c_1126 => ?_)
    · refine lv_iload hx hb dL_law_1131 (lv_at hl 1 rfl) ?_
      refine lv_if_ne (tgt := 1148) hx hb dL_law_1133 (by decide) (fun c_1133 => ?_) (fun c_1133 => ?_)
      · exact absurd rfl c_1133
      · refine lv_aload_n hx hb dL_law_1136 rfl (lv_at hl 5 rfl) ?_
        refine lv_iconst (v := 0) hx hb dL_law_1137 (by decide) ?_
        refine w_lald hC hJ (wj_Pl hP) dL_law_1138 ?_
        refine lv_iload hx hb dL_law_1139 (lv_at hl 0 rfl) ?_
        refine lv_i2l hx hb dL_law_1141 rfl ?_
        refine w_lcmp hx hb dL_law_1142 (hu9.trans (by rw [e_last hI hi])) ?_
        refine lv_if_eq (tgt := 1148) hx hb dL_law_1143 (by decide) (fun c_1143 => ?_) (fun c_1143 => ?_)
        · refine lv_goto (tgt := 1948) hx hb dL_law_1148 (by decide) ?_
          exact kk _ _ _ _ _ ⟨lv, lk, pu, fa, he, n, nv, du, ta, w, mp, mi, k, nt, fu, re, gn, of, 0, u9, hI, hP, hD, hS⟩ (by omega) (by omega) (lv_sub hl [2, 3, 4, 5, 6] rfl)
        · exact absurd rfl c_1143
    · exact absurd rfl c_1126
set_option maxHeartbeats 8000000 in
set_option maxRecDepth 100000 in
theorem lc_23 {p : Program} {l : Launch} {e : Env} {s : State} {m : MethodId} {below : List Frame} {meth : Method} {c : Code} {H : Heap} {locs : List Loc} {cells slots : Nat} {Q : State → Prop} {ls : Array Slot} {b L : Nat} {xs : Nat → Int32} {D : va_G} {z z2 : ClassId × ClassId} {cJ : ClassId} {q9 t9 a a2 : Nat → Nat} {o : Nat} {lv lk pu fa he : Nat → Int32} {n : Nat} {nv du ta : Nat → Int32} {w : Nat} {mp mi : Nat → Int32} {k : Nat} {nt fu re : Int32} {gn of : Nat → Int32} {th : Int32} {g : Nat → Int64} {r : Nat} (X : LX p l s m c b L xs D z z2 cJ q9 t9) (hI : IV lv lk fa he n nv du w k gn of) (hP : va_P D vwCl (oW o cJ g (xW z a lv lk pu fa he n nv du ta w mp mi k nt fu re) ++ mW z2 a2 th n w gn lk pu fa he nv of mp mi k nt fu re) H) (hD : va_D (nw s) (oW o cJ g (xW z a lv lk pu fa he n nv du ta w mp mi k nt fu re) ++ mW z2 a2 th n w gn lk pu fa he nv of mp mi k nt fu re)) (hS : va_S (nw s) s.heap H locs) (hcl : cells + 12 ≤ 601024) (hsl : slots + 100 ≤ 7293034) (hr : r + 2 < L) (hl : lv_has ls 9 [(0, .ref b), (1, .ref (a 0)), (2, .ref (a2 0)), (3, .ref o), (4, .int (nI r))]) (kk : ∀ (H1 : Heap) (locs1 : List Loc) (c1 s1 : Nat) (ls1 : Array Slot), Jn D z z2 cJ a a2 o s H1 locs1 → c1 ≤ cells + 11 → s1 ≤ slots + 94 → lv_has ls1 9 [(0, .ref b), (1, .ref (a 0)), (2, .ref (a2 0)), (3, .ref o), (4, .int (nI r))] → W p l e room_1 s m #[.ref b] below meth c H1 locs1 c1 s1 Q (F0 m 1948 ls1 [])) : W p l e room_1 s m #[.ref b] below meth c H locs cells slots Q (F0 m 1151 ls []) := by
  obtain ⟨hC, hst, ⟨hX, hbl, hL⟩, ⟨hK, hK2, hJ⟩, hT, hN, hE⟩ := X
  have hx := hC.1
  have hb := hC.2.1
  have hA : ∀ q : Nat, s.heap.size ≤ q → nw s q := fun q h => h
  have hbA : ¬ nw s b := Nat.not_le.mpr hbl
  have hn := hI.1.1
  have hw := hI.1.2.1
  have hk := hI.1.2.2
  obtain ⟨x, hx1⟩ : ∃ x : Int32, xs (r + 1) = x := ⟨_, rfl⟩
  obtain ⟨y, hx2⟩ : ∃ y : Int32, xs (r + 2) = y := ⟨_, rfl⟩
  by_cases hp : sp_isP n x = 0
  · refine lv_aload_n hx hb dL_law_1151 rfl (lv_at hl 1 rfl) ?_
    refine lv_aload_n hx hb dL_law_1152 rfl (lv_at hl 0 rfl) ?_
    refine lv_iload hx hb dL_law_1153 (lv_at hl 4 rfl) ?_
    refine lv_iconst (v := 1) hx hb dL_law_1155 (by decide) ?_
    refine lv_iadd hx hb dL_law_1156 ?_
    refine w_sld hx hb hX hbl hbA hS hL (r + 1) (nI_1 r) (by omega) hx1 dL_law_1157 ?_
    refine lv_aload_n hx hb dL_law_1158 rfl (lv_at hl 3 rfl) ?_
    have hPO := wj_Pl hP
    have hDO := wj_Dl hD
    have hF := wj_Fl hD hS hA
    refine va_calli (vx_runSW (As := [.ref (a 0), .int x, .ref o]) (rest := []) hC (w_priceFor_a l hst H.size x hp) (vx_cwSW 3 hC.2.2.2.2 (gi_S mM_L_186 mT_L_priceFor mI_MissRegistryLaw mC_L_priceFor) rfl rfl rfl (by decide +kernel) ⟨Nat.le_of_ble_eq_true rfl, Nat.le_of_ble_eq_true rfl⟩) ⟨fun a1 U g mk q => ⟨q.1, q.2.1, q.2.2.1, va_K.moved (u := U) (U := U.calling g mk a1) (Vm.Alike.refl U.vm) q.2.2.2.1, va_K.moved (u := U) (U := U.calling g mk a1) (Vm.Alike.refl U.vm) q.2.2.2.2.1, ⟨q.2.2.2.2.2.1, tH.same (u := U) (U := U.calling g mk a1) rfl q.2.2.2.2.2.2.1, tN.moved (u := U) (U := U.calling g mk a1) (Vm.Alike.refl U.vm) q.2.2.2.2.2.2.2⟩⟩, fun U hU hW => ⟨rfl, by rw [hU], by rw [hU]; exact hPO, va_K.moved hW.alike hK, va_K.moved hW.alike hJ, hDO.weaken (fun _ _ _ _ => trivial), by rw [hU]; exact (hT.at hS).warm hW, hN.moved hW.alike⟩⟩ rfl rfl hl.1 rfl (lv_room (Nat.le_of_ble_eq_true rfl)) dL_law_1159 ⟨(show _ ≤ 601024 by omega), (show _ ≤ 7293034 by omega)⟩) hS (fun q _ h => hF q h) hF (fun r9 u9 t H locs ht hvm hw9 hB hz9 hk9 hS9 => ?_)
    obtain ⟨hP1, hD1⟩ := hB
    rw [ht] at hP1
    obtain ⟨hP, hD⟩ := wj_l hP hD hk9 hF hP1 hD1
    rw [show r9 = 1 from hw9]
    have hP : va_P D vwCl (oW o cJ g (xW z a lv lk pu fa he n nv du ta w mp mi k nt fu re) ++ mW z2 a2 th n w gn lk pu fa he nv of mp mi k nt fu re) H := hP
    have hD : va_D (nw s) (oW o cJ g (xW z a lv lk pu fa he n nv du ta w mp mi k nt fu re) ++ mW z2 a2 th n w gn lk pu fa he nv of mp mi k nt fu re) := hD
    have hS := hS9
    refine lv_istore (lv' := [(5, .int 1), (0, .ref b), (1, .ref (a 0)), (2, .ref (a2 0)), (3, .ref o), (4, .int (nI r))]) hx hb dL_law_1162 hl (by decide) rfl (fun ls hl => ?_)
    refine lv_aload_n hx hb dL_law_1164 rfl (lv_at hl 3 rfl) ?_
    refine lv_aload_n hx hb dL_law_1165 rfl (lv_at hl 1 rfl) ?_
    refine lv_iload hx hb dL_law_1166 (lv_at hl 5 rfl) ?_
    refine lv_iconst (v := 1) hx hb dL_law_1168 (by decide) ?_
    refine lv_iadd hx hb dL_law_1169 ?_
    refine w_sld hx hb hX hbl hbA hS hL (r + 1) (nI_1 r) (by omega) hx1 dL_law_1170 ?_
    have hPM := wj_Pr hP
    have hDM := wj_Dr hD
    have hF := wj_Fr hD hS hA
    refine va_calli (va_runV (As := [.int x]) (rest := []) hC (c_X1_priceFor_a l H.size x hn hp) (cwV 1 hC.2.2.2.2 (gi_V mM_L_188 mV_X1_priceFor mS_X1_priceFor mI_MissRegistryModel mC_X1_priceFor) rfl rfl rfl (by decide +kernel) ⟨Nat.le_of_ble_eq_true rfl, Nat.le_of_ble_eq_true rfl⟩) ⟨fun a1 U g mk q => ⟨q.1, q.2.1, ⟨q.2.2.1.1, va_K.moved (u := U) (U := U.calling g mk a1) (Vm.Alike.refl U.vm) q.2.2.1.2⟩, q.2.2.2⟩, va_recv hK2 hPM (ci := 1) (q0 := 0) rfl rfl, fun U hU hW => ⟨rfl, by rw [hU], ⟨by rw [hU]; exact hPM, va_K.moved hW.alike hK2⟩, hDM.weaken (fun _ _ _ _ => trivial)⟩⟩ rfl rfl hl.1 rfl (lv_room (Nat.le_of_ble_eq_true rfl)) dL_law_1171 ⟨(show _ ≤ 601024 by omega), (show _ ≤ 7293034 by omega)⟩) hS (fun q _ h => hF q h) hF (fun r7 u7 t H locs ht hvm hw7 hB hz9 hk9 hS9 => ?_)
    obtain ⟨hP1, hK1, hD1⟩ := hB
    rw [ht] at hP1
    obtain ⟨hP, hD⟩ := wj_r hP hD hk9 hF hP1 hD1
    have hP : va_P D vwCl (oW o cJ g (xW z a lv lk pu fa he n nv du ta w mp mi k nt fu re) ++ mW z2 a2 1 n w gn lk pu fa he nv of mp mi k nt fu re) H := hP
    have hD : va_D (nw s) (oW o cJ g (xW z a lv lk pu fa he n nv du ta w mp mi k nt fu re) ++ mW z2 a2 1 n w gn lk pu fa he nv of mp mi k nt fu re) := hD
    have hS := hS9
    rw [show r7 = 0 from hw7]
    refine lv_istore (lv' := [(6, .int 0), (5, .int 1), (0, .ref b), (1, .ref (a 0)), (2, .ref (a2 0)), (3, .ref o), (4, .int (nI r))]) hx hb dL_law_1174 hl (by decide) rfl (fun ls hl => ?_)
    refine lv_aload_n hx hb dL_law_1176 rfl (lv_at hl 4 rfl) ?_
    refine vp_callSi (W.runV (As := []) (rest := []) hC (c_X1_thrown l) (cwV 0 hC.2.2.2.2 (gi_V mM_L_106 mV_X1_thrown mS_X1_thrown mI_MissRegistryModel mC_X1_thrown) rfl rfl rfl (by decide +kernel) ⟨Nat.le_of_ble_eq_true rfl, Nat.le_of_ble_eq_true rfl⟩) (mpre hK2 (wj_Pr hP)) rfl rfl hl.1 rfl (lv_room (Nat.le_of_ble_eq_true rfl)) dL_law_1177 ⟨(show _ ≤ 601024 by omega), (show _ ≤ 7293034 by omega)⟩) (fun r8 hr8 => ?_)
    rw [show r8 = 1 from hr8]
    refine lv_iload hx hb dL_law_1180 (lv_at hl 1 rfl) ?_
    refine lv_icmp_eq (tgt := 1187) hx hb dL_law_1182 (by decide) (fun c_1182 => ?_) (fun c_1182 => ?_)
    · refine lv_iload hx hb dL_law_1187 (lv_at hl 1 rfl) ?_
      refine lv_if_ne (tgt := 1204) hx hb dL_law_1189 (by decide) (fun c_1189 => ?_) (fun c_1189 => ?_)
      · refine lv_goto (tgt := 1948) hx hb dL_law_1204 (by decide) ?_
        exact kk _ _ _ _ _ ⟨lv, lk, pu, fa, he, n, nv, du, ta, w, mp, mi, k, nt, fu, re, gn, of, 1, g, hI, hP, hD, hS⟩ (by omega) (by omega) (lv_sub hl [2, 3, 4, 5, 6] rfl)
      · exact absurd c_1189 (by decide)
    · exact absurd rfl c_1182
  · obtain ⟨i, hi, exi⟩ := isP_ex (by omega) hp
    subst exi
    refine lv_aload_n hx hb dL_law_1151 rfl (lv_at hl 1 rfl) ?_
    refine lv_aload_n hx hb dL_law_1152 rfl (lv_at hl 0 rfl) ?_
    refine lv_iload hx hb dL_law_1153 (lv_at hl 4 rfl) ?_
    refine lv_iconst (v := 1) hx hb dL_law_1155 (by decide) ?_
    refine lv_iadd hx hb dL_law_1156 ?_
    refine w_sld hx hb hX hbl hbA hS hL (r + 1) (nI_1 r) (by omega) hx1 dL_law_1157 ?_
    refine lv_aload_n hx hb dL_law_1158 rfl (lv_at hl 3 rfl) ?_
    have hPO := wj_Pl hP
    have hDO := wj_Dl hD
    have hF := wj_Fl hD hS hA
    refine va_calli (vx_runSW (As := [.ref (a 0), .int (nI i), .ref o]) (rest := []) hC (w_priceFor l H.size i hi hn) (vx_cwSW 3 hC.2.2.2.2 (gi_S mM_L_186 mT_L_priceFor mI_MissRegistryLaw mC_L_priceFor) rfl rfl rfl (by decide +kernel) ⟨Nat.le_of_ble_eq_true rfl, Nat.le_of_ble_eq_true rfl⟩) ⟨fun a1 U g mk q => ⟨q.1, q.2.1, q.2.2.1, va_K.moved (u := U) (U := U.calling g mk a1) (Vm.Alike.refl U.vm) q.2.2.2.1, va_K.moved (u := U) (U := U.calling g mk a1) (Vm.Alike.refl U.vm) q.2.2.2.2.1, q.2.2.2.2.2⟩, fun U hU hW => ⟨rfl, by rw [hU], by rw [hU]; exact hPO, va_K.moved hW.alike hK, va_K.moved hW.alike hJ, hDO.weaken (fun _ _ _ _ => trivial)⟩⟩ rfl rfl hl.1 rfl (lv_room (Nat.le_of_ble_eq_true rfl)) dL_law_1159 ⟨(show _ ≤ 601024 by omega), (show _ ≤ 7293034 by omega)⟩) hS (fun q _ h => hF q h) hF (fun r9 u9 t H locs ht hvm hw9 hB hz9 hk9 hS9 => ?_)
    obtain ⟨hP1, hD1⟩ := hB
    rw [ht] at hP1
    obtain ⟨hP, hD⟩ := wj_l hP hD hk9 hF hP1 hD1
    obtain ⟨hr9, hu9⟩ := hw9
    rw [hr9]
    have hP : va_P D vwCl (oW o cJ u9 (xW z a lv lk pu fa he n nv du ta w mp mi k nt fu re) ++ mW z2 a2 th n w gn lk pu fa he nv of mp mi k nt fu re) H := hP
    have hD : va_D (nw s) (oW o cJ u9 (xW z a lv lk pu fa he n nv du ta w mp mi k nt fu re) ++ mW z2 a2 th n w gn lk pu fa he nv of mp mi k nt fu re) := hD
    have hS := hS9
    refine lv_istore (lv' := [(5, .int 0), (0, .ref b), (1, .ref (a 0)), (2, .ref (a2 0)), (3, .ref o), (4, .int (nI r))]) hx hb dL_law_1162 hl (by decide) rfl (fun ls hl => ?_)
    refine lv_aload_n hx hb dL_law_1164 rfl (lv_at hl 3 rfl) ?_
    refine lv_aload_n hx hb dL_law_1165 rfl (lv_at hl 1 rfl) ?_
    refine lv_iload hx hb dL_law_1166 (lv_at hl 5 rfl) ?_
    refine lv_iconst (v := 1) hx hb dL_law_1168 (by decide) ?_
    refine lv_iadd hx hb dL_law_1169 ?_
    refine w_sld hx hb hX hbl hbA hS hL (r + 1) (nI_1 r) (by omega) hx1 dL_law_1170 ?_
    have hPM := wj_Pr hP
    have hDM := wj_Dr hD
    have hF := wj_Fr hD hS hA
    refine va_calli (va_runV (As := [.int (nI i)]) (rest := []) hC (c_X1_priceFor l H.size i hi hn) (cwV 1 hC.2.2.2.2 (gi_V mM_L_188 mV_X1_priceFor mS_X1_priceFor mI_MissRegistryModel mC_X1_priceFor) rfl rfl rfl (by decide +kernel) ⟨Nat.le_of_ble_eq_true rfl, Nat.le_of_ble_eq_true rfl⟩) ⟨fun a1 U g mk q => ⟨q.1, q.2.1, ⟨q.2.2.1.1, va_K.moved (u := U) (U := U.calling g mk a1) (Vm.Alike.refl U.vm) q.2.2.1.2⟩, q.2.2.2⟩, va_recv hK2 hPM (ci := 1) (q0 := 0) rfl rfl, fun U hU hW => ⟨rfl, by rw [hU], ⟨by rw [hU]; exact hPM, va_K.moved hW.alike hK2⟩, hDM.weaken (fun _ _ _ _ => trivial)⟩⟩ rfl rfl hl.1 rfl (lv_room (Nat.le_of_ble_eq_true rfl)) dL_law_1171 ⟨(show _ ≤ 601024 by omega), (show _ ≤ 7293034 by omega)⟩) hS (fun q _ h => hF q h) hF (fun r7 u7 t H locs ht hvm hw7 hB hz9 hk9 hS9 => ?_)
    obtain ⟨hP1, hK1, hD1⟩ := hB
    rw [ht] at hP1
    obtain ⟨hP, hD⟩ := wj_r hP hD hk9 hF hP1 hD1
    have hP : va_P D vwCl (oW o cJ u9 (xW z a lv lk pu fa he n nv du ta w mp mi k nt fu re) ++ mW z2 a2 0 n w gn lk pu fa he nv of mp mi k nt fu re) H := hP
    have hD : va_D (nw s) (oW o cJ u9 (xW z a lv lk pu fa he n nv du ta w mp mi k nt fu re) ++ mW z2 a2 0 n w gn lk pu fa he nv of mp mi k nt fu re) := hD
    have hS := hS9
    rw [show r7 = sp_price (lk i) from hw7]
    refine lv_istore (lv' := [(6, .int (sp_price (lk i))), (5, .int 0), (0, .ref b), (1, .ref (a 0)), (2, .ref (a2 0)), (3, .ref o), (4, .int (nI r))]) hx hb dL_law_1174 hl (by decide) rfl (fun ls hl => ?_)
    refine lv_aload_n hx hb dL_law_1176 rfl (lv_at hl 4 rfl) ?_
    refine vp_callSi (W.runV (As := []) (rest := []) hC (c_X1_thrown l) (cwV 0 hC.2.2.2.2 (gi_V mM_L_106 mV_X1_thrown mS_X1_thrown mI_MissRegistryModel mC_X1_thrown) rfl rfl rfl (by decide +kernel) ⟨Nat.le_of_ble_eq_true rfl, Nat.le_of_ble_eq_true rfl⟩) (mpre hK2 (wj_Pr hP)) rfl rfl hl.1 rfl (lv_room (Nat.le_of_ble_eq_true rfl)) dL_law_1177 ⟨(show _ ≤ 601024 by omega), (show _ ≤ 7293034 by omega)⟩) (fun r8 hr8 => ?_)
    rw [show r8 = 0 from hr8]
    refine lv_iload hx hb dL_law_1180 (lv_at hl 1 rfl) ?_
    refine lv_icmp_eq (tgt := 1187) hx hb dL_law_1182 (by decide) (fun c_1182 => ?_) (fun c_1182 => ?_)
    · refine lv_iload hx hb dL_law_1187 (lv_at hl 1 rfl) ?_
      refine lv_if_ne (tgt := 1204) hx hb dL_law_1189 (by decide) (fun c_1189 => ?_) (fun c_1189 => ?_)
      · exact absurd rfl c_1189
      · refine lv_aload_n hx hb dL_law_1192 rfl (lv_at hl 5 rfl) ?_
        refine lv_iconst (v := 0) hx hb dL_law_1193 (by decide) ?_
        refine w_lald hC hJ (wj_Pl hP) dL_law_1194 ?_
        refine lv_iload hx hb dL_law_1195 (lv_at hl 0 rfl) ?_
        refine lv_i2l hx hb dL_law_1197 rfl ?_
        refine w_lcmp hx hb dL_law_1198 hu9 ?_
        refine lv_if_eq (tgt := 1204) hx hb dL_law_1199 (by decide) (fun c_1199 => ?_) (fun c_1199 => ?_)
        · refine lv_goto (tgt := 1948) hx hb dL_law_1204 (by decide) ?_
          exact kk _ _ _ _ _ ⟨lv, lk, pu, fa, he, n, nv, du, ta, w, mp, mi, k, nt, fu, re, gn, of, 0, u9, hI, hP, hD, hS⟩ (by omega) (by omega) (lv_sub hl [2, 3, 4, 5, 6] rfl)
        · exact absurd rfl c_1199
    · exact absurd rfl c_1182

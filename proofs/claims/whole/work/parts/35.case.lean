set_option maxHeartbeats 8000000 in
set_option maxRecDepth 100000 in
theorem lc_32 {p : Program} {l : Launch} {e : Env} {s : State} {m : MethodId} {below : List Frame} {meth : Method} {c : Code} {H : Heap} {locs : List Loc} {cells slots : Nat} {Q : State → Prop} {ls : Array Slot} {b L : Nat} {xs : Nat → Int32} {D : va_G} {z z2 : ClassId × ClassId} {cJ : ClassId} {q9 t9 a a2 : Nat → Nat} {o : Nat} {lv lk pu fa he : Nat → Int32} {n : Nat} {nv du ta : Nat → Int32} {w : Nat} {mp mi : Nat → Int32} {k : Nat} {nt fu re : Int32} {gn of : Nat → Int32} {th : Int32} {g : Nat → Int64} {r : Nat} (X : LX p l s m c b L xs D z z2 cJ q9 t9) (hI : IV lv lk fa he n nv du w k gn of) (hP : va_P D vwCl (oW o cJ g (xW z a lv lk pu fa he n nv du ta w mp mi k nt fu re) ++ mW z2 a2 th n w gn lk pu fa he nv of mp mi k nt fu re) H) (hD : va_D (nw s) (oW o cJ g (xW z a lv lk pu fa he n nv du ta w mp mi k nt fu re) ++ mW z2 a2 th n w gn lk pu fa he nv of mp mi k nt fu re)) (hS : va_S (nw s) s.heap H locs) (hcl : cells + 12 ≤ 601024) (hsl : slots + 100 ≤ 7293034) (hr : r + 2 < L) (hl : lv_has ls 9 [(0, .ref b), (1, .ref (a 0)), (2, .ref (a2 0)), (3, .ref o), (4, .int (nI r))]) (kk : ∀ (H1 : Heap) (locs1 : List Loc) (c1 s1 : Nat) (ls1 : Array Slot), Jn D z z2 cJ a a2 o s H1 locs1 → c1 ≤ cells + 11 → s1 ≤ slots + 94 → lv_has ls1 9 [(0, .ref b), (1, .ref (a 0)), (2, .ref (a2 0)), (3, .ref o), (4, .int (nI r))] → W p l e room_1 s m #[.ref b] below meth c H1 locs1 c1 s1 Q (F0 m 1948 ls1 [])) : W p l e room_1 s m #[.ref b] below meth c H locs cells slots Q (F0 m 1674 ls []) := by
  obtain ⟨hC, hst, ⟨hX, hbl, hL⟩, ⟨hK, hK2, hJ⟩, hT, hN, hE⟩ := X
  have hx := hC.1
  have hb := hC.2.1
  have hA : ∀ q : Nat, s.heap.size ≤ q → nw s q := fun q h => h
  have hbA : ¬ nw s b := Nat.not_le.mpr hbl
  have hn := hI.1.1
  have hw := hI.1.2.1
  have hk := hI.1.2.2
  obtain ⟨x, hx1⟩ : ∃ x : Int32, xs (r + 1) = x := ⟨_, rfl⟩
  obtain ⟨y, hx2⟩ : ∃ y : Int32, xs (r + 2) = y := ⟨_, rfl⟩
  by_cases hbad : x < 1 ∨ ¬ x ≤ 60
  · refine lv_aload_n hx hb dL_law_1674 rfl (lv_at hl 1 rfl) ?_
    refine lv_aload_n hx hb dL_law_1675 rfl (lv_at hl 0 rfl) ?_
    refine lv_iload hx hb dL_law_1676 (lv_at hl 4 rfl) ?_
    refine lv_iconst (v := 1) hx hb dL_law_1678 (by decide) ?_
    refine lv_iadd hx hb dL_law_1679 ?_
    refine w_sld hx hb hX hbl hbA hS hL (r + 1) (nI_1 r) (by omega) hx1 dL_law_1680 ?_
    refine lv_aload_n hx hb dL_law_1681 rfl (lv_at hl 3 rfl) ?_
    have hPO := wj_Pl hP
    have hDO := wj_Dl hD
    have hF := wj_Fl hD hS hA
    refine va_calli (vx_runSW (As := [.ref (a 0), .int x, .ref o]) (rest := []) hC (w_wouldCertify_a l hst H.size x hbad) (vx_cwSW 3 hC.2.2.2.2 (gi_S mM_L_213 mT_L_wouldCertify mI_MissRegistryLaw mC_L_wouldCertify) rfl rfl rfl (by decide +kernel) ⟨Nat.le_of_ble_eq_true rfl, Nat.le_of_ble_eq_true rfl⟩) ⟨fun a1 U g mk q => ⟨q.1, q.2.1, q.2.2.1, va_K.moved (u := U) (U := U.calling g mk a1) (Vm.Alike.refl U.vm) q.2.2.2.1, va_K.moved (u := U) (U := U.calling g mk a1) (Vm.Alike.refl U.vm) q.2.2.2.2.1, ⟨q.2.2.2.2.2.1, tH.same (u := U) (U := U.calling g mk a1) rfl q.2.2.2.2.2.2.1, tN.moved (u := U) (U := U.calling g mk a1) (Vm.Alike.refl U.vm) q.2.2.2.2.2.2.2⟩⟩, fun U hU hW => ⟨rfl, by rw [hU], by rw [hU]; exact hPO, va_K.moved hW.alike hK, va_K.moved hW.alike hJ, hDO.weaken (fun _ _ _ _ => trivial), by rw [hU]; exact (hT.at hS).warm hW, hN.moved hW.alike⟩⟩ rfl rfl hl.1 rfl (lv_room (Nat.le_of_ble_eq_true rfl)) dL_law_1682 ⟨(show _ ≤ 601024 by omega), (show _ ≤ 7293034 by omega)⟩) hS (fun q _ h => hF q h) hF (fun r9 u9 t H locs ht hvm hw9 hB hz9 hk9 hS9 => ?_)
    obtain ⟨hP1, hD1⟩ := hB
    rw [ht] at hP1
    obtain ⟨hP, hD⟩ := wj_l hP hD hk9 hF hP1 hD1
    rw [show r9 = 1 from hw9]
    have hP : va_P D vwCl (oW o cJ g (xW z a lv lk pu fa he n nv du ta w mp mi k nt fu re) ++ mW z2 a2 th n w gn lk pu fa he nv of mp mi k nt fu re) H := hP
    have hD : va_D (nw s) (oW o cJ g (xW z a lv lk pu fa he n nv du ta w mp mi k nt fu re) ++ mW z2 a2 th n w gn lk pu fa he nv of mp mi k nt fu re) := hD
    have hS := hS9
    refine lv_istore (lv' := [(5, .int 1), (0, .ref b), (1, .ref (a 0)), (2, .ref (a2 0)), (3, .ref o), (4, .int (nI r))]) hx hb dL_law_1685 hl (by decide) rfl (fun ls hl => ?_)
    refine lv_aload_n hx hb dL_law_1687 rfl (lv_at hl 3 rfl) ?_
    refine lv_aload_n hx hb dL_law_1688 rfl (lv_at hl 1 rfl) ?_
    refine lv_iload hx hb dL_law_1689 (lv_at hl 5 rfl) ?_
    refine lv_iconst (v := 1) hx hb dL_law_1691 (by decide) ?_
    refine lv_iadd hx hb dL_law_1692 ?_
    refine w_sld hx hb hX hbl hbA hS hL (r + 1) (nI_1 r) (by omega) hx1 dL_law_1693 ?_
    have hPM := wj_Pr hP
    have hDM := wj_Dr hD
    have hF := wj_Fr hD hS hA
    refine va_calli (va_runV (As := [.int x]) (rest := []) hC (c_X1_wouldCertify_a l H.size x hbad) (cwV 1 hC.2.2.2.2 (gi_V mM_L_215 mV_X1_wouldCertify mS_X1_wouldCertify mI_MissRegistryModel mC_X1_wouldCertify) rfl rfl rfl (by decide +kernel) ⟨Nat.le_of_ble_eq_true rfl, Nat.le_of_ble_eq_true rfl⟩) ⟨fun a1 U g mk q => ⟨q.1, q.2.1, ⟨q.2.2.1.1, va_K.moved (u := U) (U := U.calling g mk a1) (Vm.Alike.refl U.vm) q.2.2.1.2⟩, q.2.2.2⟩, va_recv hK2 hPM (ci := 1) (q0 := 0) rfl rfl, fun U hU hW => ⟨rfl, by rw [hU], ⟨by rw [hU]; exact hPM, va_K.moved hW.alike hK2⟩, hDM.weaken (fun _ _ _ _ => trivial)⟩⟩ rfl rfl hl.1 rfl (lv_room (Nat.le_of_ble_eq_true rfl)) dL_law_1694 ⟨(show _ ≤ 601024 by omega), (show _ ≤ 7293034 by omega)⟩) hS (fun q _ h => hF q h) hF (fun r7 u7 t H locs ht hvm hw7 hB hz9 hk9 hS9 => ?_)
    obtain ⟨hP1, hK1, hD1⟩ := hB
    rw [ht] at hP1
    obtain ⟨hP, hD⟩ := wj_r hP hD hk9 hF hP1 hD1
    have hP : va_P D vwCl (oW o cJ g (xW z a lv lk pu fa he n nv du ta w mp mi k nt fu re) ++ mW z2 a2 1 n w gn lk pu fa he nv of mp mi k nt fu re) H := hP
    have hD : va_D (nw s) (oW o cJ g (xW z a lv lk pu fa he n nv du ta w mp mi k nt fu re) ++ mW z2 a2 1 n w gn lk pu fa he nv of mp mi k nt fu re) := hD
    have hS := hS9
    rw [show r7 = 0 from hw7]
    refine lv_istore (lv' := [(6, .int 0), (5, .int 1), (0, .ref b), (1, .ref (a 0)), (2, .ref (a2 0)), (3, .ref o), (4, .int (nI r))]) hx hb dL_law_1697 hl (by decide) rfl (fun ls hl => ?_)
    refine lv_aload_n hx hb dL_law_1699 rfl (lv_at hl 4 rfl) ?_
    refine vp_callSi (W.runV (As := []) (rest := []) hC (c_X1_thrown l) (cwV 0 hC.2.2.2.2 (gi_V mM_L_106 mV_X1_thrown mS_X1_thrown mI_MissRegistryModel mC_X1_thrown) rfl rfl rfl (by decide +kernel) ⟨Nat.le_of_ble_eq_true rfl, Nat.le_of_ble_eq_true rfl⟩) (mpre hK2 (wj_Pr hP)) rfl rfl hl.1 rfl (lv_room (Nat.le_of_ble_eq_true rfl)) dL_law_1700 ⟨(show _ ≤ 601024 by omega), (show _ ≤ 7293034 by omega)⟩) (fun r8 hr8 => ?_)
    rw [show r8 = 1 from hr8]
    refine lv_iload hx hb dL_law_1703 (lv_at hl 1 rfl) ?_
    refine lv_icmp_eq (tgt := 1710) hx hb dL_law_1705 (by decide) (fun c_1705 => ?_) (fun c_1705 => ?_)
    · refine lv_iload hx hb dL_law_1710 (lv_at hl 1 rfl) ?_
      refine lv_if_ne (tgt := 1727) hx hb dL_law_1712 (by decide) (fun c_1712 => ?_) (fun c_1712 => ?_)
      · refine lv_goto (tgt := 1948) hx hb dL_law_1727 (by decide) ?_
        exact kk _ _ _ _ _ ⟨lv, lk, pu, fa, he, n, nv, du, ta, w, mp, mi, k, nt, fu, re, gn, of, 1, g, hI, hP, hD, hS⟩ (by omega) (by omega) (lv_sub hl [2, 3, 4, 5, 6] rfl)
      · exact absurd c_1712 (by decide)
    · exact absurd rfl c_1705
  · have h1 : ¬ x < 1 := fun q => hbad (Or.inl q)
    have h2 : x ≤ 60 := Classical.not_not.mp (fun q => hbad (Or.inr q))
    obtain ⟨v, hv, ev⟩ := nI_of2 (x := x) (M := 60) (n := 60) rfl (nlt_0 h1) h2
    subst ev
    have hv1 : 1 ≤ v := nlt_1 (by omega) h1
    obtain ⟨y9, hy9, emx, emm⟩ := e_mid (ta := ta) (k := v) hI.2.1.2.iff hI.2.2.2.2.1 hw hv1 hv
    have emid : mq_mid of nv (nI v) w = sp_mid du nv (nI v) ta w := emm.trans emx.symm
    refine lv_aload_n hx hb dL_law_1674 rfl (lv_at hl 1 rfl) ?_
    refine lv_aload_n hx hb dL_law_1675 rfl (lv_at hl 0 rfl) ?_
    refine lv_iload hx hb dL_law_1676 (lv_at hl 4 rfl) ?_
    refine lv_iconst (v := 1) hx hb dL_law_1678 (by decide) ?_
    refine lv_iadd hx hb dL_law_1679 ?_
    refine w_sld hx hb hX hbl hbA hS hL (r + 1) (nI_1 r) (by omega) hx1 dL_law_1680 ?_
    refine lv_aload_n hx hb dL_law_1681 rfl (lv_at hl 3 rfl) ?_
    have hPO := wj_Pl hP
    have hDO := wj_Dl hD
    have hF := wj_Fl hD hS hA
    refine va_calli (vx_runSW (As := [.ref (a 0), .int (nI v), .ref o]) (rest := []) hC (w_wouldCertify l H.size (nI v) h1 h2 hw) (vx_cwSW 3 hC.2.2.2.2 (gi_S mM_L_213 mT_L_wouldCertify mI_MissRegistryLaw mC_L_wouldCertify) rfl rfl rfl (by decide +kernel) ⟨Nat.le_of_ble_eq_true rfl, Nat.le_of_ble_eq_true rfl⟩) ⟨fun a1 U g mk q => ⟨q.1, q.2.1, q.2.2.1, va_K.moved (u := U) (U := U.calling g mk a1) (Vm.Alike.refl U.vm) q.2.2.2.1, va_K.moved (u := U) (U := U.calling g mk a1) (Vm.Alike.refl U.vm) q.2.2.2.2.1, q.2.2.2.2.2⟩, fun U hU hW => ⟨rfl, by rw [hU], by rw [hU]; exact hPO, va_K.moved hW.alike hK, va_K.moved hW.alike hJ, hDO.weaken (fun _ _ _ _ => trivial)⟩⟩ rfl rfl hl.1 rfl (lv_room (Nat.le_of_ble_eq_true rfl)) dL_law_1682 ⟨(show _ ≤ 601024 by omega), (show _ ≤ 7293034 by omega)⟩) hS (fun q _ h => hF q h) hF (fun r9 u9 t H locs ht hvm hw9 hB hz9 hk9 hS9 => ?_)
    obtain ⟨hP1, hD1⟩ := hB
    rw [ht] at hP1
    obtain ⟨hP, hD⟩ := wj_l hP hD hk9 hF hP1 hD1
    obtain ⟨hr9, hu9⟩ := hw9
    rw [hr9]
    have hP : va_P D vwCl (oW o cJ u9 (xW z a lv lk pu fa he n nv du (sp_tarr du nv (nI v) ta w) w mp mi k nt fu re) ++ mW z2 a2 th n w gn lk pu fa he nv of mp mi k nt fu re) H := hP
    have hD : va_D (nw s) (oW o cJ u9 (xW z a lv lk pu fa he n nv du (sp_tarr du nv (nI v) ta w) w mp mi k nt fu re) ++ mW z2 a2 th n w gn lk pu fa he nv of mp mi k nt fu re) := hD
    have hS := hS9
    refine lv_istore (lv' := [(5, .int 0), (0, .ref b), (1, .ref (a 0)), (2, .ref (a2 0)), (3, .ref o), (4, .int (nI r))]) hx hb dL_law_1685 hl (by decide) rfl (fun ls hl => ?_)
    refine lv_aload_n hx hb dL_law_1687 rfl (lv_at hl 3 rfl) ?_
    refine lv_aload_n hx hb dL_law_1688 rfl (lv_at hl 1 rfl) ?_
    refine lv_iload hx hb dL_law_1689 (lv_at hl 5 rfl) ?_
    refine lv_iconst (v := 1) hx hb dL_law_1691 (by decide) ?_
    refine lv_iadd hx hb dL_law_1692 ?_
    refine w_sld hx hb hX hbl hbA hS hL (r + 1) (nI_1 r) (by omega) hx1 dL_law_1693 ?_
    have hPM := wj_Pr hP
    have hDM := wj_Dr hD
    have hF := wj_Fr hD hS hA
    refine va_calli (va_runV (As := [.int (nI v)]) (rest := []) hC (c_X1_wouldCertify l H.size (nI v) h1 h2 hw) (cwV 1 hC.2.2.2.2 (gi_V mM_L_215 mV_X1_wouldCertify mS_X1_wouldCertify mI_MissRegistryModel mC_X1_wouldCertify) rfl rfl rfl (by decide +kernel) ⟨Nat.le_of_ble_eq_true rfl, Nat.le_of_ble_eq_true rfl⟩) ⟨fun a1 U g mk q => ⟨q.1, q.2.1, ⟨q.2.2.1.1, va_K.moved (u := U) (U := U.calling g mk a1) (Vm.Alike.refl U.vm) q.2.2.1.2⟩, q.2.2.2⟩, va_recv hK2 hPM (ci := 1) (q0 := 0) rfl rfl, fun U hU hW => ⟨rfl, by rw [hU], ⟨by rw [hU]; exact hPM, va_K.moved hW.alike hK2⟩, hDM.weaken (fun _ _ _ _ => trivial)⟩⟩ rfl rfl hl.1 rfl (lv_room (Nat.le_of_ble_eq_true rfl)) dL_law_1694 ⟨(show _ ≤ 601024 by omega), (show _ ≤ 7293034 by omega)⟩) hS (fun q _ h => hF q h) hF (fun r7 u7 t H locs ht hvm hw7 hB hz9 hk9 hS9 => ?_)
    obtain ⟨hP1, hK1, hD1⟩ := hB
    rw [ht] at hP1
    obtain ⟨hP, hD⟩ := wj_r hP hD hk9 hF hP1 hD1
    have hP : va_P D vwCl (oW o cJ u9 (xW z a lv lk pu fa he n nv du (sp_tarr du nv (nI v) ta w) w mp mi k nt fu re) ++ mW z2 a2 0 n w gn lk pu fa he nv of mp mi k nt fu re) H := hP
    have hD : va_D (nw s) (oW o cJ u9 (xW z a lv lk pu fa he n nv du (sp_tarr du nv (nI v) ta w) w mp mi k nt fu re) ++ mW z2 a2 0 n w gn lk pu fa he nv of mp mi k nt fu re) := hD
    have hS := hS9
    rw [show r7 = mq_mid of nv (nI v) w from hw7]
    refine lv_istore (lv' := [(6, .int (mq_mid of nv (nI v) w)), (5, .int 0), (0, .ref b), (1, .ref (a 0)), (2, .ref (a2 0)), (3, .ref o), (4, .int (nI r))]) hx hb dL_law_1697 hl (by decide) rfl (fun ls hl => ?_)
    refine lv_aload_n hx hb dL_law_1699 rfl (lv_at hl 4 rfl) ?_
    refine vp_callSi (W.runV (As := []) (rest := []) hC (c_X1_thrown l) (cwV 0 hC.2.2.2.2 (gi_V mM_L_106 mV_X1_thrown mS_X1_thrown mI_MissRegistryModel mC_X1_thrown) rfl rfl rfl (by decide +kernel) ⟨Nat.le_of_ble_eq_true rfl, Nat.le_of_ble_eq_true rfl⟩) (mpre hK2 (wj_Pr hP)) rfl rfl hl.1 rfl (lv_room (Nat.le_of_ble_eq_true rfl)) dL_law_1700 ⟨(show _ ≤ 601024 by omega), (show _ ≤ 7293034 by omega)⟩) (fun r8 hr8 => ?_)
    rw [show r8 = 0 from hr8]
    refine lv_iload hx hb dL_law_1703 (lv_at hl 1 rfl) ?_
    refine lv_icmp_eq (tgt := 1710) hx hb dL_law_1705 (by decide) (fun c_1705 => ?_) (fun c_1705 => ?_)
    · refine lv_iload hx hb dL_law_1710 (lv_at hl 1 rfl) ?_
      refine lv_if_ne (tgt := 1727) hx hb dL_law_1712 (by decide) (fun c_1712 => ?_) (fun c_1712 => ?_)
      · exact absurd rfl c_1712
      · refine lv_aload_n hx hb dL_law_1715 rfl (lv_at hl 5 rfl) ?_
        refine lv_iconst (v := 0) hx hb dL_law_1716 (by decide) ?_
        refine w_lald hC hJ (wj_Pl hP) dL_law_1717 ?_
        refine lv_iload hx hb dL_law_1718 (lv_at hl 0 rfl) ?_
        refine lv_i2l hx hb dL_law_1720 rfl ?_
        refine w_lcmp hx hb dL_law_1721 (hu9.trans (by rw [emid])) ?_
        refine lv_if_eq (tgt := 1727) hx hb dL_law_1722 (by decide) (fun c_1722 => ?_) (fun c_1722 => ?_)
        · refine lv_goto (tgt := 1948) hx hb dL_law_1727 (by decide) ?_
          exact kk _ _ _ _ _ ⟨lv, lk, pu, fa, he, n, nv, du, (sp_tarr du nv (nI v) ta w), w, mp, mi, k, nt, fu, re, gn, of, 0, u9, hI, hP, hD, hS⟩ (by omega) (by omega) (lv_sub hl [2, 3, 4, 5, 6] rfl)
        · exact absurd rfl c_1722
    · exact absurd rfl c_1705
set_option maxHeartbeats 8000000 in
set_option maxRecDepth 100000 in
theorem lc_33 {p : Program} {l : Launch} {e : Env} {s : State} {m : MethodId} {below : List Frame} {meth : Method} {c : Code} {H : Heap} {locs : List Loc} {cells slots : Nat} {Q : State → Prop} {ls : Array Slot} {b L : Nat} {xs : Nat → Int32} {D : va_G} {z z2 : ClassId × ClassId} {cJ : ClassId} {q9 t9 a a2 : Nat → Nat} {o : Nat} {lv lk pu fa he : Nat → Int32} {n : Nat} {nv du ta : Nat → Int32} {w : Nat} {mp mi : Nat → Int32} {k : Nat} {nt fu re : Int32} {gn of : Nat → Int32} {th : Int32} {g : Nat → Int64} {r : Nat} (X : LX p l s m c b L xs D z z2 cJ q9 t9) (hI : IV lv lk fa he n nv du w k gn of) (hP : va_P D vwCl (oW o cJ g (xW z a lv lk pu fa he n nv du ta w mp mi k nt fu re) ++ mW z2 a2 th n w gn lk pu fa he nv of mp mi k nt fu re) H) (hD : va_D (nw s) (oW o cJ g (xW z a lv lk pu fa he n nv du ta w mp mi k nt fu re) ++ mW z2 a2 th n w gn lk pu fa he nv of mp mi k nt fu re)) (hS : va_S (nw s) s.heap H locs) (hcl : cells + 12 ≤ 601024) (hsl : slots + 100 ≤ 7293034) (hr : r + 2 < L) (hl : lv_has ls 9 [(0, .ref b), (1, .ref (a 0)), (2, .ref (a2 0)), (3, .ref o), (4, .int (nI r))]) (kk : ∀ (H1 : Heap) (locs1 : List Loc) (c1 s1 : Nat) (ls1 : Array Slot), Jn D z z2 cJ a a2 o s H1 locs1 → c1 ≤ cells + 11 → s1 ≤ slots + 94 → lv_has ls1 9 [(0, .ref b), (1, .ref (a 0)), (2, .ref (a2 0)), (3, .ref o), (4, .int (nI r))] → W p l e room_1 s m #[.ref b] below meth c H1 locs1 c1 s1 Q (F0 m 1948 ls1 [])) : W p l e room_1 s m #[.ref b] below meth c H locs cells slots Q (F0 m 1730 ls []) := by
  obtain ⟨hC, hst, ⟨hX, hbl, hL⟩, ⟨hK, hK2, hJ⟩, hT, hN, hE⟩ := X
  have hx := hC.1
  have hb := hC.2.1
  have hA : ∀ q : Nat, s.heap.size ≤ q → nw s q := fun q h => h
  have hbA : ¬ nw s b := Nat.not_le.mpr hbl
  have hn := hI.1.1
  have hw := hI.1.2.1
  have hk := hI.1.2.2
  obtain ⟨x, hx1⟩ : ∃ x : Int32, xs (r + 1) = x := ⟨_, rfl⟩
  obtain ⟨y, hx2⟩ : ∃ y : Int32, xs (r + 2) = y := ⟨_, rfl⟩
  by_cases hp : sp_isP n x = 0
  · refine lv_aload_n hx hb dL_law_1730 rfl (lv_at hl 1 rfl) ?_
    refine lv_aload_n hx hb dL_law_1731 rfl (lv_at hl 0 rfl) ?_
    refine lv_iload hx hb dL_law_1732 (lv_at hl 4 rfl) ?_
    refine lv_iconst (v := 1) hx hb dL_law_1734 (by decide) ?_
    refine lv_iadd hx hb dL_law_1735 ?_
    refine w_sld hx hb hX hbl hbA hS hL (r + 1) (nI_1 r) (by omega) hx1 dL_law_1736 ?_
    refine lv_aload_n hx hb dL_law_1737 rfl (lv_at hl 0 rfl) ?_
    refine lv_iload hx hb dL_law_1738 (lv_at hl 4 rfl) ?_
    refine lv_iconst (v := 2) hx hb dL_law_1740 (by decide) ?_
    refine lv_iadd hx hb dL_law_1741 ?_
    refine w_sld hx hb hX hbl hbA hS hL (r + 2) (nI_add r 2) (by omega) hx2 dL_law_1742 ?_
    refine lv_aload_n hx hb dL_law_1743 rfl (lv_at hl 3 rfl) ?_
    have hPO := wj_Pl hP
    have hDO := wj_Dl hD
    have hF := wj_Fl hD hS hA
    refine va_calli (vx_runSW (As := [.ref (a 0), .int x, .int y, .ref o]) (rest := []) hC (w_wouldRefund_a l hst H.size x y hp) (vx_cwSW 4 hC.2.2.2.2 (gi_S mM_L_216 mT_L_wouldRefund mI_MissRegistryLaw mC_L_wouldRefund) rfl rfl rfl (by decide +kernel) ⟨Nat.le_of_ble_eq_true rfl, Nat.le_of_ble_eq_true rfl⟩) ⟨fun a1 U g mk q => ⟨q.1, q.2.1, q.2.2.1, va_K.moved (u := U) (U := U.calling g mk a1) (Vm.Alike.refl U.vm) q.2.2.2.1, va_K.moved (u := U) (U := U.calling g mk a1) (Vm.Alike.refl U.vm) q.2.2.2.2.1, ⟨q.2.2.2.2.2.1, tH.same (u := U) (U := U.calling g mk a1) rfl q.2.2.2.2.2.2.1, tN.moved (u := U) (U := U.calling g mk a1) (Vm.Alike.refl U.vm) q.2.2.2.2.2.2.2⟩⟩, fun U hU hW => ⟨rfl, by rw [hU], by rw [hU]; exact hPO, va_K.moved hW.alike hK, va_K.moved hW.alike hJ, hDO.weaken (fun _ _ _ _ => trivial), by rw [hU]; exact (hT.at hS).warm hW, hN.moved hW.alike⟩⟩ rfl rfl hl.1 rfl (lv_room (Nat.le_of_ble_eq_true rfl)) dL_law_1744 ⟨(show _ ≤ 601024 by omega), (show _ ≤ 7293034 by omega)⟩) hS (fun q _ h => hF q h) hF (fun r9 u9 t H locs ht hvm hw9 hB hz9 hk9 hS9 => ?_)
    obtain ⟨hP1, hD1⟩ := hB
    rw [ht] at hP1
    obtain ⟨hP, hD⟩ := wj_l hP hD hk9 hF hP1 hD1
    rw [show r9 = 1 from hw9]
    have hP : va_P D vwCl (oW o cJ g (xW z a lv lk pu fa he n nv du ta w mp mi k nt fu re) ++ mW z2 a2 th n w gn lk pu fa he nv of mp mi k nt fu re) H := hP
    have hD : va_D (nw s) (oW o cJ g (xW z a lv lk pu fa he n nv du ta w mp mi k nt fu re) ++ mW z2 a2 th n w gn lk pu fa he nv of mp mi k nt fu re) := hD
    have hS := hS9
    refine lv_istore (lv' := [(5, .int 1), (0, .ref b), (1, .ref (a 0)), (2, .ref (a2 0)), (3, .ref o), (4, .int (nI r))]) hx hb dL_law_1747 hl (by decide) rfl (fun ls hl => ?_)
    refine lv_aload_n hx hb dL_law_1749 rfl (lv_at hl 3 rfl) ?_
    refine lv_aload_n hx hb dL_law_1750 rfl (lv_at hl 1 rfl) ?_
    refine lv_iload hx hb dL_law_1751 (lv_at hl 5 rfl) ?_
    refine lv_iconst (v := 1) hx hb dL_law_1753 (by decide) ?_
    refine lv_iadd hx hb dL_law_1754 ?_
    refine w_sld hx hb hX hbl hbA hS hL (r + 1) (nI_1 r) (by omega) hx1 dL_law_1755 ?_
    refine lv_aload_n hx hb dL_law_1756 rfl (lv_at hl 1 rfl) ?_
    refine lv_iload hx hb dL_law_1757 (lv_at hl 5 rfl) ?_
    refine lv_iconst (v := 2) hx hb dL_law_1759 (by decide) ?_
    refine lv_iadd hx hb dL_law_1760 ?_
    refine w_sld hx hb hX hbl hbA hS hL (r + 2) (nI_add r 2) (by omega) hx2 dL_law_1761 ?_
    have hPM := wj_Pr hP
    have hDM := wj_Dr hD
    have hF := wj_Fr hD hS hA
    refine va_calli (va_runV (As := [.int x, .int y]) (rest := []) hC (c_X1_wouldRefund_a l H.size x y hn hp) (cwV 2 hC.2.2.2.2 (gi_V mM_L_218 mV_X1_wouldRefund mS_X1_wouldRefund mI_MissRegistryModel mC_X1_wouldRefund) rfl rfl rfl (by decide +kernel) ⟨Nat.le_of_ble_eq_true rfl, Nat.le_of_ble_eq_true rfl⟩) ⟨fun a1 U g mk q => ⟨q.1, q.2.1, ⟨q.2.2.1.1, va_K.moved (u := U) (U := U.calling g mk a1) (Vm.Alike.refl U.vm) q.2.2.1.2⟩, q.2.2.2⟩, va_recv hK2 hPM (ci := 1) (q0 := 0) rfl rfl, fun U hU hW => ⟨rfl, by rw [hU], ⟨by rw [hU]; exact hPM, va_K.moved hW.alike hK2⟩, hDM.weaken (fun _ _ _ _ => trivial)⟩⟩ rfl rfl hl.1 rfl (lv_room (Nat.le_of_ble_eq_true rfl)) dL_law_1762 ⟨(show _ ≤ 601024 by omega), (show _ ≤ 7293034 by omega)⟩) hS (fun q _ h => hF q h) hF (fun r7 u7 t H locs ht hvm hw7 hB hz9 hk9 hS9 => ?_)
    obtain ⟨hP1, hK1, hD1⟩ := hB
    rw [ht] at hP1
    obtain ⟨hP, hD⟩ := wj_r hP hD hk9 hF hP1 hD1
    have hP : va_P D vwCl (oW o cJ g (xW z a lv lk pu fa he n nv du ta w mp mi k nt fu re) ++ mW z2 a2 1 n w gn lk pu fa he nv of mp mi k nt fu re) H := hP
    have hD : va_D (nw s) (oW o cJ g (xW z a lv lk pu fa he n nv du ta w mp mi k nt fu re) ++ mW z2 a2 1 n w gn lk pu fa he nv of mp mi k nt fu re) := hD
    have hS := hS9
    rw [show r7 = 0 from hw7]
    refine lv_istore (lv' := [(6, .int 0), (5, .int 1), (0, .ref b), (1, .ref (a 0)), (2, .ref (a2 0)), (3, .ref o), (4, .int (nI r))]) hx hb dL_law_1765 hl (by decide) rfl (fun ls hl => ?_)
    refine lv_aload_n hx hb dL_law_1767 rfl (lv_at hl 4 rfl) ?_
    refine vp_callSi (W.runV (As := []) (rest := []) hC (c_X1_thrown l) (cwV 0 hC.2.2.2.2 (gi_V mM_L_106 mV_X1_thrown mS_X1_thrown mI_MissRegistryModel mC_X1_thrown) rfl rfl rfl (by decide +kernel) ⟨Nat.le_of_ble_eq_true rfl, Nat.le_of_ble_eq_true rfl⟩) (mpre hK2 (wj_Pr hP)) rfl rfl hl.1 rfl (lv_room (Nat.le_of_ble_eq_true rfl)) dL_law_1768 ⟨(show _ ≤ 601024 by omega), (show _ ≤ 7293034 by omega)⟩) (fun r8 hr8 => ?_)
    rw [show r8 = 1 from hr8]
    refine lv_iload hx hb dL_law_1771 (lv_at hl 1 rfl) ?_
    refine lv_icmp_eq (tgt := 1778) hx hb dL_law_1773 (by decide) (fun c_1773 => ?_) (fun c_1773 => ?_)
    · refine lv_iload hx hb dL_law_1778 (lv_at hl 1 rfl) ?_
      refine lv_if_ne (tgt := 1795) hx hb dL_law_1780 (by decide) (fun c_1780 => ?_) (fun c_1780 => ?_)
      · refine lv_goto (tgt := 1948) hx hb dL_law_1795 (by decide) ?_
        exact kk _ _ _ _ _ ⟨lv, lk, pu, fa, he, n, nv, du, ta, w, mp, mi, k, nt, fu, re, gn, of, 1, g, hI, hP, hD, hS⟩ (by omega) (by omega) (lv_sub hl [2, 3, 4, 5, 6] rfl)
      · exact absurd c_1780 (by decide)
    · exact absurd rfl c_1773
  · obtain ⟨i, hi, exi⟩ := isP_ex (by omega) hp
    subst exi
    by_cases hbad : y < 1 ∨ ¬ y ≤ 60
    · refine lv_aload_n hx hb dL_law_1730 rfl (lv_at hl 1 rfl) ?_
      refine lv_aload_n hx hb dL_law_1731 rfl (lv_at hl 0 rfl) ?_
      refine lv_iload hx hb dL_law_1732 (lv_at hl 4 rfl) ?_
      refine lv_iconst (v := 1) hx hb dL_law_1734 (by decide) ?_
      refine lv_iadd hx hb dL_law_1735 ?_
      refine w_sld hx hb hX hbl hbA hS hL (r + 1) (nI_1 r) (by omega) hx1 dL_law_1736 ?_
      refine lv_aload_n hx hb dL_law_1737 rfl (lv_at hl 0 rfl) ?_
      refine lv_iload hx hb dL_law_1738 (lv_at hl 4 rfl) ?_
      refine lv_iconst (v := 2) hx hb dL_law_1740 (by decide) ?_
      refine lv_iadd hx hb dL_law_1741 ?_
      refine w_sld hx hb hX hbl hbA hS hL (r + 2) (nI_add r 2) (by omega) hx2 dL_law_1742 ?_
      refine lv_aload_n hx hb dL_law_1743 rfl (lv_at hl 3 rfl) ?_
      have hPO := wj_Pl hP
      have hDO := wj_Dl hD
      have hF := wj_Fl hD hS hA
      refine va_calli (vx_runSW (As := [.ref (a 0), .int (nI i), .int y, .ref o]) (rest := []) hC (w_wouldRefund_b l hst H.size i hi hn y hbad) (vx_cwSW 4 hC.2.2.2.2 (gi_S mM_L_216 mT_L_wouldRefund mI_MissRegistryLaw mC_L_wouldRefund) rfl rfl rfl (by decide +kernel) ⟨Nat.le_of_ble_eq_true rfl, Nat.le_of_ble_eq_true rfl⟩) ⟨fun a1 U g mk q => ⟨q.1, q.2.1, q.2.2.1, va_K.moved (u := U) (U := U.calling g mk a1) (Vm.Alike.refl U.vm) q.2.2.2.1, va_K.moved (u := U) (U := U.calling g mk a1) (Vm.Alike.refl U.vm) q.2.2.2.2.1, ⟨q.2.2.2.2.2.1, tH.same (u := U) (U := U.calling g mk a1) rfl q.2.2.2.2.2.2.1, tN.moved (u := U) (U := U.calling g mk a1) (Vm.Alike.refl U.vm) q.2.2.2.2.2.2.2⟩⟩, fun U hU hW => ⟨rfl, by rw [hU], by rw [hU]; exact hPO, va_K.moved hW.alike hK, va_K.moved hW.alike hJ, hDO.weaken (fun _ _ _ _ => trivial), by rw [hU]; exact (hT.at hS).warm hW, hN.moved hW.alike⟩⟩ rfl rfl hl.1 rfl (lv_room (Nat.le_of_ble_eq_true rfl)) dL_law_1744 ⟨(show _ ≤ 601024 by omega), (show _ ≤ 7293034 by omega)⟩) hS (fun q _ h => hF q h) hF (fun r9 u9 t H locs ht hvm hw9 hB hz9 hk9 hS9 => ?_)
      obtain ⟨hP1, hD1⟩ := hB
      rw [ht] at hP1
      obtain ⟨hP, hD⟩ := wj_l hP hD hk9 hF hP1 hD1
      rw [show r9 = 2 from hw9]
      have hP : va_P D vwCl (oW o cJ g (xW z a lv lk pu fa he n nv du ta w mp mi k nt fu re) ++ mW z2 a2 th n w gn lk pu fa he nv of mp mi k nt fu re) H := hP
      have hD : va_D (nw s) (oW o cJ g (xW z a lv lk pu fa he n nv du ta w mp mi k nt fu re) ++ mW z2 a2 th n w gn lk pu fa he nv of mp mi k nt fu re) := hD
      have hS := hS9
      refine lv_istore (lv' := [(5, .int 2), (0, .ref b), (1, .ref (a 0)), (2, .ref (a2 0)), (3, .ref o), (4, .int (nI r))]) hx hb dL_law_1747 hl (by decide) rfl (fun ls hl => ?_)
      refine lv_aload_n hx hb dL_law_1749 rfl (lv_at hl 3 rfl) ?_
      refine lv_aload_n hx hb dL_law_1750 rfl (lv_at hl 1 rfl) ?_
      refine lv_iload hx hb dL_law_1751 (lv_at hl 5 rfl) ?_
      refine lv_iconst (v := 1) hx hb dL_law_1753 (by decide) ?_
      refine lv_iadd hx hb dL_law_1754 ?_
      refine w_sld hx hb hX hbl hbA hS hL (r + 1) (nI_1 r) (by omega) hx1 dL_law_1755 ?_
      refine lv_aload_n hx hb dL_law_1756 rfl (lv_at hl 1 rfl) ?_
      refine lv_iload hx hb dL_law_1757 (lv_at hl 5 rfl) ?_
      refine lv_iconst (v := 2) hx hb dL_law_1759 (by decide) ?_
      refine lv_iadd hx hb dL_law_1760 ?_
      refine w_sld hx hb hX hbl hbA hS hL (r + 2) (nI_add r 2) (by omega) hx2 dL_law_1761 ?_
      have hPM := wj_Pr hP
      have hDM := wj_Dr hD
      have hF := wj_Fr hD hS hA
      refine va_calli (va_runV (As := [.int (nI i), .int y]) (rest := []) hC (c_X1_wouldRefund_b l H.size i hi hn y hbad) (cwV 2 hC.2.2.2.2 (gi_V mM_L_218 mV_X1_wouldRefund mS_X1_wouldRefund mI_MissRegistryModel mC_X1_wouldRefund) rfl rfl rfl (by decide +kernel) ⟨Nat.le_of_ble_eq_true rfl, Nat.le_of_ble_eq_true rfl⟩) ⟨fun a1 U g mk q => ⟨q.1, q.2.1, ⟨q.2.2.1.1, va_K.moved (u := U) (U := U.calling g mk a1) (Vm.Alike.refl U.vm) q.2.2.1.2⟩, q.2.2.2⟩, va_recv hK2 hPM (ci := 1) (q0 := 0) rfl rfl, fun U hU hW => ⟨rfl, by rw [hU], ⟨by rw [hU]; exact hPM, va_K.moved hW.alike hK2⟩, hDM.weaken (fun _ _ _ _ => trivial)⟩⟩ rfl rfl hl.1 rfl (lv_room (Nat.le_of_ble_eq_true rfl)) dL_law_1762 ⟨(show _ ≤ 601024 by omega), (show _ ≤ 7293034 by omega)⟩) hS (fun q _ h => hF q h) hF (fun r7 u7 t H locs ht hvm hw7 hB hz9 hk9 hS9 => ?_)
      obtain ⟨hP1, hK1, hD1⟩ := hB
      rw [ht] at hP1
      obtain ⟨hP, hD⟩ := wj_r hP hD hk9 hF hP1 hD1
      have hP : va_P D vwCl (oW o cJ g (xW z a lv lk pu fa he n nv du ta w mp mi k nt fu re) ++ mW z2 a2 2 n w gn lk pu fa he nv of mp mi k nt fu re) H := hP
      have hD : va_D (nw s) (oW o cJ g (xW z a lv lk pu fa he n nv du ta w mp mi k nt fu re) ++ mW z2 a2 2 n w gn lk pu fa he nv of mp mi k nt fu re) := hD
      have hS := hS9
      rw [show r7 = 0 from hw7]
      refine lv_istore (lv' := [(6, .int 0), (5, .int 2), (0, .ref b), (1, .ref (a 0)), (2, .ref (a2 0)), (3, .ref o), (4, .int (nI r))]) hx hb dL_law_1765 hl (by decide) rfl (fun ls hl => ?_)
      refine lv_aload_n hx hb dL_law_1767 rfl (lv_at hl 4 rfl) ?_
      refine vp_callSi (W.runV (As := []) (rest := []) hC (c_X1_thrown l) (cwV 0 hC.2.2.2.2 (gi_V mM_L_106 mV_X1_thrown mS_X1_thrown mI_MissRegistryModel mC_X1_thrown) rfl rfl rfl (by decide +kernel) ⟨Nat.le_of_ble_eq_true rfl, Nat.le_of_ble_eq_true rfl⟩) (mpre hK2 (wj_Pr hP)) rfl rfl hl.1 rfl (lv_room (Nat.le_of_ble_eq_true rfl)) dL_law_1768 ⟨(show _ ≤ 601024 by omega), (show _ ≤ 7293034 by omega)⟩) (fun r8 hr8 => ?_)
      rw [show r8 = 2 from hr8]
      refine lv_iload hx hb dL_law_1771 (lv_at hl 1 rfl) ?_
      refine lv_icmp_eq (tgt := 1778) hx hb dL_law_1773 (by decide) (fun c_1773 => ?_) (fun c_1773 => ?_)
      · refine lv_iload hx hb dL_law_1778 (lv_at hl 1 rfl) ?_
        refine lv_if_ne (tgt := 1795) hx hb dL_law_1780 (by decide) (fun c_1780 => ?_) (fun c_1780 => ?_)
        · refine lv_goto (tgt := 1948) hx hb dL_law_1795 (by decide) ?_
          exact kk _ _ _ _ _ ⟨lv, lk, pu, fa, he, n, nv, du, ta, w, mp, mi, k, nt, fu, re, gn, of, 2, g, hI, hP, hD, hS⟩ (by omega) (by omega) (lv_sub hl [2, 3, 4, 5, 6] rfl)
        · exact absurd c_1780 (by decide)
      · exact absurd rfl c_1773
    · have h1 : ¬ y < 1 := fun q => hbad (Or.inl q)
      have h2 : y ≤ 60 := Classical.not_not.mp (fun q => hbad (Or.inr q))
      obtain ⟨v, hv, ev⟩ := nI_of2 (x := y) (M := 60) (n := 60) rfl (nlt_0 h1) h2
      subst ev
      have hv1 : 1 ≤ v := nlt_1 (by omega) h1
      obtain ⟨y9, hy9, emx, emm⟩ := e_mid (ta := ta) (k := v) hI.2.1.2.iff hI.2.2.2.2.1 hw hv1 hv
      have emid : mq_mid of nv (nI v) w = sp_mid du nv (nI v) ta w := emm.trans emx.symm
      have hg := hI.2.1.1.iff i hi
      by_cases ha : lv i = 0
      · refine lv_aload_n hx hb dL_law_1730 rfl (lv_at hl 1 rfl) ?_
        refine lv_aload_n hx hb dL_law_1731 rfl (lv_at hl 0 rfl) ?_
        refine lv_iload hx hb dL_law_1732 (lv_at hl 4 rfl) ?_
        refine lv_iconst (v := 1) hx hb dL_law_1734 (by decide) ?_
        refine lv_iadd hx hb dL_law_1735 ?_
        refine w_sld hx hb hX hbl hbA hS hL (r + 1) (nI_1 r) (by omega) hx1 dL_law_1736 ?_
        refine lv_aload_n hx hb dL_law_1737 rfl (lv_at hl 0 rfl) ?_
        refine lv_iload hx hb dL_law_1738 (lv_at hl 4 rfl) ?_
        refine lv_iconst (v := 2) hx hb dL_law_1740 (by decide) ?_
        refine lv_iadd hx hb dL_law_1741 ?_
        refine w_sld hx hb hX hbl hbA hS hL (r + 2) (nI_add r 2) (by omega) hx2 dL_law_1742 ?_
        refine lv_aload_n hx hb dL_law_1743 rfl (lv_at hl 3 rfl) ?_
        have hPO := wj_Pl hP
        have hDO := wj_Dl hD
        have hF := wj_Fl hD hS hA
        refine va_calli (vx_runSW (As := [.ref (a 0), .int (nI i), .int (nI v), .ref o]) (rest := []) hC (w_wouldRefund l H.size i (nI v) hi hn h1 h2 hw) (vx_cwSW 4 hC.2.2.2.2 (gi_S mM_L_216 mT_L_wouldRefund mI_MissRegistryLaw mC_L_wouldRefund) rfl rfl rfl (by decide +kernel) ⟨Nat.le_of_ble_eq_true rfl, Nat.le_of_ble_eq_true rfl⟩) ⟨fun a1 U g mk q => ⟨q.1, q.2.1, q.2.2.1, va_K.moved (u := U) (U := U.calling g mk a1) (Vm.Alike.refl U.vm) q.2.2.2.1, va_K.moved (u := U) (U := U.calling g mk a1) (Vm.Alike.refl U.vm) q.2.2.2.2.1, q.2.2.2.2.2⟩, fun U hU hW => ⟨rfl, by rw [hU], by rw [hU]; exact hPO, va_K.moved hW.alike hK, va_K.moved hW.alike hJ, hDO.weaken (fun _ _ _ _ => trivial)⟩⟩ rfl rfl hl.1 rfl (lv_room (Nat.le_of_ble_eq_true rfl)) dL_law_1744 ⟨(show _ ≤ 601024 by omega), (show _ ≤ 7293034 by omega)⟩) hS (fun q _ h => hF q h) hF (fun r9 u9 t H locs ht hvm hw9 hB hz9 hk9 hS9 => ?_)
        obtain ⟨hP1, hD1⟩ := hB
        rw [ht] at hP1
        obtain ⟨hP, hD⟩ := wj_l hP hD hk9 hF hP1 hD1
        obtain ⟨hr9, hu9⟩ := hw9
        rw [hr9]
        have hP : va_P D vwCl (oW o cJ u9 (xW z a lv lk pu fa he n nv du (sp_tarr du nv (nI v) ta w) w mp mi k nt fu re) ++ mW z2 a2 th n w gn lk pu fa he nv of mp mi k nt fu re) H := hP
        have hD : va_D (nw s) (oW o cJ u9 (xW z a lv lk pu fa he n nv du (sp_tarr du nv (nI v) ta w) w mp mi k nt fu re) ++ mW z2 a2 th n w gn lk pu fa he nv of mp mi k nt fu re) := hD
        have hS := hS9
        refine lv_istore (lv' := [(5, .int 0), (0, .ref b), (1, .ref (a 0)), (2, .ref (a2 0)), (3, .ref o), (4, .int (nI r))]) hx hb dL_law_1747 hl (by decide) rfl (fun ls hl => ?_)
        refine lv_aload_n hx hb dL_law_1749 rfl (lv_at hl 3 rfl) ?_
        refine lv_aload_n hx hb dL_law_1750 rfl (lv_at hl 1 rfl) ?_
        refine lv_iload hx hb dL_law_1751 (lv_at hl 5 rfl) ?_
        refine lv_iconst (v := 1) hx hb dL_law_1753 (by decide) ?_
        refine lv_iadd hx hb dL_law_1754 ?_
        refine w_sld hx hb hX hbl hbA hS hL (r + 1) (nI_1 r) (by omega) hx1 dL_law_1755 ?_
        refine lv_aload_n hx hb dL_law_1756 rfl (lv_at hl 1 rfl) ?_
        refine lv_iload hx hb dL_law_1757 (lv_at hl 5 rfl) ?_
        refine lv_iconst (v := 2) hx hb dL_law_1759 (by decide) ?_
        refine lv_iadd hx hb dL_law_1760 ?_
        refine w_sld hx hb hX hbl hbA hS hL (r + 2) (nI_add r 2) (by omega) hx2 dL_law_1761 ?_
        have hPM := wj_Pr hP
        have hDM := wj_Dr hD
        have hF := wj_Fr hD hS hA
        refine va_calli (va_runV (As := [.int (nI i), .int (nI v)]) (rest := []) hC (c_X1_wouldRefund_g l H.size i hi hn (nI v) h1 h2 (fun q => hg.mp q ha)) (cwV 2 hC.2.2.2.2 (gi_V mM_L_218 mV_X1_wouldRefund mS_X1_wouldRefund mI_MissRegistryModel mC_X1_wouldRefund) rfl rfl rfl (by decide +kernel) ⟨Nat.le_of_ble_eq_true rfl, Nat.le_of_ble_eq_true rfl⟩) ⟨fun a1 U g mk q => ⟨q.1, q.2.1, ⟨q.2.2.1.1, va_K.moved (u := U) (U := U.calling g mk a1) (Vm.Alike.refl U.vm) q.2.2.1.2⟩, q.2.2.2⟩, va_recv hK2 hPM (ci := 1) (q0 := 0) rfl rfl, fun U hU hW => ⟨rfl, by rw [hU], ⟨by rw [hU]; exact hPM, va_K.moved hW.alike hK2⟩, hDM.weaken (fun _ _ _ _ => trivial)⟩⟩ rfl rfl hl.1 rfl (lv_room (Nat.le_of_ble_eq_true rfl)) dL_law_1762 ⟨(show _ ≤ 601024 by omega), (show _ ≤ 7293034 by omega)⟩) hS (fun q _ h => hF q h) hF (fun r7 u7 t H locs ht hvm hw7 hB hz9 hk9 hS9 => ?_)
        obtain ⟨hP1, hK1, hD1⟩ := hB
        rw [ht] at hP1
        obtain ⟨hP, hD⟩ := wj_r hP hD hk9 hF hP1 hD1
        have hP : va_P D vwCl (oW o cJ u9 (xW z a lv lk pu fa he n nv du (sp_tarr du nv (nI v) ta w) w mp mi k nt fu re) ++ mW z2 a2 0 n w gn lk pu fa he nv of mp mi k nt fu re) H := hP
        have hD : va_D (nw s) (oW o cJ u9 (xW z a lv lk pu fa he n nv du (sp_tarr du nv (nI v) ta w) w mp mi k nt fu re) ++ mW z2 a2 0 n w gn lk pu fa he nv of mp mi k nt fu re) := hD
        have hS := hS9
        rw [show r7 = 0 from hw7]
        refine lv_istore (lv' := [(6, .int 0), (5, .int 0), (0, .ref b), (1, .ref (a 0)), (2, .ref (a2 0)), (3, .ref o), (4, .int (nI r))]) hx hb dL_law_1765 hl (by decide) rfl (fun ls hl => ?_)
        refine lv_aload_n hx hb dL_law_1767 rfl (lv_at hl 4 rfl) ?_
        refine vp_callSi (W.runV (As := []) (rest := []) hC (c_X1_thrown l) (cwV 0 hC.2.2.2.2 (gi_V mM_L_106 mV_X1_thrown mS_X1_thrown mI_MissRegistryModel mC_X1_thrown) rfl rfl rfl (by decide +kernel) ⟨Nat.le_of_ble_eq_true rfl, Nat.le_of_ble_eq_true rfl⟩) (mpre hK2 (wj_Pr hP)) rfl rfl hl.1 rfl (lv_room (Nat.le_of_ble_eq_true rfl)) dL_law_1768 ⟨(show _ ≤ 601024 by omega), (show _ ≤ 7293034 by omega)⟩) (fun r8 hr8 => ?_)
        rw [show r8 = 0 from hr8]
        refine lv_iload hx hb dL_law_1771 (lv_at hl 1 rfl) ?_
        refine lv_icmp_eq (tgt := 1778) hx hb dL_law_1773 (by decide) (fun c_1773 => ?_) (fun c_1773 => ?_)
        · refine lv_iload hx hb dL_law_1778 (lv_at hl 1 rfl) ?_
          refine lv_if_ne (tgt := 1795) hx hb dL_law_1780 (by decide) (fun c_1780 => ?_) (fun c_1780 => ?_)
          · exact absurd rfl c_1780
          · refine lv_aload_n hx hb dL_law_1783 rfl (lv_at hl 5 rfl) ?_
            refine lv_iconst (v := 0) hx hb dL_law_1784 (by decide) ?_
            refine w_lald hC hJ (wj_Pl hP) dL_law_1785 ?_
            refine lv_iload hx hb dL_law_1786 (lv_at hl 0 rfl) ?_
            refine lv_i2l hx hb dL_law_1788 rfl ?_
            refine w_lcmp hx hb dL_law_1789 (hu9.trans (by rw [ha, coins_gone])) ?_
            refine lv_if_eq (tgt := 1795) hx hb dL_law_1790 (by decide) (fun c_1790 => ?_) (fun c_1790 => ?_)
            · refine lv_goto (tgt := 1948) hx hb dL_law_1795 (by decide) ?_
              exact kk _ _ _ _ _ ⟨lv, lk, pu, fa, he, n, nv, du, (sp_tarr du nv (nI v) ta w), w, mp, mi, k, nt, fu, re, gn, of, 0, u9, hI, hP, hD, hS⟩ (by omega) (by omega) (lv_sub hl [2, 3, 4, 5, 6] rfl)
            · exact absurd rfl c_1790
        · exact absurd rfl c_1773
      · obtain ⟨f9, hf9, ef9⟩ := hI.2.2.2.2.2.1 i hi
        have erf := e_rfd (lkv := lk i) (fu := fu) hf9 hy9 ef9 emx ha
        refine lv_aload_n hx hb dL_law_1730 rfl (lv_at hl 1 rfl) ?_
        refine lv_aload_n hx hb dL_law_1731 rfl (lv_at hl 0 rfl) ?_
        refine lv_iload hx hb dL_law_1732 (lv_at hl 4 rfl) ?_
        refine lv_iconst (v := 1) hx hb dL_law_1734 (by decide) ?_
        refine lv_iadd hx hb dL_law_1735 ?_
        refine w_sld hx hb hX hbl hbA hS hL (r + 1) (nI_1 r) (by omega) hx1 dL_law_1736 ?_
        refine lv_aload_n hx hb dL_law_1737 rfl (lv_at hl 0 rfl) ?_
        refine lv_iload hx hb dL_law_1738 (lv_at hl 4 rfl) ?_
        refine lv_iconst (v := 2) hx hb dL_law_1740 (by decide) ?_
        refine lv_iadd hx hb dL_law_1741 ?_
        refine w_sld hx hb hX hbl hbA hS hL (r + 2) (nI_add r 2) (by omega) hx2 dL_law_1742 ?_
        refine lv_aload_n hx hb dL_law_1743 rfl (lv_at hl 3 rfl) ?_
        have hPO := wj_Pl hP
        have hDO := wj_Dl hD
        have hF := wj_Fl hD hS hA
        refine va_calli (vx_runSW (As := [.ref (a 0), .int (nI i), .int (nI v), .ref o]) (rest := []) hC (w_wouldRefund l H.size i (nI v) hi hn h1 h2 hw) (vx_cwSW 4 hC.2.2.2.2 (gi_S mM_L_216 mT_L_wouldRefund mI_MissRegistryLaw mC_L_wouldRefund) rfl rfl rfl (by decide +kernel) ⟨Nat.le_of_ble_eq_true rfl, Nat.le_of_ble_eq_true rfl⟩) ⟨fun a1 U g mk q => ⟨q.1, q.2.1, q.2.2.1, va_K.moved (u := U) (U := U.calling g mk a1) (Vm.Alike.refl U.vm) q.2.2.2.1, va_K.moved (u := U) (U := U.calling g mk a1) (Vm.Alike.refl U.vm) q.2.2.2.2.1, q.2.2.2.2.2⟩, fun U hU hW => ⟨rfl, by rw [hU], by rw [hU]; exact hPO, va_K.moved hW.alike hK, va_K.moved hW.alike hJ, hDO.weaken (fun _ _ _ _ => trivial)⟩⟩ rfl rfl hl.1 rfl (lv_room (Nat.le_of_ble_eq_true rfl)) dL_law_1744 ⟨(show _ ≤ 601024 by omega), (show _ ≤ 7293034 by omega)⟩) hS (fun q _ h => hF q h) hF (fun r9 u9 t H locs ht hvm hw9 hB hz9 hk9 hS9 => ?_)
        obtain ⟨hP1, hD1⟩ := hB
        rw [ht] at hP1
        obtain ⟨hP, hD⟩ := wj_l hP hD hk9 hF hP1 hD1
        obtain ⟨hr9, hu9⟩ := hw9
        rw [hr9]
        have hP : va_P D vwCl (oW o cJ u9 (xW z a lv lk pu fa he n nv du (sp_tarr du nv (nI v) ta w) w mp mi k nt fu re) ++ mW z2 a2 th n w gn lk pu fa he nv of mp mi k nt fu re) H := hP
        have hD : va_D (nw s) (oW o cJ u9 (xW z a lv lk pu fa he n nv du (sp_tarr du nv (nI v) ta w) w mp mi k nt fu re) ++ mW z2 a2 th n w gn lk pu fa he nv of mp mi k nt fu re) := hD
        have hS := hS9
        refine lv_istore (lv' := [(5, .int 0), (0, .ref b), (1, .ref (a 0)), (2, .ref (a2 0)), (3, .ref o), (4, .int (nI r))]) hx hb dL_law_1747 hl (by decide) rfl (fun ls hl => ?_)
        refine lv_aload_n hx hb dL_law_1749 rfl (lv_at hl 3 rfl) ?_
        refine lv_aload_n hx hb dL_law_1750 rfl (lv_at hl 1 rfl) ?_
        refine lv_iload hx hb dL_law_1751 (lv_at hl 5 rfl) ?_
        refine lv_iconst (v := 1) hx hb dL_law_1753 (by decide) ?_
        refine lv_iadd hx hb dL_law_1754 ?_
        refine w_sld hx hb hX hbl hbA hS hL (r + 1) (nI_1 r) (by omega) hx1 dL_law_1755 ?_
        refine lv_aload_n hx hb dL_law_1756 rfl (lv_at hl 1 rfl) ?_
        refine lv_iload hx hb dL_law_1757 (lv_at hl 5 rfl) ?_
        refine lv_iconst (v := 2) hx hb dL_law_1759 (by decide) ?_
        refine lv_iadd hx hb dL_law_1760 ?_
        refine w_sld hx hb hX hbl hbA hS hL (r + 2) (nI_add r 2) (by omega) hx2 dL_law_1761 ?_
        have hPM := wj_Pr hP
        have hDM := wj_Dr hD
        have hF := wj_Fr hD hS hA
        refine va_calli (va_runV (As := [.int (nI i), .int (nI v)]) (rest := []) hC (c_X1_wouldRefund l H.size i hi hn (nI v) h1 h2 hw (hg.mpr ha)) (cwV 2 hC.2.2.2.2 (gi_V mM_L_218 mV_X1_wouldRefund mS_X1_wouldRefund mI_MissRegistryModel mC_X1_wouldRefund) rfl rfl rfl (by decide +kernel) ⟨Nat.le_of_ble_eq_true rfl, Nat.le_of_ble_eq_true rfl⟩) ⟨fun a1 U g mk q => ⟨q.1, q.2.1, ⟨q.2.2.1.1, va_K.moved (u := U) (U := U.calling g mk a1) (Vm.Alike.refl U.vm) q.2.2.1.2⟩, q.2.2.2⟩, va_recv hK2 hPM (ci := 1) (q0 := 0) rfl rfl, fun U hU hW => ⟨rfl, by rw [hU], ⟨by rw [hU]; exact hPM, va_K.moved hW.alike hK2⟩, hDM.weaken (fun _ _ _ _ => trivial)⟩⟩ rfl rfl hl.1 rfl (lv_room (Nat.le_of_ble_eq_true rfl)) dL_law_1762 ⟨(show _ ≤ 601024 by omega), (show _ ≤ 7293034 by omega)⟩) hS (fun q _ h => hF q h) hF (fun r7 u7 t H locs ht hvm hw7 hB hz9 hk9 hS9 => ?_)
        obtain ⟨hP1, hK1, hD1⟩ := hB
        rw [ht] at hP1
        obtain ⟨hP, hD⟩ := wj_r hP hD hk9 hF hP1 hD1
        have hP : va_P D vwCl (oW o cJ u9 (xW z a lv lk pu fa he n nv du (sp_tarr du nv (nI v) ta w) w mp mi k nt fu re) ++ mW z2 a2 0 n w gn lk pu fa he nv of mp mi k nt fu re) H := hP
        have hD : va_D (nw s) (oW o cJ u9 (xW z a lv lk pu fa he n nv du (sp_tarr du nv (nI v) ta w) w mp mi k nt fu re) ++ mW z2 a2 0 n w gn lk pu fa he nv of mp mi k nt fu re) := hD
        have hS := hS9
        rw [show r7 = mq_rfd (fa i) (lk i) fu (mq_mid of nv (nI v) w) from hw7]
        refine lv_istore (lv' := [(6, .int (mq_rfd (fa i) (lk i) fu (mq_mid of nv (nI v) w))), (5, .int 0), (0, .ref b), (1, .ref (a 0)), (2, .ref (a2 0)), (3, .ref o), (4, .int (nI r))]) hx hb dL_law_1765 hl (by decide) rfl (fun ls hl => ?_)
        refine lv_aload_n hx hb dL_law_1767 rfl (lv_at hl 4 rfl) ?_
        refine vp_callSi (W.runV (As := []) (rest := []) hC (c_X1_thrown l) (cwV 0 hC.2.2.2.2 (gi_V mM_L_106 mV_X1_thrown mS_X1_thrown mI_MissRegistryModel mC_X1_thrown) rfl rfl rfl (by decide +kernel) ⟨Nat.le_of_ble_eq_true rfl, Nat.le_of_ble_eq_true rfl⟩) (mpre hK2 (wj_Pr hP)) rfl rfl hl.1 rfl (lv_room (Nat.le_of_ble_eq_true rfl)) dL_law_1768 ⟨(show _ ≤ 601024 by omega), (show _ ≤ 7293034 by omega)⟩) (fun r8 hr8 => ?_)
        rw [show r8 = 0 from hr8]
        refine lv_iload hx hb dL_law_1771 (lv_at hl 1 rfl) ?_
        refine lv_icmp_eq (tgt := 1778) hx hb dL_law_1773 (by decide) (fun c_1773 => ?_) (fun c_1773 => ?_)
        · refine lv_iload hx hb dL_law_1778 (lv_at hl 1 rfl) ?_
          refine lv_if_ne (tgt := 1795) hx hb dL_law_1780 (by decide) (fun c_1780 => ?_) (fun c_1780 => ?_)
          · exact absurd rfl c_1780
          · refine lv_aload_n hx hb dL_law_1783 rfl (lv_at hl 5 rfl) ?_
            refine lv_iconst (v := 0) hx hb dL_law_1784 (by decide) ?_
            refine w_lald hC hJ (wj_Pl hP) dL_law_1785 ?_
            refine lv_iload hx hb dL_law_1786 (lv_at hl 0 rfl) ?_
            refine lv_i2l hx hb dL_law_1788 rfl ?_
            refine w_lcmp hx hb dL_law_1789 (hu9.trans (by rw [emid, erf])) ?_
            refine lv_if_eq (tgt := 1795) hx hb dL_law_1790 (by decide) (fun c_1790 => ?_) (fun c_1790 => ?_)
            · refine lv_goto (tgt := 1948) hx hb dL_law_1795 (by decide) ?_
              exact kk _ _ _ _ _ ⟨lv, lk, pu, fa, he, n, nv, du, (sp_tarr du nv (nI v) ta w), w, mp, mi, k, nt, fu, re, gn, of, 0, u9, hI, hP, hD, hS⟩ (by omega) (by omega) (lv_sub hl [2, 3, 4, 5, 6] rfl)
            · exact absurd rfl c_1790
        · exact absurd rfl c_1773
set_option maxHeartbeats 8000000 in
set_option maxRecDepth 100000 in
theorem lc_34 {p : Program} {l : Launch} {e : Env} {s : State} {m : MethodId} {below : List Frame} {meth : Method} {c : Code} {H : Heap} {locs : List Loc} {cells slots : Nat} {Q : State → Prop} {ls : Array Slot} {b L : Nat} {xs : Nat → Int32} {D : va_G} {z z2 : ClassId × ClassId} {cJ : ClassId} {q9 t9 a a2 : Nat → Nat} {o : Nat} {lv lk pu fa he : Nat → Int32} {n : Nat} {nv du ta : Nat → Int32} {w : Nat} {mp mi : Nat → Int32} {k : Nat} {nt fu re : Int32} {gn of : Nat → Int32} {th : Int32} {g : Nat → Int64} {r : Nat} (X : LX p l s m c b L xs D z z2 cJ q9 t9) (hI : IV lv lk fa he n nv du w k gn of) (hP : va_P D vwCl (oW o cJ g (xW z a lv lk pu fa he n nv du ta w mp mi k nt fu re) ++ mW z2 a2 th n w gn lk pu fa he nv of mp mi k nt fu re) H) (hD : va_D (nw s) (oW o cJ g (xW z a lv lk pu fa he n nv du ta w mp mi k nt fu re) ++ mW z2 a2 th n w gn lk pu fa he nv of mp mi k nt fu re)) (hS : va_S (nw s) s.heap H locs) (hcl : cells + 12 ≤ 601024) (hsl : slots + 100 ≤ 7293034) (hr : r + 2 < L) (hl : lv_has ls 9 [(0, .ref b), (1, .ref (a 0)), (2, .ref (a2 0)), (3, .ref o), (4, .int (nI r))]) (kk : ∀ (H1 : Heap) (locs1 : List Loc) (c1 s1 : Nat) (ls1 : Array Slot), Jn D z z2 cJ a a2 o s H1 locs1 → c1 ≤ cells + 11 → s1 ≤ slots + 94 → lv_has ls1 9 [(0, .ref b), (1, .ref (a 0)), (2, .ref (a2 0)), (3, .ref o), (4, .int (nI r))] → W p l e room_1 s m #[.ref b] below meth c H1 locs1 c1 s1 Q (F0 m 1948 ls1 [])) : W p l e room_1 s m #[.ref b] below meth c H locs cells slots Q (F0 m 1798 ls []) := by
  obtain ⟨hC, hst, ⟨hX, hbl, hL⟩, ⟨hK, hK2, hJ⟩, hT, hN, hE⟩ := X
  have hx := hC.1
  have hb := hC.2.1
  have hA : ∀ q : Nat, s.heap.size ≤ q → nw s q := fun q h => h
  have hbA : ¬ nw s b := Nat.not_le.mpr hbl
  have hn := hI.1.1
  have hw := hI.1.2.1
  have hk := hI.1.2.2
  obtain ⟨x, hx1⟩ : ∃ x : Int32, xs (r + 1) = x := ⟨_, rfl⟩
  obtain ⟨y, hx2⟩ : ∃ y : Int32, xs (r + 2) = y := ⟨_, rfl⟩
  by_cases hbad : x < 1 ∨ ¬ x ≤ 60
  · refine lv_aload_n hx hb dL_law_1798 rfl (lv_at hl 1 rfl) ?_
    refine lv_aload_n hx hb dL_law_1799 rfl (lv_at hl 0 rfl) ?_
    refine lv_iload hx hb dL_law_1800 (lv_at hl 4 rfl) ?_
    refine lv_iconst (v := 1) hx hb dL_law_1802 (by decide) ?_
    refine lv_iadd hx hb dL_law_1803 ?_
    refine w_sld hx hb hX hbl hbA hS hL (r + 1) (nI_1 r) (by omega) hx1 dL_law_1804 ?_
    refine lv_aload_n hx hb dL_law_1805 rfl (lv_at hl 3 rfl) ?_
    have hPO := wj_Pl hP
    have hDO := wj_Dl hD
    have hF := wj_Fl hD hS hA
    refine va_calli (vx_runSW (As := [.ref (a 0), .int x, .ref o]) (rest := []) hC (w_missesUntilShaken_a l hst H.size x hbad) (vx_cwSW 3 hC.2.2.2.2 (gi_S mM_L_219 mT_L_missesUntilShaken mI_MissRegistryLaw mC_L_missesUntilShaken) rfl rfl rfl (by decide +kernel) ⟨Nat.le_of_ble_eq_true rfl, Nat.le_of_ble_eq_true rfl⟩) ⟨fun a1 U g mk q => ⟨q.1, q.2.1, q.2.2.1, va_K.moved (u := U) (U := U.calling g mk a1) (Vm.Alike.refl U.vm) q.2.2.2.1, va_K.moved (u := U) (U := U.calling g mk a1) (Vm.Alike.refl U.vm) q.2.2.2.2.1, ⟨q.2.2.2.2.2.1, tH.same (u := U) (U := U.calling g mk a1) rfl q.2.2.2.2.2.2.1, tN.moved (u := U) (U := U.calling g mk a1) (Vm.Alike.refl U.vm) q.2.2.2.2.2.2.2⟩⟩, fun U hU hW => ⟨rfl, by rw [hU], by rw [hU]; exact hPO, va_K.moved hW.alike hK, va_K.moved hW.alike hJ, hDO.weaken (fun _ _ _ _ => trivial), by rw [hU]; exact (hT.at hS).warm hW, hN.moved hW.alike⟩⟩ rfl rfl hl.1 rfl (lv_room (Nat.le_of_ble_eq_true rfl)) dL_law_1806 ⟨(show _ ≤ 601024 by omega), (show _ ≤ 7293034 by omega)⟩) hS (fun q _ h => hF q h) hF (fun r9 u9 t H locs ht hvm hw9 hB hz9 hk9 hS9 => ?_)
    obtain ⟨hP1, hD1⟩ := hB
    rw [ht] at hP1
    obtain ⟨hP, hD⟩ := wj_l hP hD hk9 hF hP1 hD1
    rw [show r9 = 1 from hw9]
    have hP : va_P D vwCl (oW o cJ g (xW z a lv lk pu fa he n nv du ta w mp mi k nt fu re) ++ mW z2 a2 th n w gn lk pu fa he nv of mp mi k nt fu re) H := hP
    have hD : va_D (nw s) (oW o cJ g (xW z a lv lk pu fa he n nv du ta w mp mi k nt fu re) ++ mW z2 a2 th n w gn lk pu fa he nv of mp mi k nt fu re) := hD
    have hS := hS9
    refine lv_istore (lv' := [(5, .int 1), (0, .ref b), (1, .ref (a 0)), (2, .ref (a2 0)), (3, .ref o), (4, .int (nI r))]) hx hb dL_law_1809 hl (by decide) rfl (fun ls hl => ?_)
    refine lv_aload_n hx hb dL_law_1811 rfl (lv_at hl 3 rfl) ?_
    refine lv_aload_n hx hb dL_law_1812 rfl (lv_at hl 1 rfl) ?_
    refine lv_iload hx hb dL_law_1813 (lv_at hl 5 rfl) ?_
    refine lv_iconst (v := 1) hx hb dL_law_1815 (by decide) ?_
    refine lv_iadd hx hb dL_law_1816 ?_
    refine w_sld hx hb hX hbl hbA hS hL (r + 1) (nI_1 r) (by omega) hx1 dL_law_1817 ?_
    have hPM := wj_Pr hP
    have hDM := wj_Dr hD
    have hF := wj_Fr hD hS hA
    refine va_calli (va_runV (As := [.int x]) (rest := []) hC (c_X1_missesUntilShaken_a l H.size x hbad) (cwV 1 hC.2.2.2.2 (gi_V mM_L_221 mV_X1_missesUntilShaken mS_X1_missesUntilShaken mI_MissRegistryModel mC_X1_missesUntilShaken) rfl rfl rfl (by decide +kernel) ⟨Nat.le_of_ble_eq_true rfl, Nat.le_of_ble_eq_true rfl⟩) ⟨fun a1 U g mk q => ⟨q.1, q.2.1, ⟨q.2.2.1.1, va_K.moved (u := U) (U := U.calling g mk a1) (Vm.Alike.refl U.vm) q.2.2.1.2⟩, q.2.2.2⟩, va_recv hK2 hPM (ci := 1) (q0 := 0) rfl rfl, fun U hU hW => ⟨rfl, by rw [hU], ⟨by rw [hU]; exact hPM, va_K.moved hW.alike hK2⟩, hDM.weaken (fun _ _ _ _ => trivial)⟩⟩ rfl rfl hl.1 rfl (lv_room (Nat.le_of_ble_eq_true rfl)) dL_law_1818 ⟨(show _ ≤ 601024 by omega), (show _ ≤ 7293034 by omega)⟩) hS (fun q _ h => hF q h) hF (fun r7 u7 t H locs ht hvm hw7 hB hz9 hk9 hS9 => ?_)
    obtain ⟨hP1, hK1, hD1⟩ := hB
    rw [ht] at hP1
    obtain ⟨hP, hD⟩ := wj_r hP hD hk9 hF hP1 hD1
    have hP : va_P D vwCl (oW o cJ g (xW z a lv lk pu fa he n nv du ta w mp mi k nt fu re) ++ mW z2 a2 1 n w gn lk pu fa he nv of mp mi k nt fu re) H := hP
    have hD : va_D (nw s) (oW o cJ g (xW z a lv lk pu fa he n nv du ta w mp mi k nt fu re) ++ mW z2 a2 1 n w gn lk pu fa he nv of mp mi k nt fu re) := hD
    have hS := hS9
    rw [show r7 = 0 from hw7]
    refine lv_istore (lv' := [(6, .int 0), (5, .int 1), (0, .ref b), (1, .ref (a 0)), (2, .ref (a2 0)), (3, .ref o), (4, .int (nI r))]) hx hb dL_law_1821 hl (by decide) rfl (fun ls hl => ?_)
    refine lv_aload_n hx hb dL_law_1823 rfl (lv_at hl 4 rfl) ?_
    refine vp_callSi (W.runV (As := []) (rest := []) hC (c_X1_thrown l) (cwV 0 hC.2.2.2.2 (gi_V mM_L_106 mV_X1_thrown mS_X1_thrown mI_MissRegistryModel mC_X1_thrown) rfl rfl rfl (by decide +kernel) ⟨Nat.le_of_ble_eq_true rfl, Nat.le_of_ble_eq_true rfl⟩) (mpre hK2 (wj_Pr hP)) rfl rfl hl.1 rfl (lv_room (Nat.le_of_ble_eq_true rfl)) dL_law_1824 ⟨(show _ ≤ 601024 by omega), (show _ ≤ 7293034 by omega)⟩) (fun r8 hr8 => ?_)
    rw [show r8 = 1 from hr8]
    refine lv_iload hx hb dL_law_1827 (lv_at hl 1 rfl) ?_
    refine lv_icmp_eq (tgt := 1834) hx hb dL_law_1829 (by decide) (fun c_1829 => ?_) (fun c_1829 => ?_)
    · refine lv_iload hx hb dL_law_1834 (lv_at hl 1 rfl) ?_
      refine lv_if_ne (tgt := 1851) hx hb dL_law_1836 (by decide) (fun c_1836 => ?_) (fun c_1836 => ?_)
      · refine lv_goto (tgt := 1948) hx hb dL_law_1851 (by decide) ?_
        exact kk _ _ _ _ _ ⟨lv, lk, pu, fa, he, n, nv, du, ta, w, mp, mi, k, nt, fu, re, gn, of, 1, g, hI, hP, hD, hS⟩ (by omega) (by omega) (lv_sub hl [2, 3, 4, 5, 6] rfl)
      · exact absurd c_1836 (by decide)
    · exact absurd rfl c_1829
  · have h1 : ¬ x < 1 := fun q => hbad (Or.inl q)
    have h2 : x ≤ 60 := Classical.not_not.mp (fun q => hbad (Or.inr q))
    refine lv_aload_n hx hb dL_law_1798 rfl (lv_at hl 1 rfl) ?_
    refine lv_aload_n hx hb dL_law_1799 rfl (lv_at hl 0 rfl) ?_
    refine lv_iload hx hb dL_law_1800 (lv_at hl 4 rfl) ?_
    refine lv_iconst (v := 1) hx hb dL_law_1802 (by decide) ?_
    refine lv_iadd hx hb dL_law_1803 ?_
    refine w_sld hx hb hX hbl hbA hS hL (r + 1) (nI_1 r) (by omega) hx1 dL_law_1804 ?_
    refine lv_aload_n hx hb dL_law_1805 rfl (lv_at hl 3 rfl) ?_
    have hPO := wj_Pl hP
    have hDO := wj_Dl hD
    have hF := wj_Fl hD hS hA
    refine va_calli (vx_runSW (As := [.ref (a 0), .int x, .ref o]) (rest := []) hC (w_missesUntilShaken l H.size x h1 h2 hw) (vx_cwSW 3 hC.2.2.2.2 (gi_S mM_L_219 mT_L_missesUntilShaken mI_MissRegistryLaw mC_L_missesUntilShaken) rfl rfl rfl (by decide +kernel) ⟨Nat.le_of_ble_eq_true rfl, Nat.le_of_ble_eq_true rfl⟩) ⟨fun a1 U g mk q => ⟨q.1, q.2.1, q.2.2.1, va_K.moved (u := U) (U := U.calling g mk a1) (Vm.Alike.refl U.vm) q.2.2.2.1, va_K.moved (u := U) (U := U.calling g mk a1) (Vm.Alike.refl U.vm) q.2.2.2.2.1, q.2.2.2.2.2⟩, fun U hU hW => ⟨rfl, by rw [hU], by rw [hU]; exact hPO, va_K.moved hW.alike hK, va_K.moved hW.alike hJ, hDO.weaken (fun _ _ _ _ => trivial)⟩⟩ rfl rfl hl.1 rfl (lv_room (Nat.le_of_ble_eq_true rfl)) dL_law_1806 ⟨(show _ ≤ 601024 by omega), (show _ ≤ 7293034 by omega)⟩) hS (fun q _ h => hF q h) hF (fun r9 u9 t H locs ht hvm hw9 hB hz9 hk9 hS9 => ?_)
    obtain ⟨hP1, hD1⟩ := hB
    rw [ht] at hP1
    obtain ⟨hP, hD⟩ := wj_l hP hD hk9 hF hP1 hD1
    obtain ⟨hr9, hu9⟩ := hw9
    rw [hr9]
    have hP : va_P D vwCl (oW o cJ u9 (xW z a lv lk pu fa he n nv du ta w mp mi k nt fu re) ++ mW z2 a2 th n w gn lk pu fa he nv of mp mi k nt fu re) H := hP
    have hD : va_D (nw s) (oW o cJ u9 (xW z a lv lk pu fa he n nv du ta w mp mi k nt fu re) ++ mW z2 a2 th n w gn lk pu fa he nv of mp mi k nt fu re) := hD
    have hS := hS9
    refine lv_istore (lv' := [(5, .int 0), (0, .ref b), (1, .ref (a 0)), (2, .ref (a2 0)), (3, .ref o), (4, .int (nI r))]) hx hb dL_law_1809 hl (by decide) rfl (fun ls hl => ?_)
    refine lv_aload_n hx hb dL_law_1811 rfl (lv_at hl 3 rfl) ?_
    refine lv_aload_n hx hb dL_law_1812 rfl (lv_at hl 1 rfl) ?_
    refine lv_iload hx hb dL_law_1813 (lv_at hl 5 rfl) ?_
    refine lv_iconst (v := 1) hx hb dL_law_1815 (by decide) ?_
    refine lv_iadd hx hb dL_law_1816 ?_
    refine w_sld hx hb hX hbl hbA hS hL (r + 1) (nI_1 r) (by omega) hx1 dL_law_1817 ?_
    have hPM := wj_Pr hP
    have hDM := wj_Dr hD
    have hF := wj_Fr hD hS hA
    refine va_calli (va_runV (As := [.int x]) (rest := []) hC (c_X1_missesUntilShaken l H.size x h1 h2 hw) (cwV 1 hC.2.2.2.2 (gi_V mM_L_221 mV_X1_missesUntilShaken mS_X1_missesUntilShaken mI_MissRegistryModel mC_X1_missesUntilShaken) rfl rfl rfl (by decide +kernel) ⟨Nat.le_of_ble_eq_true rfl, Nat.le_of_ble_eq_true rfl⟩) ⟨fun a1 U g mk q => ⟨q.1, q.2.1, ⟨q.2.2.1.1, va_K.moved (u := U) (U := U.calling g mk a1) (Vm.Alike.refl U.vm) q.2.2.1.2⟩, q.2.2.2⟩, va_recv hK2 hPM (ci := 1) (q0 := 0) rfl rfl, fun U hU hW => ⟨rfl, by rw [hU], ⟨by rw [hU]; exact hPM, va_K.moved hW.alike hK2⟩, hDM.weaken (fun _ _ _ _ => trivial)⟩⟩ rfl rfl hl.1 rfl (lv_room (Nat.le_of_ble_eq_true rfl)) dL_law_1818 ⟨(show _ ≤ 601024 by omega), (show _ ≤ 7293034 by omega)⟩) hS (fun q _ h => hF q h) hF (fun r7 u7 t H locs ht hvm hw7 hB hz9 hk9 hS9 => ?_)
    obtain ⟨hP1, hK1, hD1⟩ := hB
    rw [ht] at hP1
    obtain ⟨hP, hD⟩ := wj_r hP hD hk9 hF hP1 hD1
    have hP : va_P D vwCl (oW o cJ u9 (xW z a lv lk pu fa he n nv du ta w mp mi k nt fu re) ++ mW z2 a2 0 n w gn lk pu fa he nv of mp mi k nt fu re) H := hP
    have hD : va_D (nw s) (oW o cJ u9 (xW z a lv lk pu fa he n nv du ta w mp mi k nt fu re) ++ mW z2 a2 0 n w gn lk pu fa he nv of mp mi k nt fu re) := hD
    have hS := hS9
    rw [show r7 = mq_usk of nv w x from hw7]
    refine lv_istore (lv' := [(6, .int (mq_usk of nv w x)), (5, .int 0), (0, .ref b), (1, .ref (a 0)), (2, .ref (a2 0)), (3, .ref o), (4, .int (nI r))]) hx hb dL_law_1821 hl (by decide) rfl (fun ls hl => ?_)
    refine lv_aload_n hx hb dL_law_1823 rfl (lv_at hl 4 rfl) ?_
    refine vp_callSi (W.runV (As := []) (rest := []) hC (c_X1_thrown l) (cwV 0 hC.2.2.2.2 (gi_V mM_L_106 mV_X1_thrown mS_X1_thrown mI_MissRegistryModel mC_X1_thrown) rfl rfl rfl (by decide +kernel) ⟨Nat.le_of_ble_eq_true rfl, Nat.le_of_ble_eq_true rfl⟩) (mpre hK2 (wj_Pr hP)) rfl rfl hl.1 rfl (lv_room (Nat.le_of_ble_eq_true rfl)) dL_law_1824 ⟨(show _ ≤ 601024 by omega), (show _ ≤ 7293034 by omega)⟩) (fun r8 hr8 => ?_)
    rw [show r8 = 0 from hr8]
    refine lv_iload hx hb dL_law_1827 (lv_at hl 1 rfl) ?_
    refine lv_icmp_eq (tgt := 1834) hx hb dL_law_1829 (by decide) (fun c_1829 => ?_) (fun c_1829 => ?_)
    · refine lv_iload hx hb dL_law_1834 (lv_at hl 1 rfl) ?_
      refine lv_if_ne (tgt := 1851) hx hb dL_law_1836 (by decide) (fun c_1836 => ?_) (fun c_1836 => ?_)
      · exact absurd rfl c_1836
      · refine lv_aload_n hx hb dL_law_1839 rfl (lv_at hl 5 rfl) ?_
        refine lv_iconst (v := 0) hx hb dL_law_1840 (by decide) ?_
        refine w_lald hC hJ (wj_Pl hP) dL_law_1841 ?_
        refine lv_iload hx hb dL_law_1842 (lv_at hl 0 rfl) ?_
        refine lv_i2l hx hb dL_law_1844 rfl ?_
        refine w_lcmp hx hb dL_law_1845 (hu9.trans (by rw [e_usk hI.2.1.2.iff hI.2.2.2.2.1 hw])) ?_
        refine lv_if_eq (tgt := 1851) hx hb dL_law_1846 (by decide) (fun c_1846 => ?_) (fun c_1846 => ?_)
        · refine lv_goto (tgt := 1948) hx hb dL_law_1851 (by decide) ?_
          exact kk _ _ _ _ _ ⟨lv, lk, pu, fa, he, n, nv, du, ta, w, mp, mi, k, nt, fu, re, gn, of, 0, u9, hI, hP, hD, hS⟩ (by omega) (by omega) (lv_sub hl [2, 3, 4, 5, 6] rfl)
        · exact absurd rfl c_1846
    · exact absurd rfl c_1829
set_option maxHeartbeats 8000000 in
set_option maxRecDepth 100000 in
theorem lc_35 {p : Program} {l : Launch} {e : Env} {s : State} {m : MethodId} {below : List Frame} {meth : Method} {c : Code} {H : Heap} {locs : List Loc} {cells slots : Nat} {Q : State → Prop} {ls : Array Slot} {b L : Nat} {xs : Nat → Int32} {D : va_G} {z z2 : ClassId × ClassId} {cJ : ClassId} {q9 t9 a a2 : Nat → Nat} {o : Nat} {lv lk pu fa he : Nat → Int32} {n : Nat} {nv du ta : Nat → Int32} {w : Nat} {mp mi : Nat → Int32} {k : Nat} {nt fu re : Int32} {gn of : Nat → Int32} {th : Int32} {g : Nat → Int64} {r : Nat} (X : LX p l s m c b L xs D z z2 cJ q9 t9) (hI : IV lv lk fa he n nv du w k gn of) (hP : va_P D vwCl (oW o cJ g (xW z a lv lk pu fa he n nv du ta w mp mi k nt fu re) ++ mW z2 a2 th n w gn lk pu fa he nv of mp mi k nt fu re) H) (hD : va_D (nw s) (oW o cJ g (xW z a lv lk pu fa he n nv du ta w mp mi k nt fu re) ++ mW z2 a2 th n w gn lk pu fa he nv of mp mi k nt fu re)) (hS : va_S (nw s) s.heap H locs) (hcl : cells + 12 ≤ 601024) (hsl : slots + 100 ≤ 7293034) (hr : r + 2 < L) (hl : lv_has ls 9 [(0, .ref b), (1, .ref (a 0)), (2, .ref (a2 0)), (3, .ref o), (4, .int (nI r))]) (kk : ∀ (H1 : Heap) (locs1 : List Loc) (c1 s1 : Nat) (ls1 : Array Slot), Jn D z z2 cJ a a2 o s H1 locs1 → c1 ≤ cells + 11 → s1 ≤ slots + 94 → lv_has ls1 9 [(0, .ref b), (1, .ref (a 0)), (2, .ref (a2 0)), (3, .ref o), (4, .int (nI r))] → W p l e room_1 s m #[.ref b] below meth c H1 locs1 c1 s1 Q (F0 m 1948 ls1 [])) : W p l e room_1 s m #[.ref b] below meth c H locs cells slots Q (F0 m 1854 ls []) := by
  obtain ⟨hC, hst, ⟨hX, hbl, hL⟩, ⟨hK, hK2, hJ⟩, hT, hN, hE⟩ := X
  have hx := hC.1
  have hb := hC.2.1
  have hA : ∀ q : Nat, s.heap.size ≤ q → nw s q := fun q h => h
  have hbA : ¬ nw s b := Nat.not_le.mpr hbl
  have hn := hI.1.1
  have hw := hI.1.2.1
  have hk := hI.1.2.2
  refine lv_aload_n hx hb dL_law_1854 rfl (lv_at hl 1 rfl) ?_
  refine vp_callSi (W.runV (As := []) (rest := []) hC (c_X0_nightsUntilCalm l hw) (cwV 0 hC.2.2.2.2 (gi_V mM_L_222 mV_X0_nightsUntilCalm mS_X0_nightsUntilCalm mI_MissRegistry mC_X0_nightsUntilCalm) rfl rfl rfl (by decide +kernel) ⟨Nat.le_of_ble_eq_true rfl, Nat.le_of_ble_eq_true rfl⟩) (xpre hK (wj_Pr (wj_Pl hP))) rfl rfl hl.1 rfl (lv_room (Nat.le_of_ble_eq_true rfl)) dL_law_1855 ⟨(show _ ≤ 601024 by omega), (show _ ≤ 7293034 by omega)⟩) (fun r8 hr8 => ?_)
  rw [show r8 = sp_nuc nv du w from hr8]
  refine lv_aload_n hx hb dL_law_1858 rfl (lv_at hl 2 rfl) ?_
  have hPM := wj_Pr hP
  have hDM := wj_Dr hD
  have hF := wj_Fr hD hS hA
  refine va_calli (va_runV (As := []) (rest := [.int (sp_nuc nv du w)]) hC (c_X1_nightsUntilCalm l H.size hw) (cwV 0 hC.2.2.2.2 (gi_V mM_L_225 mV_X1_nightsUntilCalm mS_X1_nightsUntilCalm mI_MissRegistryModel mC_X1_nightsUntilCalm) rfl rfl rfl (by decide +kernel) ⟨Nat.le_of_ble_eq_true rfl, Nat.le_of_ble_eq_true rfl⟩) ⟨fun a1 U g mk q => ⟨q.1, q.2.1, ⟨q.2.2.1.1, va_K.moved (u := U) (U := U.calling g mk a1) (Vm.Alike.refl U.vm) q.2.2.1.2⟩, q.2.2.2⟩, va_recv hK2 hPM (ci := 1) (q0 := 0) rfl rfl, fun U hU hW => ⟨rfl, by rw [hU], ⟨by rw [hU]; exact hPM, va_K.moved hW.alike hK2⟩, hDM.weaken (fun _ _ _ _ => trivial)⟩⟩ rfl rfl hl.1 rfl (lv_room (Nat.le_of_ble_eq_true rfl)) dL_law_1859 ⟨(show _ ≤ 601024 by omega), (show _ ≤ 7293034 by omega)⟩) hS (fun q _ h => hF q h) hF (fun r7 u7 t H locs ht hvm hw7 hB hz9 hk9 hS9 => ?_)
  obtain ⟨hP1, hK1, hD1⟩ := hB
  rw [ht] at hP1
  obtain ⟨hP, hD⟩ := wj_r hP hD hk9 hF hP1 hD1
  have hP : va_P D vwCl (oW o cJ g (xW z a lv lk pu fa he n nv du ta w mp mi k nt fu re) ++ mW z2 a2 0 n w gn lk pu fa he nv of mp mi k nt fu re) H := hP
  have hD : va_D (nw s) (oW o cJ g (xW z a lv lk pu fa he n nv du ta w mp mi k nt fu re) ++ mW z2 a2 0 n w gn lk pu fa he nv of mp mi k nt fu re) := hD
  have hS := hS9
  rw [show r7 = mq_ucl of nv w from hw7]
  rw [show mq_ucl of nv w = sp_nuc nv du w from (e_ucl hI.2.1.2.1 hI.2.2.2.2.1)]
  refine lv_icmp_eq (tgt := 1948) hx hb dL_law_1862 (by decide) (fun c_1862 => ?_) (fun c_1862 => ?_)
  · exact kk _ _ _ _ _ ⟨lv, lk, pu, fa, he, n, nv, du, ta, w, mp, mi, k, nt, fu, re, gn, of, 0, g, hI, hP, hD, hS⟩ (by omega) (by omega) (lv_sub hl [0, 1, 2, 3, 4] rfl)
  · exact absurd rfl c_1862
set_option maxHeartbeats 8000000 in
set_option maxRecDepth 100000 in
theorem lc_36 {p : Program} {l : Launch} {e : Env} {s : State} {m : MethodId} {below : List Frame} {meth : Method} {c : Code} {H : Heap} {locs : List Loc} {cells slots : Nat} {Q : State → Prop} {ls : Array Slot} {b L : Nat} {xs : Nat → Int32} {D : va_G} {z z2 : ClassId × ClassId} {cJ : ClassId} {q9 t9 a a2 : Nat → Nat} {o : Nat} {lv lk pu fa he : Nat → Int32} {n : Nat} {nv du ta : Nat → Int32} {w : Nat} {mp mi : Nat → Int32} {k : Nat} {nt fu re : Int32} {gn of : Nat → Int32} {th : Int32} {g : Nat → Int64} {r : Nat} (X : LX p l s m c b L xs D z z2 cJ q9 t9) (hI : IV lv lk fa he n nv du w k gn of) (hP : va_P D vwCl (oW o cJ g (xW z a lv lk pu fa he n nv du ta w mp mi k nt fu re) ++ mW z2 a2 th n w gn lk pu fa he nv of mp mi k nt fu re) H) (hD : va_D (nw s) (oW o cJ g (xW z a lv lk pu fa he n nv du ta w mp mi k nt fu re) ++ mW z2 a2 th n w gn lk pu fa he nv of mp mi k nt fu re)) (hS : va_S (nw s) s.heap H locs) (hcl : cells + 12 ≤ 601024) (hsl : slots + 100 ≤ 7293034) (hr : r + 2 < L) (hl : lv_has ls 9 [(0, .ref b), (1, .ref (a 0)), (2, .ref (a2 0)), (3, .ref o), (4, .int (nI r))]) (kk : ∀ (H1 : Heap) (locs1 : List Loc) (c1 s1 : Nat) (ls1 : Array Slot), Jn D z z2 cJ a a2 o s H1 locs1 → c1 ≤ cells + 11 → s1 ≤ slots + 94 → lv_has ls1 9 [(0, .ref b), (1, .ref (a 0)), (2, .ref (a2 0)), (3, .ref o), (4, .int (nI r))] → W p l e room_1 s m #[.ref b] below meth c H1 locs1 c1 s1 Q (F0 m 1948 ls1 [])) : W p l e room_1 s m #[.ref b] below meth c H locs cells slots Q (F0 m 1867 ls []) := by
  obtain ⟨hC, hst, ⟨hX, hbl, hL⟩, ⟨hK, hK2, hJ⟩, hT, hN, hE⟩ := X
  have hx := hC.1
  have hb := hC.2.1
  have hA : ∀ q : Nat, s.heap.size ≤ q → nw s q := fun q h => h
  have hbA : ¬ nw s b := Nat.not_le.mpr hbl
  have hn := hI.1.1
  have hw := hI.1.2.1
  have hk := hI.1.2.2
  refine lv_aload_n hx hb dL_law_1867 rfl (lv_at hl 1 rfl) ?_
  refine vp_callSi (W.runV (As := []) (rest := []) hC (c_X0_steadiest l hw) (cwV 0 hC.2.2.2.2 (gi_V mM_L_226 mV_X0_steadiest mS_X0_steadiest mI_MissRegistry mC_X0_steadiest) rfl rfl rfl (by decide +kernel) ⟨Nat.le_of_ble_eq_true rfl, Nat.le_of_ble_eq_true rfl⟩) (xpre hK (wj_Pr (wj_Pl hP))) rfl rfl hl.1 rfl (lv_room (Nat.le_of_ble_eq_true rfl)) dL_law_1868 ⟨(show _ ≤ 601024 by omega), (show _ ≤ 7293034 by omega)⟩) (fun r8 hr8 => ?_)
  rw [show r8 = (sp_best du nv w).1 from hr8]
  refine lv_aload_n hx hb dL_law_1871 rfl (lv_at hl 2 rfl) ?_
  have hPM := wj_Pr hP
  have hDM := wj_Dr hD
  have hF := wj_Fr hD hS hA
  refine va_calli (va_runV (As := []) (rest := [.int ((sp_best du nv w).1)]) hC (c_X1_steadiest l H.size hw) (cwV 0 hC.2.2.2.2 (gi_V mM_L_229 mV_X1_steadiest mS_X1_steadiest mI_MissRegistryModel mC_X1_steadiest) rfl rfl rfl (by decide +kernel) ⟨Nat.le_of_ble_eq_true rfl, Nat.le_of_ble_eq_true rfl⟩) ⟨fun a1 U g mk q => ⟨q.1, q.2.1, ⟨q.2.2.1.1, va_K.moved (u := U) (U := U.calling g mk a1) (Vm.Alike.refl U.vm) q.2.2.1.2⟩, q.2.2.2⟩, va_recv hK2 hPM (ci := 1) (q0 := 0) rfl rfl, fun U hU hW => ⟨rfl, by rw [hU], ⟨by rw [hU]; exact hPM, va_K.moved hW.alike hK2⟩, hDM.weaken (fun _ _ _ _ => trivial)⟩⟩ rfl rfl hl.1 rfl (lv_room (Nat.le_of_ble_eq_true rfl)) dL_law_1872 ⟨(show _ ≤ 601024 by omega), (show _ ≤ 7293034 by omega)⟩) hS (fun q _ h => hF q h) hF (fun r7 u7 t H locs ht hvm hw7 hB hz9 hk9 hS9 => ?_)
  obtain ⟨hP1, hK1, hD1⟩ := hB
  rw [ht] at hP1
  obtain ⟨hP, hD⟩ := wj_r hP hD hk9 hF hP1 hD1
  have hP : va_P D vwCl (oW o cJ g (xW z a lv lk pu fa he n nv du ta w mp mi k nt fu re) ++ mW z2 a2 0 n w gn lk pu fa he nv of mp mi k nt fu re) H := hP
  have hD : va_D (nw s) (oW o cJ g (xW z a lv lk pu fa he n nv du ta w mp mi k nt fu re) ++ mW z2 a2 0 n w gn lk pu fa he nv of mp mi k nt fu re) := hD
  have hS := hS9
  rw [show r7 = mq_best of nv w from hw7]
  rw [show mq_best of nv w = (sp_best du nv w).1 from (e_best1 hI.2.1.2.iff (hI.2.2.2.2.1.mono (by omega)) (by omega))]
  refine lv_icmp_eq (tgt := 1948) hx hb dL_law_1875 (by decide) (fun c_1875 => ?_) (fun c_1875 => ?_)
  · exact kk _ _ _ _ _ ⟨lv, lk, pu, fa, he, n, nv, du, ta, w, mp, mi, k, nt, fu, re, gn, of, 0, g, hI, hP, hD, hS⟩ (by omega) (by omega) (lv_sub hl [0, 1, 2, 3, 4] rfl)
  · exact absurd rfl c_1875
set_option maxHeartbeats 8000000 in
set_option maxRecDepth 100000 in
theorem lc_37 {p : Program} {l : Launch} {e : Env} {s : State} {m : MethodId} {below : List Frame} {meth : Method} {c : Code} {H : Heap} {locs : List Loc} {cells slots : Nat} {Q : State → Prop} {ls : Array Slot} {b L : Nat} {xs : Nat → Int32} {D : va_G} {z z2 : ClassId × ClassId} {cJ : ClassId} {q9 t9 a a2 : Nat → Nat} {o : Nat} {lv lk pu fa he : Nat → Int32} {n : Nat} {nv du ta : Nat → Int32} {w : Nat} {mp mi : Nat → Int32} {k : Nat} {nt fu re : Int32} {gn of : Nat → Int32} {th : Int32} {g : Nat → Int64} {r : Nat} (X : LX p l s m c b L xs D z z2 cJ q9 t9) (hI : IV lv lk fa he n nv du w k gn of) (hP : va_P D vwCl (oW o cJ g (xW z a lv lk pu fa he n nv du ta w mp mi k nt fu re) ++ mW z2 a2 th n w gn lk pu fa he nv of mp mi k nt fu re) H) (hD : va_D (nw s) (oW o cJ g (xW z a lv lk pu fa he n nv du ta w mp mi k nt fu re) ++ mW z2 a2 th n w gn lk pu fa he nv of mp mi k nt fu re)) (hS : va_S (nw s) s.heap H locs) (hcl : cells + 12 ≤ 601024) (hsl : slots + 100 ≤ 7293034) (hr : r + 2 < L) (hl : lv_has ls 9 [(0, .ref b), (1, .ref (a 0)), (2, .ref (a2 0)), (3, .ref o), (4, .int (nI r))]) (kk : ∀ (H1 : Heap) (locs1 : List Loc) (c1 s1 : Nat) (ls1 : Array Slot), Jn D z z2 cJ a a2 o s H1 locs1 → c1 ≤ cells + 11 → s1 ≤ slots + 94 → lv_has ls1 9 [(0, .ref b), (1, .ref (a 0)), (2, .ref (a2 0)), (3, .ref o), (4, .int (nI r))] → W p l e room_1 s m #[.ref b] below meth c H1 locs1 c1 s1 Q (F0 m 1948 ls1 [])) : W p l e room_1 s m #[.ref b] below meth c H locs cells slots Q (F0 m 1880 ls []) := by
  obtain ⟨hC, hst, ⟨hX, hbl, hL⟩, ⟨hK, hK2, hJ⟩, hT, hN, hE⟩ := X
  have hx := hC.1
  have hb := hC.2.1
  have hA : ∀ q : Nat, s.heap.size ≤ q → nw s q := fun q h => h
  have hbA : ¬ nw s b := Nat.not_le.mpr hbl
  have hn := hI.1.1
  have hw := hI.1.2.1
  have hk := hI.1.2.2
  refine lv_aload_n hx hb dL_law_1880 rfl (lv_at hl 1 rfl) ?_
  refine vp_callSi (W.runV (As := []) (rest := []) hC (c_X0_luckiest l hn) (cwV 0 hC.2.2.2.2 (gi_V mM_L_230 mV_X0_luckiest mS_X0_luckiest mI_MissRegistry mC_X0_luckiest) rfl rfl rfl (by decide +kernel) ⟨Nat.le_of_ble_eq_true rfl, Nat.le_of_ble_eq_true rfl⟩) (xpre hK (wj_Pr (wj_Pl hP))) rfl rfl hl.1 rfl (lv_room (Nat.le_of_ble_eq_true rfl)) dL_law_1881 ⟨(show _ ≤ 601024 by omega), (show _ ≤ 7293034 by omega)⟩) (fun r8 hr8 => ?_)
  rw [show r8 = (sp_best lv lk n).1 from hr8]
  refine lv_aload_n hx hb dL_law_1884 rfl (lv_at hl 2 rfl) ?_
  have hPM := wj_Pr hP
  have hDM := wj_Dr hD
  have hF := wj_Fr hD hS hA
  refine va_calli (va_runV (As := []) (rest := [.int ((sp_best lv lk n).1)]) hC (c_X1_luckiest l H.size hn) (cwV 0 hC.2.2.2.2 (gi_V mM_L_233 mV_X1_luckiest mS_X1_luckiest mI_MissRegistryModel mC_X1_luckiest) rfl rfl rfl (by decide +kernel) ⟨Nat.le_of_ble_eq_true rfl, Nat.le_of_ble_eq_true rfl⟩) ⟨fun a1 U g mk q => ⟨q.1, q.2.1, ⟨q.2.2.1.1, va_K.moved (u := U) (U := U.calling g mk a1) (Vm.Alike.refl U.vm) q.2.2.1.2⟩, q.2.2.2⟩, va_recv hK2 hPM (ci := 1) (q0 := 0) rfl rfl, fun U hU hW => ⟨rfl, by rw [hU], ⟨by rw [hU]; exact hPM, va_K.moved hW.alike hK2⟩, hDM.weaken (fun _ _ _ _ => trivial)⟩⟩ rfl rfl hl.1 rfl (lv_room (Nat.le_of_ble_eq_true rfl)) dL_law_1885 ⟨(show _ ≤ 601024 by omega), (show _ ≤ 7293034 by omega)⟩) hS (fun q _ h => hF q h) hF (fun r7 u7 t H locs ht hvm hw7 hB hz9 hk9 hS9 => ?_)
  obtain ⟨hP1, hK1, hD1⟩ := hB
  rw [ht] at hP1
  obtain ⟨hP, hD⟩ := wj_r hP hD hk9 hF hP1 hD1
  have hP : va_P D vwCl (oW o cJ g (xW z a lv lk pu fa he n nv du ta w mp mi k nt fu re) ++ mW z2 a2 0 n w gn lk pu fa he nv of mp mi k nt fu re) H := hP
  have hD : va_D (nw s) (oW o cJ g (xW z a lv lk pu fa he n nv du ta w mp mi k nt fu re) ++ mW z2 a2 0 n w gn lk pu fa he nv of mp mi k nt fu re) := hD
  have hS := hS9
  rw [show r7 = mq_best gn lk n from hw7]
  rw [show mq_best gn lk n = (sp_best lv lk n).1 from (e_best1 hI.2.1.1.iff hI.2.2.2.2.2.2 hn)]
  refine lv_icmp_eq (tgt := 1948) hx hb dL_law_1888 (by decide) (fun c_1888 => ?_) (fun c_1888 => ?_)
  · exact kk _ _ _ _ _ ⟨lv, lk, pu, fa, he, n, nv, du, ta, w, mp, mi, k, nt, fu, re, gn, of, 0, g, hI, hP, hD, hS⟩ (by omega) (by omega) (lv_sub hl [0, 1, 2, 3, 4] rfl)
  · exact absurd rfl c_1888
set_option maxHeartbeats 8000000 in
set_option maxRecDepth 100000 in
theorem lc_38 {p : Program} {l : Launch} {e : Env} {s : State} {m : MethodId} {below : List Frame} {meth : Method} {c : Code} {H : Heap} {locs : List Loc} {cells slots : Nat} {Q : State → Prop} {ls : Array Slot} {b L : Nat} {xs : Nat → Int32} {D : va_G} {z z2 : ClassId × ClassId} {cJ : ClassId} {q9 t9 a a2 : Nat → Nat} {o : Nat} {lv lk pu fa he : Nat → Int32} {n : Nat} {nv du ta : Nat → Int32} {w : Nat} {mp mi : Nat → Int32} {k : Nat} {nt fu re : Int32} {gn of : Nat → Int32} {th : Int32} {g : Nat → Int64} {r : Nat} (X : LX p l s m c b L xs D z z2 cJ q9 t9) (hI : IV lv lk fa he n nv du w k gn of) (hP : va_P D vwCl (oW o cJ g (xW z a lv lk pu fa he n nv du ta w mp mi k nt fu re) ++ mW z2 a2 th n w gn lk pu fa he nv of mp mi k nt fu re) H) (hD : va_D (nw s) (oW o cJ g (xW z a lv lk pu fa he n nv du ta w mp mi k nt fu re) ++ mW z2 a2 th n w gn lk pu fa he nv of mp mi k nt fu re)) (hS : va_S (nw s) s.heap H locs) (hcl : cells + 12 ≤ 601024) (hsl : slots + 100 ≤ 7293034) (hr : r + 2 < L) (hl : lv_has ls 9 [(0, .ref b), (1, .ref (a 0)), (2, .ref (a2 0)), (3, .ref o), (4, .int (nI r))]) (kk : ∀ (H1 : Heap) (locs1 : List Loc) (c1 s1 : Nat) (ls1 : Array Slot), Jn D z z2 cJ a a2 o s H1 locs1 → c1 ≤ cells + 11 → s1 ≤ slots + 94 → lv_has ls1 9 [(0, .ref b), (1, .ref (a 0)), (2, .ref (a2 0)), (3, .ref o), (4, .int (nI r))] → W p l e room_1 s m #[.ref b] below meth c H1 locs1 c1 s1 Q (F0 m 1948 ls1 [])) : W p l e room_1 s m #[.ref b] below meth c H locs cells slots Q (F0 m 1893 ls []) := by
  obtain ⟨hC, hst, ⟨hX, hbl, hL⟩, ⟨hK, hK2, hJ⟩, hT, hN, hE⟩ := X
  have hx := hC.1
  have hb := hC.2.1
  have hA : ∀ q : Nat, s.heap.size ≤ q → nw s q := fun q h => h
  have hbA : ¬ nw s b := Nat.not_le.mpr hbl
  have hn := hI.1.1
  have hw := hI.1.2.1
  have hk := hI.1.2.2
  refine lv_aload_n hx hb dL_law_1893 rfl (lv_at hl 1 rfl) ?_
  refine vp_callSd (W.runV (As := []) (rest := []) hC (c_X0_meanLuck l hn) (cwV 0 hC.2.2.2.2 (gi_V mM_L_234 mV_X0_meanLuck mS_X0_meanLuck mI_MissRegistry mC_X0_meanLuck) rfl rfl rfl (by decide +kernel) ⟨Nat.le_of_ble_eq_true rfl, Nat.le_of_ble_eq_true rfl⟩) (xpre hK (wj_Pr (wj_Pl hP))) rfl rfl hl.1 rfl (lv_room (Nat.le_of_ble_eq_true rfl)) dL_law_1894 ⟨(show _ ≤ 601024 by omega), (show _ ≤ 7293034 by omega)⟩) (fun r8 hr8 => ?_)
  rw [show r8 = sp_mean lv lk n from hr8]
  refine lv_dstore (lv' := [(5, .double (sp_mean lv lk n)), (0, .ref b), (1, .ref (a 0)), (2, .ref (a2 0)), (3, .ref o), (4, .int (nI r))]) hx hb dL_law_1897 hl (by decide) rfl (fun ls hl => ?_)
  refine lv_aload_n hx hb dL_law_1899 rfl (lv_at hl 3 rfl) ?_
  have hPM := wj_Pr hP
  have hDM := wj_Dr hD
  have hF := wj_Fr hD hS hA
  refine va_calld (va_runV (As := []) (rest := []) hC (c_X1_meanLuck l H.size hn) (cwV 0 hC.2.2.2.2 (gi_V mM_L_238 mV_X1_meanLuck mS_X1_meanLuck mI_MissRegistryModel mC_X1_meanLuck) rfl rfl rfl (by decide +kernel) ⟨Nat.le_of_ble_eq_true rfl, Nat.le_of_ble_eq_true rfl⟩) ⟨fun a1 U g mk q => ⟨q.1, q.2.1, ⟨q.2.2.1.1, va_K.moved (u := U) (U := U.calling g mk a1) (Vm.Alike.refl U.vm) q.2.2.1.2⟩, q.2.2.2⟩, va_recv hK2 hPM (ci := 1) (q0 := 0) rfl rfl, fun U hU hW => ⟨rfl, by rw [hU], ⟨by rw [hU]; exact hPM, va_K.moved hW.alike hK2⟩, hDM.weaken (fun _ _ _ _ => trivial)⟩⟩ rfl rfl hl.1 rfl (lv_room (Nat.le_of_ble_eq_true rfl)) dL_law_1900 ⟨(show _ ≤ 601024 by omega), (show _ ≤ 7293034 by omega)⟩) hS (fun q _ h => hF q h) hF (fun r7 u7 t H locs ht hvm hw7 hB hz9 hk9 hS9 => ?_)
  obtain ⟨hP1, hK1, hD1⟩ := hB
  rw [ht] at hP1
  obtain ⟨hP, hD⟩ := wj_r hP hD hk9 hF hP1 hD1
  have hP : va_P D vwCl (oW o cJ g (xW z a lv lk pu fa he n nv du ta w mp mi k nt fu re) ++ mW z2 a2 0 n w gn lk pu fa he nv of mp mi k nt fu re) H := hP
  have hD : va_D (nw s) (oW o cJ g (xW z a lv lk pu fa he n nv du ta w mp mi k nt fu re) ++ mW z2 a2 0 n w gn lk pu fa he nv of mp mi k nt fu re) := hD
  have hS := hS9
  rw [show r7 = mq_mean gn lk n from hw7]
  rw [show mq_mean gn lk n = sp_mean lv lk n from (e_mean hI.2.1.1.iff)]
  refine lv_dstore (lv' := [(7, .double (sp_mean lv lk n)), (5, .double (sp_mean lv lk n)), (0, .ref b), (1, .ref (a 0)), (2, .ref (a2 0)), (3, .ref o), (4, .int (nI r))]) hx hb dL_law_1903 hl (by decide) rfl (fun ls hl => ?_)
  refine lv_dload hx hb dL_law_1905 (lv_at hl 1 rfl) ?_
  refine lv_dload hx hb dL_law_1907 (lv_at hl 0 rfl) ?_
  refine w_dcmp hx hb dL_law_1909 (mean_cmp _ _ _) ?_
  refine lv_if_eq (tgt := 1931) hx hb dL_law_1910 (by decide) (fun c_1910 => ?_) (fun c_1910 => ?_)
  · refine lv_goto (tgt := 1948) hx hb dL_law_1931 (by decide) ?_
    exact kk _ _ _ _ _ ⟨lv, lk, pu, fa, he, n, nv, du, ta, w, mp, mi, k, nt, fu, re, gn, of, 0, g, hI, hP, hD, hS⟩ (by omega) (by omega) (lv_sub hl [2, 3, 4, 5, 6] rfl)
  · exact absurd rfl c_1910
set_option maxHeartbeats 8000000 in
set_option maxRecDepth 100000 in
theorem lc_39 {p : Program} {l : Launch} {e : Env} {s : State} {m : MethodId} {below : List Frame} {meth : Method} {c : Code} {H : Heap} {locs : List Loc} {cells slots : Nat} {Q : State → Prop} {ls : Array Slot} {b L : Nat} {xs : Nat → Int32} {D : va_G} {z z2 : ClassId × ClassId} {cJ : ClassId} {q9 t9 a a2 : Nat → Nat} {o : Nat} {lv lk pu fa he : Nat → Int32} {n : Nat} {nv du ta : Nat → Int32} {w : Nat} {mp mi : Nat → Int32} {k : Nat} {nt fu re : Int32} {gn of : Nat → Int32} {th : Int32} {g : Nat → Int64} {r : Nat} (X : LX p l s m c b L xs D z z2 cJ q9 t9) (hI : IV lv lk fa he n nv du w k gn of) (hP : va_P D vwCl (oW o cJ g (xW z a lv lk pu fa he n nv du ta w mp mi k nt fu re) ++ mW z2 a2 th n w gn lk pu fa he nv of mp mi k nt fu re) H) (hD : va_D (nw s) (oW o cJ g (xW z a lv lk pu fa he n nv du ta w mp mi k nt fu re) ++ mW z2 a2 th n w gn lk pu fa he nv of mp mi k nt fu re)) (hS : va_S (nw s) s.heap H locs) (hcl : cells + 12 ≤ 601024) (hsl : slots + 100 ≤ 7293034) (hr : r + 2 < L) (hl : lv_has ls 9 [(0, .ref b), (1, .ref (a 0)), (2, .ref (a2 0)), (3, .ref o), (4, .int (nI r))]) (kk : ∀ (H1 : Heap) (locs1 : List Loc) (c1 s1 : Nat) (ls1 : Array Slot), Jn D z z2 cJ a a2 o s H1 locs1 → c1 ≤ cells + 11 → s1 ≤ slots + 94 → lv_has ls1 9 [(0, .ref b), (1, .ref (a 0)), (2, .ref (a2 0)), (3, .ref o), (4, .int (nI r))] → W p l e room_1 s m #[.ref b] below meth c H1 locs1 c1 s1 Q (F0 m 1948 ls1 [])) : W p l e room_1 s m #[.ref b] below meth c H locs cells slots Q (F0 m 1934 ls []) := by
  obtain ⟨hC, hst, ⟨hX, hbl, hL⟩, ⟨hK, hK2, hJ⟩, hT, hN, hE⟩ := X
  have hx := hC.1
  have hb := hC.2.1
  have hA : ∀ q : Nat, s.heap.size ≤ q → nw s q := fun q h => h
  have hbA : ¬ nw s b := Nat.not_le.mpr hbl
  have hn := hI.1.1
  have hw := hI.1.2.1
  have hk := hI.1.2.2
  refine lv_aload_n hx hb dL_law_1934 rfl (lv_at hl 1 rfl) ?_
  have hPX := wj_Pr (wj_Pl hP)
  have hDX := wj_Dr (wj_Dl hD)
  have hF := wj_Fr (wj_Dl hD) hS hA
  refine va_calll (va_runV (As := []) (rest := []) hC (c_X0_digest l H.size hn hw hk (fun i hi => (hI.2.1.1.1 i hi).1)) (cwV 0 hC.2.2.2.2 (gi_V mM_L_239 mV_X0_digest mS_X0_digest mI_MissRegistry mC_X0_digest) rfl rfl rfl (by decide +kernel) ⟨Nat.le_of_ble_eq_true rfl, Nat.le_of_ble_eq_true rfl⟩) ⟨fun a1 U g mk q => ⟨q.1, q.2.1, ⟨q.2.2.1.1, va_K.moved (u := U) (U := U.calling g mk a1) (Vm.Alike.refl U.vm) q.2.2.1.2⟩, q.2.2.2.1, cH.same (u := U) (U := U.calling g mk a1) rfl q.2.2.2.2⟩, va_recv hK hPX (ci := 0) (q0 := 0) rfl rfl, fun U hU hW => ⟨rfl, by rw [hU], ⟨by rw [hU]; exact hPX, va_K.moved hW.alike hK⟩, hDX.weaken (fun _ _ _ _ => trivial), by rw [hU]; exact ((hE.kept hS.2.1).narrow (fun q h => hF q h)).warm hW⟩⟩ rfl rfl hl.1 rfl (lv_room (Nat.le_of_ble_eq_true rfl)) dL_law_1935 ⟨(show _ ≤ 601024 by omega), (show _ ≤ 7293034 by omega)⟩) hS (fun q _ h => hF q h) hF (fun r9 u9 t H locs ht hvm hw9 hB hz9 hk9 hS9 => ?_)
  obtain ⟨hP1, hK1, hD1⟩ := hB
  rw [ht] at hP1
  obtain ⟨hP, hD⟩ := wj_r (va_P.swap (a := [(o, .inl (cJ, 1, .inr (.inl g)))]) hP) (va_D.swap (a := [(o, .inl (cJ, 1, .inr (.inl g)))]) hD) hk9 hF hP1 hD1
  have hP : va_P D vwCl (oW o cJ g (xW z a lv lk pu fa he n nv du (sp_tarr du nv 20 ta w) w mp mi k nt fu re) ++ mW z2 a2 th n w gn lk pu fa he nv of mp mi k nt fu re) H := va_P.swap (a := [(o, .inl (cJ, 1, .inr (.inl g)))]) hP
  have hD : va_D (nw s) (oW o cJ g (xW z a lv lk pu fa he n nv du (sp_tarr du nv 20 ta w) w mp mi k nt fu re) ++ mW z2 a2 th n w gn lk pu fa he nv of mp mi k nt fu re) := va_D.swap (a := [(o, .inl (cJ, 1, .inr (.inl g)))]) hD
  have hS := hS9
  rw [show r9 = sp_dlast mp mi k (sp_dwit nv du (sp_dpers lv lk pu fa he n mp mi k (sp_dreg lv lk n nv du ta w mi k nt fu re 1951) n) w) from hw9]
  refine lv_aload_n hx hb dL_law_1938 rfl (lv_at hl 2 rfl) ?_
  have hPM := wj_Pr hP
  have hDM := wj_Dr hD
  have hF := wj_Fr hD hS hA
  refine va_calll (va_runV (As := []) (rest := [.long (sp_dlast mp mi k (sp_dwit nv du (sp_dpers lv lk pu fa he n mp mi k (sp_dreg lv lk n nv du ta w mi k nt fu re 1951) n) w))]) hC (c_X1_digest l H.size hn hw hk hI.2.2.2.1) (cwV 0 hC.2.2.2.2 (gi_V mM_L_243 mV_X1_digest mS_X1_digest mI_MissRegistryModel mC_X1_digest) rfl rfl rfl (by decide +kernel) ⟨Nat.le_of_ble_eq_true rfl, Nat.le_of_ble_eq_true rfl⟩) ⟨fun a1 U g mk q => ⟨q.1, q.2.1, ⟨q.2.2.1.1, va_K.moved (u := U) (U := U.calling g mk a1) (Vm.Alike.refl U.vm) q.2.2.1.2⟩, ⟨q.2.2.2.1, cH.same (u := U) (U := U.calling g mk a1) rfl q.2.2.2.2⟩⟩, va_recv hK2 hPM (ci := 1) (q0 := 0) rfl rfl, fun U hU hW => ⟨rfl, by rw [hU], ⟨by rw [hU]; exact hPM, va_K.moved hW.alike hK2⟩, hDM.weaken (fun _ _ _ _ => trivial), by rw [hU]; exact ((hE.kept hS.2.1).narrow (fun q h => hF q h)).warm hW⟩⟩ rfl rfl hl.1 rfl (lv_room (Nat.le_of_ble_eq_true rfl)) dL_law_1939 ⟨(show _ ≤ 601024 by omega), (show _ ≤ 7293034 by omega)⟩) hS (fun q _ h => hF q h) hF (fun r7 u7 t H locs ht hvm hw7 hB hz9 hk9 hS9 => ?_)
  obtain ⟨hP1, hK1, hD1⟩ := hB
  rw [ht] at hP1
  obtain ⟨hP, hD⟩ := wj_r hP hD hk9 hF hP1 hD1
  have hP : va_P D vwCl (oW o cJ g (xW z a lv lk pu fa he n nv du (sp_tarr du nv 20 ta w) w mp mi k nt fu re) ++ mW z2 a2 0 n w gn lk pu fa he nv of mp mi k nt fu re) H := hP
  have hD : va_D (nw s) (oW o cJ g (xW z a lv lk pu fa he n nv du (sp_tarr du nv 20 ta w) w mp mi k nt fu re) ++ mW z2 a2 0 n w gn lk pu fa he nv of mp mi k nt fu re) := hD
  have hS := hS9
  rw [show r7 = sp_dlast mp mi k (mq_dwit nv of (mq_dpers n gn lk pu fa he mp mi k (mq_dreg n w gn lk nv of mi k nt fu re) n) w) from hw7]
  rw [show sp_dlast mp mi k (mq_dwit nv of (mq_dpers n gn lk pu fa he mp mi k (mq_dreg n w gn lk nv of mi k nt fu re) n) w) = sp_dlast mp mi k (sp_dwit nv du (sp_dpers lv lk pu fa he n mp mi k (sp_dreg lv lk n nv du ta w mi k nt fu re 1951) n) w) from (e_dig hI)]
  refine w_lcmp hx hb dL_law_1942 rfl ?_
  refine lv_if_eq (tgt := 1948) hx hb dL_law_1943 (by decide) (fun c_1943 => ?_) (fun c_1943 => ?_)
  · exact kk _ _ _ _ _ ⟨lv, lk, pu, fa, he, n, nv, du, (sp_tarr du nv 20 ta w), w, mp, mi, k, nt, fu, re, gn, of, 0, g, hI, hP, hD, hS⟩ (by omega) (by omega) (lv_sub hl [0, 1, 2, 3, 4] rfl)
  · exact absurd rfl c_1943

set_option maxHeartbeats 8000000 in
set_option maxRecDepth 100000 in
theorem lc_24 {p : Program} {l : Launch} {e : Env} {s : State} {m : MethodId} {below : List Frame} {meth : Method} {c : Code} {H : Heap} {locs : List Loc} {cells slots : Nat} {Q : State → Prop} {ls : Array Slot} {b L : Nat} {xs : Nat → Int32} {D : va_G} {z z2 : ClassId × ClassId} {cJ : ClassId} {q9 t9 a a2 : Nat → Nat} {o : Nat} {lv lk pu fa he : Nat → Int32} {n : Nat} {nv du ta : Nat → Int32} {w : Nat} {mp mi : Nat → Int32} {k : Nat} {nt fu re : Int32} {gn of : Nat → Int32} {th : Int32} {g : Nat → Int64} {r : Nat} (X : LX p l s m c b L xs D z z2 cJ q9 t9) (hI : IV lv lk fa he n nv du w k gn of) (hP : va_P D vwCl (oW o cJ g (xW z a lv lk pu fa he n nv du ta w mp mi k nt fu re) ++ mW z2 a2 th n w gn lk pu fa he nv of mp mi k nt fu re) H) (hD : va_D (nw s) (oW o cJ g (xW z a lv lk pu fa he n nv du ta w mp mi k nt fu re) ++ mW z2 a2 th n w gn lk pu fa he nv of mp mi k nt fu re)) (hS : va_S (nw s) s.heap H locs) (hcl : cells + 12 ≤ 601024) (hsl : slots + 100 ≤ 7293034) (hr : r + 2 < L) (hl : lv_has ls 9 [(0, .ref b), (1, .ref (a 0)), (2, .ref (a2 0)), (3, .ref o), (4, .int (nI r))]) (kk : ∀ (H1 : Heap) (locs1 : List Loc) (c1 s1 : Nat) (ls1 : Array Slot), Jn D z z2 cJ a a2 o s H1 locs1 → c1 ≤ cells + 11 → s1 ≤ slots + 94 → lv_has ls1 9 [(0, .ref b), (1, .ref (a 0)), (2, .ref (a2 0)), (3, .ref o), (4, .int (nI r))] → W p l e room_1 s m #[.ref b] below meth c H1 locs1 c1 s1 Q (F0 m 1948 ls1 [])) : W p l e room_1 s m #[.ref b] below meth c H locs cells slots Q (F0 m 1207 ls []) := by
  obtain ⟨hC, hst, ⟨hX, hbl, hL⟩, ⟨hK, hK2, hJ⟩, hT, hN, hE⟩ := X
  have hx := hC.1
  have hb := hC.2.1
  have hA : ∀ q : Nat, s.heap.size ≤ q → nw s q := fun q h => h
  have hbA : ¬ nw s b := Nat.not_le.mpr hbl
  have hn := hI.1.1
  have hw := hI.1.2.1
  have hk := hI.1.2.2
  obtain ⟨x, hx1⟩ : ∃ x : Int32, xs (r + 1) = x := ⟨_, rfl⟩
  obtain ⟨y, hx2⟩ : ∃ y : Int32, xs (r + 2) = y := ⟨_, rfl⟩
  by_cases hp : sp_isP n x = 0
  · refine lv_aload_n hx hb dL_law_1207 rfl (lv_at hl 1 rfl) ?_
    refine lv_aload_n hx hb dL_law_1208 rfl (lv_at hl 0 rfl) ?_
    refine lv_iload hx hb dL_law_1209 (lv_at hl 4 rfl) ?_
    refine lv_iconst (v := 1) hx hb dL_law_1211 (by decide) ?_
    refine lv_iadd hx hb dL_law_1212 ?_
    refine w_sld hx hb hX hbl hbA hS hL (r + 1) (nI_1 r) (by omega) hx1 dL_law_1213 ?_
    refine lv_aload_n hx hb dL_law_1214 rfl (lv_at hl 3 rfl) ?_
    have hPO := wj_Pl hP
    have hDO := wj_Dl hD
    have hF := wj_Fl hD hS hA
    refine va_calli (vx_runSW (As := [.ref (a 0), .int x, .ref o]) (rest := []) hC (w_missesOf_a l hst H.size x hp) (vx_cwSW 3 hC.2.2.2.2 (gi_S mM_L_189 mT_L_missesOf mI_MissRegistryLaw mC_L_missesOf) rfl rfl rfl (by decide +kernel) ⟨Nat.le_of_ble_eq_true rfl, Nat.le_of_ble_eq_true rfl⟩) ⟨fun a1 U g mk q => ⟨q.1, q.2.1, q.2.2.1, va_K.moved (u := U) (U := U.calling g mk a1) (Vm.Alike.refl U.vm) q.2.2.2.1, va_K.moved (u := U) (U := U.calling g mk a1) (Vm.Alike.refl U.vm) q.2.2.2.2.1, ⟨q.2.2.2.2.2.1, tH.same (u := U) (U := U.calling g mk a1) rfl q.2.2.2.2.2.2.1, tN.moved (u := U) (U := U.calling g mk a1) (Vm.Alike.refl U.vm) q.2.2.2.2.2.2.2⟩⟩, fun U hU hW => ⟨rfl, by rw [hU], by rw [hU]; exact hPO, va_K.moved hW.alike hK, va_K.moved hW.alike hJ, hDO.weaken (fun _ _ _ _ => trivial), by rw [hU]; exact (hT.at hS).warm hW, hN.moved hW.alike⟩⟩ rfl rfl hl.1 rfl (lv_room (Nat.le_of_ble_eq_true rfl)) dL_law_1215 ⟨(show _ ≤ 601024 by omega), (show _ ≤ 7293034 by omega)⟩) hS (fun q _ h => hF q h) hF (fun r9 u9 t H locs ht hvm hw9 hB hz9 hk9 hS9 => ?_)
    obtain ⟨hP1, hD1⟩ := hB
    rw [ht] at hP1
    obtain ⟨hP, hD⟩ := wj_l hP hD hk9 hF hP1 hD1
    rw [show r9 = 1 from hw9]
    have hP : va_P D vwCl (oW o cJ g (xW z a lv lk pu fa he n nv du ta w mp mi k nt fu re) ++ mW z2 a2 th n w gn lk pu fa he nv of mp mi k nt fu re) H := hP
    have hD : va_D (nw s) (oW o cJ g (xW z a lv lk pu fa he n nv du ta w mp mi k nt fu re) ++ mW z2 a2 th n w gn lk pu fa he nv of mp mi k nt fu re) := hD
    have hS := hS9
    refine lv_istore (lv' := [(5, .int 1), (0, .ref b), (1, .ref (a 0)), (2, .ref (a2 0)), (3, .ref o), (4, .int (nI r))]) hx hb dL_law_1218 hl (by decide) rfl (fun ls hl => ?_)
    refine lv_aload_n hx hb dL_law_1220 rfl (lv_at hl 3 rfl) ?_
    refine lv_aload_n hx hb dL_law_1221 rfl (lv_at hl 1 rfl) ?_
    refine lv_iload hx hb dL_law_1222 (lv_at hl 5 rfl) ?_
    refine lv_iconst (v := 1) hx hb dL_law_1224 (by decide) ?_
    refine lv_iadd hx hb dL_law_1225 ?_
    refine w_sld hx hb hX hbl hbA hS hL (r + 1) (nI_1 r) (by omega) hx1 dL_law_1226 ?_
    have hPM := wj_Pr hP
    have hDM := wj_Dr hD
    have hF := wj_Fr hD hS hA
    refine va_calli (va_runV (As := [.int x]) (rest := []) hC (c_X1_missesOf_a l H.size x hn hp) (cwV 1 hC.2.2.2.2 (gi_V mM_L_191 mV_X1_missesOf mS_X1_missesOf mI_MissRegistryModel mC_X1_missesOf) rfl rfl rfl (by decide +kernel) ⟨Nat.le_of_ble_eq_true rfl, Nat.le_of_ble_eq_true rfl⟩) ⟨fun a1 U g mk q => ⟨q.1, q.2.1, ⟨q.2.2.1.1, va_K.moved (u := U) (U := U.calling g mk a1) (Vm.Alike.refl U.vm) q.2.2.1.2⟩, q.2.2.2⟩, va_recv hK2 hPM (ci := 1) (q0 := 0) rfl rfl, fun U hU hW => ⟨rfl, by rw [hU], ⟨by rw [hU]; exact hPM, va_K.moved hW.alike hK2⟩, hDM.weaken (fun _ _ _ _ => trivial)⟩⟩ rfl rfl hl.1 rfl (lv_room (Nat.le_of_ble_eq_true rfl)) dL_law_1227 ⟨(show _ ≤ 601024 by omega), (show _ ≤ 7293034 by omega)⟩) hS (fun q _ h => hF q h) hF (fun r7 u7 t H locs ht hvm hw7 hB hz9 hk9 hS9 => ?_)
    obtain ⟨hP1, hK1, hD1⟩ := hB
    rw [ht] at hP1
    obtain ⟨hP, hD⟩ := wj_r hP hD hk9 hF hP1 hD1
    have hP : va_P D vwCl (oW o cJ g (xW z a lv lk pu fa he n nv du ta w mp mi k nt fu re) ++ mW z2 a2 1 n w gn lk pu fa he nv of mp mi k nt fu re) H := hP
    have hD : va_D (nw s) (oW o cJ g (xW z a lv lk pu fa he n nv du ta w mp mi k nt fu re) ++ mW z2 a2 1 n w gn lk pu fa he nv of mp mi k nt fu re) := hD
    have hS := hS9
    rw [show r7 = 0 from hw7]
    refine lv_istore (lv' := [(6, .int 0), (5, .int 1), (0, .ref b), (1, .ref (a 0)), (2, .ref (a2 0)), (3, .ref o), (4, .int (nI r))]) hx hb dL_law_1230 hl (by decide) rfl (fun ls hl => ?_)
    refine lv_aload_n hx hb dL_law_1232 rfl (lv_at hl 4 rfl) ?_
    refine vp_callSi (W.runV (As := []) (rest := []) hC (c_X1_thrown l) (cwV 0 hC.2.2.2.2 (gi_V mM_L_106 mV_X1_thrown mS_X1_thrown mI_MissRegistryModel mC_X1_thrown) rfl rfl rfl (by decide +kernel) ⟨Nat.le_of_ble_eq_true rfl, Nat.le_of_ble_eq_true rfl⟩) (mpre hK2 (wj_Pr hP)) rfl rfl hl.1 rfl (lv_room (Nat.le_of_ble_eq_true rfl)) dL_law_1233 ⟨(show _ ≤ 601024 by omega), (show _ ≤ 7293034 by omega)⟩) (fun r8 hr8 => ?_)
    rw [show r8 = 1 from hr8]
    refine lv_iload hx hb dL_law_1236 (lv_at hl 1 rfl) ?_
    refine lv_icmp_eq (tgt := 1243) hx hb dL_law_1238 (by decide) (fun c_1238 => ?_) (fun c_1238 => ?_)
    · refine lv_iload hx hb dL_law_1243 (lv_at hl 1 rfl) ?_
      refine lv_if_ne (tgt := 1260) hx hb dL_law_1245 (by decide) (fun c_1245 => ?_) (fun c_1245 => ?_)
      · refine lv_goto (tgt := 1948) hx hb dL_law_1260 (by decide) ?_
        exact kk _ _ _ _ _ ⟨lv, lk, pu, fa, he, n, nv, du, ta, w, mp, mi, k, nt, fu, re, gn, of, 1, g, hI, hP, hD, hS⟩ (by omega) (by omega) (lv_sub hl [2, 3, 4, 5, 6] rfl)
      · exact absurd c_1245 (by decide)
    · exact absurd rfl c_1238
  · obtain ⟨i, hi, exi⟩ := isP_ex (by omega) hp
    subst exi
    refine lv_aload_n hx hb dL_law_1207 rfl (lv_at hl 1 rfl) ?_
    refine lv_aload_n hx hb dL_law_1208 rfl (lv_at hl 0 rfl) ?_
    refine lv_iload hx hb dL_law_1209 (lv_at hl 4 rfl) ?_
    refine lv_iconst (v := 1) hx hb dL_law_1211 (by decide) ?_
    refine lv_iadd hx hb dL_law_1212 ?_
    refine w_sld hx hb hX hbl hbA hS hL (r + 1) (nI_1 r) (by omega) hx1 dL_law_1213 ?_
    refine lv_aload_n hx hb dL_law_1214 rfl (lv_at hl 3 rfl) ?_
    have hPO := wj_Pl hP
    have hDO := wj_Dl hD
    have hF := wj_Fl hD hS hA
    refine va_calli (vx_runSW (As := [.ref (a 0), .int (nI i), .ref o]) (rest := []) hC (w_missesOf l H.size i hi hn hk) (vx_cwSW 3 hC.2.2.2.2 (gi_S mM_L_189 mT_L_missesOf mI_MissRegistryLaw mC_L_missesOf) rfl rfl rfl (by decide +kernel) ⟨Nat.le_of_ble_eq_true rfl, Nat.le_of_ble_eq_true rfl⟩) ⟨fun a1 U g mk q => ⟨q.1, q.2.1, q.2.2.1, va_K.moved (u := U) (U := U.calling g mk a1) (Vm.Alike.refl U.vm) q.2.2.2.1, va_K.moved (u := U) (U := U.calling g mk a1) (Vm.Alike.refl U.vm) q.2.2.2.2.1, q.2.2.2.2.2⟩, fun U hU hW => ⟨rfl, by rw [hU], by rw [hU]; exact hPO, va_K.moved hW.alike hK, va_K.moved hW.alike hJ, hDO.weaken (fun _ _ _ _ => trivial)⟩⟩ rfl rfl hl.1 rfl (lv_room (Nat.le_of_ble_eq_true rfl)) dL_law_1215 ⟨(show _ ≤ 601024 by omega), (show _ ≤ 7293034 by omega)⟩) hS (fun q _ h => hF q h) hF (fun r9 u9 t H locs ht hvm hw9 hB hz9 hk9 hS9 => ?_)
    obtain ⟨hP1, hD1⟩ := hB
    rw [ht] at hP1
    obtain ⟨hP, hD⟩ := wj_l hP hD hk9 hF hP1 hD1
    obtain ⟨hr9, hu9⟩ := hw9
    rw [hr9]
    have hP : va_P D vwCl (oW o cJ u9 (xW z a lv lk pu fa he n nv du ta w mp mi k nt fu re) ++ mW z2 a2 th n w gn lk pu fa he nv of mp mi k nt fu re) H := hP
    have hD : va_D (nw s) (oW o cJ u9 (xW z a lv lk pu fa he n nv du ta w mp mi k nt fu re) ++ mW z2 a2 th n w gn lk pu fa he nv of mp mi k nt fu re) := hD
    have hS := hS9
    refine lv_istore (lv' := [(5, .int 0), (0, .ref b), (1, .ref (a 0)), (2, .ref (a2 0)), (3, .ref o), (4, .int (nI r))]) hx hb dL_law_1218 hl (by decide) rfl (fun ls hl => ?_)
    refine lv_aload_n hx hb dL_law_1220 rfl (lv_at hl 3 rfl) ?_
    refine lv_aload_n hx hb dL_law_1221 rfl (lv_at hl 1 rfl) ?_
    refine lv_iload hx hb dL_law_1222 (lv_at hl 5 rfl) ?_
    refine lv_iconst (v := 1) hx hb dL_law_1224 (by decide) ?_
    refine lv_iadd hx hb dL_law_1225 ?_
    refine w_sld hx hb hX hbl hbA hS hL (r + 1) (nI_1 r) (by omega) hx1 dL_law_1226 ?_
    have hPM := wj_Pr hP
    have hDM := wj_Dr hD
    have hF := wj_Fr hD hS hA
    refine va_calli (va_runV (As := [.int (nI i)]) (rest := []) hC (c_X1_missesOf l H.size i hi hn hk) (cwV 1 hC.2.2.2.2 (gi_V mM_L_191 mV_X1_missesOf mS_X1_missesOf mI_MissRegistryModel mC_X1_missesOf) rfl rfl rfl (by decide +kernel) ⟨Nat.le_of_ble_eq_true rfl, Nat.le_of_ble_eq_true rfl⟩) ⟨fun a1 U g mk q => ⟨q.1, q.2.1, ⟨q.2.2.1.1, va_K.moved (u := U) (U := U.calling g mk a1) (Vm.Alike.refl U.vm) q.2.2.1.2⟩, q.2.2.2⟩, va_recv hK2 hPM (ci := 1) (q0 := 0) rfl rfl, fun U hU hW => ⟨rfl, by rw [hU], ⟨by rw [hU]; exact hPM, va_K.moved hW.alike hK2⟩, hDM.weaken (fun _ _ _ _ => trivial)⟩⟩ rfl rfl hl.1 rfl (lv_room (Nat.le_of_ble_eq_true rfl)) dL_law_1227 ⟨(show _ ≤ 601024 by omega), (show _ ≤ 7293034 by omega)⟩) hS (fun q _ h => hF q h) hF (fun r7 u7 t H locs ht hvm hw7 hB hz9 hk9 hS9 => ?_)
    obtain ⟨hP1, hK1, hD1⟩ := hB
    rw [ht] at hP1
    obtain ⟨hP, hD⟩ := wj_r hP hD hk9 hF hP1 hD1
    have hP : va_P D vwCl (oW o cJ u9 (xW z a lv lk pu fa he n nv du ta w mp mi k nt fu re) ++ mW z2 a2 0 n w gn lk pu fa he nv of mp mi k nt fu re) H := hP
    have hD : va_D (nw s) (oW o cJ u9 (xW z a lv lk pu fa he n nv du ta w mp mi k nt fu re) ++ mW z2 a2 0 n w gn lk pu fa he nv of mp mi k nt fu re) := hD
    have hS := hS9
    rw [show r7 = sp_many mp (nI i) k from hw7]
    refine lv_istore (lv' := [(6, .int (sp_many mp (nI i) k)), (5, .int 0), (0, .ref b), (1, .ref (a 0)), (2, .ref (a2 0)), (3, .ref o), (4, .int (nI r))]) hx hb dL_law_1230 hl (by decide) rfl (fun ls hl => ?_)
    refine lv_aload_n hx hb dL_law_1232 rfl (lv_at hl 4 rfl) ?_
    refine vp_callSi (W.runV (As := []) (rest := []) hC (c_X1_thrown l) (cwV 0 hC.2.2.2.2 (gi_V mM_L_106 mV_X1_thrown mS_X1_thrown mI_MissRegistryModel mC_X1_thrown) rfl rfl rfl (by decide +kernel) ⟨Nat.le_of_ble_eq_true rfl, Nat.le_of_ble_eq_true rfl⟩) (mpre hK2 (wj_Pr hP)) rfl rfl hl.1 rfl (lv_room (Nat.le_of_ble_eq_true rfl)) dL_law_1233 ⟨(show _ ≤ 601024 by omega), (show _ ≤ 7293034 by omega)⟩) (fun r8 hr8 => ?_)
    rw [show r8 = 0 from hr8]
    refine lv_iload hx hb dL_law_1236 (lv_at hl 1 rfl) ?_
    refine lv_icmp_eq (tgt := 1243) hx hb dL_law_1238 (by decide) (fun c_1238 => ?_) (fun c_1238 => ?_)
    · refine lv_iload hx hb dL_law_1243 (lv_at hl 1 rfl) ?_
      refine lv_if_ne (tgt := 1260) hx hb dL_law_1245 (by decide) (fun c_1245 => ?_) (fun c_1245 => ?_)
      · exact absurd rfl c_1245
      · refine lv_aload_n hx hb dL_law_1248 rfl (lv_at hl 5 rfl) ?_
        refine lv_iconst (v := 0) hx hb dL_law_1249 (by decide) ?_
        refine w_lald hC hJ (wj_Pl hP) dL_law_1250 ?_
        refine lv_iload hx hb dL_law_1251 (lv_at hl 0 rfl) ?_
        refine lv_i2l hx hb dL_law_1253 rfl ?_
        refine w_lcmp hx hb dL_law_1254 hu9 ?_
        refine lv_if_eq (tgt := 1260) hx hb dL_law_1255 (by decide) (fun c_1255 => ?_) (fun c_1255 => ?_)
        · refine lv_goto (tgt := 1948) hx hb dL_law_1260 (by decide) ?_
          exact kk _ _ _ _ _ ⟨lv, lk, pu, fa, he, n, nv, du, ta, w, mp, mi, k, nt, fu, re, gn, of, 0, u9, hI, hP, hD, hS⟩ (by omega) (by omega) (lv_sub hl [2, 3, 4, 5, 6] rfl)
        · exact absurd rfl c_1255
    · exact absurd rfl c_1238
set_option maxHeartbeats 8000000 in
set_option maxRecDepth 100000 in
theorem lc_25 {p : Program} {l : Launch} {e : Env} {s : State} {m : MethodId} {below : List Frame} {meth : Method} {c : Code} {H : Heap} {locs : List Loc} {cells slots : Nat} {Q : State → Prop} {ls : Array Slot} {b L : Nat} {xs : Nat → Int32} {D : va_G} {z z2 : ClassId × ClassId} {cJ : ClassId} {q9 t9 a a2 : Nat → Nat} {o : Nat} {lv lk pu fa he : Nat → Int32} {n : Nat} {nv du ta : Nat → Int32} {w : Nat} {mp mi : Nat → Int32} {k : Nat} {nt fu re : Int32} {gn of : Nat → Int32} {th : Int32} {g : Nat → Int64} {r : Nat} (X : LX p l s m c b L xs D z z2 cJ q9 t9) (hI : IV lv lk fa he n nv du w k gn of) (hP : va_P D vwCl (oW o cJ g (xW z a lv lk pu fa he n nv du ta w mp mi k nt fu re) ++ mW z2 a2 th n w gn lk pu fa he nv of mp mi k nt fu re) H) (hD : va_D (nw s) (oW o cJ g (xW z a lv lk pu fa he n nv du ta w mp mi k nt fu re) ++ mW z2 a2 th n w gn lk pu fa he nv of mp mi k nt fu re)) (hS : va_S (nw s) s.heap H locs) (hcl : cells + 12 ≤ 601024) (hsl : slots + 100 ≤ 7293034) (hr : r + 2 < L) (hl : lv_has ls 9 [(0, .ref b), (1, .ref (a 0)), (2, .ref (a2 0)), (3, .ref o), (4, .int (nI r))]) (kk : ∀ (H1 : Heap) (locs1 : List Loc) (c1 s1 : Nat) (ls1 : Array Slot), Jn D z z2 cJ a a2 o s H1 locs1 → c1 ≤ cells + 11 → s1 ≤ slots + 94 → lv_has ls1 9 [(0, .ref b), (1, .ref (a 0)), (2, .ref (a2 0)), (3, .ref o), (4, .int (nI r))] → W p l e room_1 s m #[.ref b] below meth c H1 locs1 c1 s1 Q (F0 m 1948 ls1 [])) : W p l e room_1 s m #[.ref b] below meth c H locs cells slots Q (F0 m 1263 ls []) := by
  obtain ⟨hC, hst, ⟨hX, hbl, hL⟩, ⟨hK, hK2, hJ⟩, hT, hN, hE⟩ := X
  have hx := hC.1
  have hb := hC.2.1
  have hA : ∀ q : Nat, s.heap.size ≤ q → nw s q := fun q h => h
  have hbA : ¬ nw s b := Nat.not_le.mpr hbl
  have hn := hI.1.1
  have hw := hI.1.2.1
  have hk := hI.1.2.2
  obtain ⟨x, hx1⟩ : ∃ x : Int32, xs (r + 1) = x := ⟨_, rfl⟩
  obtain ⟨y, hx2⟩ : ∃ y : Int32, xs (r + 2) = y := ⟨_, rfl⟩
  by_cases hp : sp_isP n x = 0
  · refine lv_aload_n hx hb dL_law_1263 rfl (lv_at hl 1 rfl) ?_
    refine lv_aload_n hx hb dL_law_1264 rfl (lv_at hl 0 rfl) ?_
    refine lv_iload hx hb dL_law_1265 (lv_at hl 4 rfl) ?_
    refine lv_iconst (v := 1) hx hb dL_law_1267 (by decide) ?_
    refine lv_iadd hx hb dL_law_1268 ?_
    refine w_sld hx hb hX hbl hbA hS hL (r + 1) (nI_1 r) (by omega) hx1 dL_law_1269 ?_
    refine lv_aload_n hx hb dL_law_1270 rfl (lv_at hl 3 rfl) ?_
    have hPO := wj_Pl hP
    have hDO := wj_Dl hD
    have hF := wj_Fl hD hS hA
    refine va_calli (vx_runSW (As := [.ref (a 0), .int x, .ref o]) (rest := []) hC (w_closestOf_a l hst H.size x hp) (vx_cwSW 3 hC.2.2.2.2 (gi_S mM_L_192 mT_L_closestOf mI_MissRegistryLaw mC_L_closestOf) rfl rfl rfl (by decide +kernel) ⟨Nat.le_of_ble_eq_true rfl, Nat.le_of_ble_eq_true rfl⟩) ⟨fun a1 U g mk q => ⟨q.1, q.2.1, q.2.2.1, va_K.moved (u := U) (U := U.calling g mk a1) (Vm.Alike.refl U.vm) q.2.2.2.1, va_K.moved (u := U) (U := U.calling g mk a1) (Vm.Alike.refl U.vm) q.2.2.2.2.1, ⟨q.2.2.2.2.2.1, tH.same (u := U) (U := U.calling g mk a1) rfl q.2.2.2.2.2.2.1, tN.moved (u := U) (U := U.calling g mk a1) (Vm.Alike.refl U.vm) q.2.2.2.2.2.2.2⟩⟩, fun U hU hW => ⟨rfl, by rw [hU], by rw [hU]; exact hPO, va_K.moved hW.alike hK, va_K.moved hW.alike hJ, hDO.weaken (fun _ _ _ _ => trivial), by rw [hU]; exact (hT.at hS).warm hW, hN.moved hW.alike⟩⟩ rfl rfl hl.1 rfl (lv_room (Nat.le_of_ble_eq_true rfl)) dL_law_1271 ⟨(show _ ≤ 601024 by omega), (show _ ≤ 7293034 by omega)⟩) hS (fun q _ h => hF q h) hF (fun r9 u9 t H locs ht hvm hw9 hB hz9 hk9 hS9 => ?_)
    obtain ⟨hP1, hD1⟩ := hB
    rw [ht] at hP1
    obtain ⟨hP, hD⟩ := wj_l hP hD hk9 hF hP1 hD1
    rw [show r9 = 1 from hw9]
    have hP : va_P D vwCl (oW o cJ g (xW z a lv lk pu fa he n nv du ta w mp mi k nt fu re) ++ mW z2 a2 th n w gn lk pu fa he nv of mp mi k nt fu re) H := hP
    have hD : va_D (nw s) (oW o cJ g (xW z a lv lk pu fa he n nv du ta w mp mi k nt fu re) ++ mW z2 a2 th n w gn lk pu fa he nv of mp mi k nt fu re) := hD
    have hS := hS9
    refine lv_istore (lv' := [(5, .int 1), (0, .ref b), (1, .ref (a 0)), (2, .ref (a2 0)), (3, .ref o), (4, .int (nI r))]) hx hb dL_law_1274 hl (by decide) rfl (fun ls hl => ?_)
    refine lv_aload_n hx hb dL_law_1276 rfl (lv_at hl 3 rfl) ?_
    refine lv_aload_n hx hb dL_law_1277 rfl (lv_at hl 1 rfl) ?_
    refine lv_iload hx hb dL_law_1278 (lv_at hl 5 rfl) ?_
    refine lv_iconst (v := 1) hx hb dL_law_1280 (by decide) ?_
    refine lv_iadd hx hb dL_law_1281 ?_
    refine w_sld hx hb hX hbl hbA hS hL (r + 1) (nI_1 r) (by omega) hx1 dL_law_1282 ?_
    have hPM := wj_Pr hP
    have hDM := wj_Dr hD
    have hF := wj_Fr hD hS hA
    refine va_calli (va_runV (As := [.int x]) (rest := []) hC (c_X1_closestOf_a l H.size x hn hp) (cwV 1 hC.2.2.2.2 (gi_V mM_L_194 mV_X1_closestOf mS_X1_closestOf mI_MissRegistryModel mC_X1_closestOf) rfl rfl rfl (by decide +kernel) ⟨Nat.le_of_ble_eq_true rfl, Nat.le_of_ble_eq_true rfl⟩) ⟨fun a1 U g mk q => ⟨q.1, q.2.1, ⟨q.2.2.1.1, va_K.moved (u := U) (U := U.calling g mk a1) (Vm.Alike.refl U.vm) q.2.2.1.2⟩, q.2.2.2⟩, va_recv hK2 hPM (ci := 1) (q0 := 0) rfl rfl, fun U hU hW => ⟨rfl, by rw [hU], ⟨by rw [hU]; exact hPM, va_K.moved hW.alike hK2⟩, hDM.weaken (fun _ _ _ _ => trivial)⟩⟩ rfl rfl hl.1 rfl (lv_room (Nat.le_of_ble_eq_true rfl)) dL_law_1283 ⟨(show _ ≤ 601024 by omega), (show _ ≤ 7293034 by omega)⟩) hS (fun q _ h => hF q h) hF (fun r7 u7 t H locs ht hvm hw7 hB hz9 hk9 hS9 => ?_)
    obtain ⟨hP1, hK1, hD1⟩ := hB
    rw [ht] at hP1
    obtain ⟨hP, hD⟩ := wj_r hP hD hk9 hF hP1 hD1
    have hP : va_P D vwCl (oW o cJ g (xW z a lv lk pu fa he n nv du ta w mp mi k nt fu re) ++ mW z2 a2 1 n w gn lk pu fa he nv of mp mi k nt fu re) H := hP
    have hD : va_D (nw s) (oW o cJ g (xW z a lv lk pu fa he n nv du ta w mp mi k nt fu re) ++ mW z2 a2 1 n w gn lk pu fa he nv of mp mi k nt fu re) := hD
    have hS := hS9
    rw [show r7 = 0 from hw7]
    refine lv_istore (lv' := [(6, .int 0), (5, .int 1), (0, .ref b), (1, .ref (a 0)), (2, .ref (a2 0)), (3, .ref o), (4, .int (nI r))]) hx hb dL_law_1286 hl (by decide) rfl (fun ls hl => ?_)
    refine lv_aload_n hx hb dL_law_1288 rfl (lv_at hl 4 rfl) ?_
    refine vp_callSi (W.runV (As := []) (rest := []) hC (c_X1_thrown l) (cwV 0 hC.2.2.2.2 (gi_V mM_L_106 mV_X1_thrown mS_X1_thrown mI_MissRegistryModel mC_X1_thrown) rfl rfl rfl (by decide +kernel) ⟨Nat.le_of_ble_eq_true rfl, Nat.le_of_ble_eq_true rfl⟩) (mpre hK2 (wj_Pr hP)) rfl rfl hl.1 rfl (lv_room (Nat.le_of_ble_eq_true rfl)) dL_law_1289 ⟨(show _ ≤ 601024 by omega), (show _ ≤ 7293034 by omega)⟩) (fun r8 hr8 => ?_)
    rw [show r8 = 1 from hr8]
    refine lv_iload hx hb dL_law_1292 (lv_at hl 1 rfl) ?_
    refine lv_icmp_eq (tgt := 1299) hx hb dL_law_1294 (by decide) (fun c_1294 => ?_) (fun c_1294 => ?_)
    · refine lv_iload hx hb dL_law_1299 (lv_at hl 1 rfl) ?_
      refine lv_if_ne (tgt := 1316) hx hb dL_law_1301 (by decide) (fun c_1301 => ?_) (fun c_1301 => ?_)
      · refine lv_goto (tgt := 1948) hx hb dL_law_1316 (by decide) ?_
        exact kk _ _ _ _ _ ⟨lv, lk, pu, fa, he, n, nv, du, ta, w, mp, mi, k, nt, fu, re, gn, of, 1, g, hI, hP, hD, hS⟩ (by omega) (by omega) (lv_sub hl [2, 3, 4, 5, 6] rfl)
      · exact absurd c_1301 (by decide)
    · exact absurd rfl c_1294
  · obtain ⟨i, hi, exi⟩ := isP_ex (by omega) hp
    subst exi
    refine lv_aload_n hx hb dL_law_1263 rfl (lv_at hl 1 rfl) ?_
    refine lv_aload_n hx hb dL_law_1264 rfl (lv_at hl 0 rfl) ?_
    refine lv_iload hx hb dL_law_1265 (lv_at hl 4 rfl) ?_
    refine lv_iconst (v := 1) hx hb dL_law_1267 (by decide) ?_
    refine lv_iadd hx hb dL_law_1268 ?_
    refine w_sld hx hb hX hbl hbA hS hL (r + 1) (nI_1 r) (by omega) hx1 dL_law_1269 ?_
    refine lv_aload_n hx hb dL_law_1270 rfl (lv_at hl 3 rfl) ?_
    have hPO := wj_Pl hP
    have hDO := wj_Dl hD
    have hF := wj_Fl hD hS hA
    refine va_calli (vx_runSW (As := [.ref (a 0), .int (nI i), .ref o]) (rest := []) hC (w_closestOf l H.size i hi hn hk) (vx_cwSW 3 hC.2.2.2.2 (gi_S mM_L_192 mT_L_closestOf mI_MissRegistryLaw mC_L_closestOf) rfl rfl rfl (by decide +kernel) ⟨Nat.le_of_ble_eq_true rfl, Nat.le_of_ble_eq_true rfl⟩) ⟨fun a1 U g mk q => ⟨q.1, q.2.1, q.2.2.1, va_K.moved (u := U) (U := U.calling g mk a1) (Vm.Alike.refl U.vm) q.2.2.2.1, va_K.moved (u := U) (U := U.calling g mk a1) (Vm.Alike.refl U.vm) q.2.2.2.2.1, q.2.2.2.2.2⟩, fun U hU hW => ⟨rfl, by rw [hU], by rw [hU]; exact hPO, va_K.moved hW.alike hK, va_K.moved hW.alike hJ, hDO.weaken (fun _ _ _ _ => trivial)⟩⟩ rfl rfl hl.1 rfl (lv_room (Nat.le_of_ble_eq_true rfl)) dL_law_1271 ⟨(show _ ≤ 601024 by omega), (show _ ≤ 7293034 by omega)⟩) hS (fun q _ h => hF q h) hF (fun r9 u9 t H locs ht hvm hw9 hB hz9 hk9 hS9 => ?_)
    obtain ⟨hP1, hD1⟩ := hB
    rw [ht] at hP1
    obtain ⟨hP, hD⟩ := wj_l hP hD hk9 hF hP1 hD1
    obtain ⟨hr9, hu9⟩ := hw9
    rw [hr9]
    have hP : va_P D vwCl (oW o cJ u9 (xW z a lv lk pu fa he n nv du ta w mp mi k nt fu re) ++ mW z2 a2 th n w gn lk pu fa he nv of mp mi k nt fu re) H := hP
    have hD : va_D (nw s) (oW o cJ u9 (xW z a lv lk pu fa he n nv du ta w mp mi k nt fu re) ++ mW z2 a2 th n w gn lk pu fa he nv of mp mi k nt fu re) := hD
    have hS := hS9
    refine lv_istore (lv' := [(5, .int 0), (0, .ref b), (1, .ref (a 0)), (2, .ref (a2 0)), (3, .ref o), (4, .int (nI r))]) hx hb dL_law_1274 hl (by decide) rfl (fun ls hl => ?_)
    refine lv_aload_n hx hb dL_law_1276 rfl (lv_at hl 3 rfl) ?_
    refine lv_aload_n hx hb dL_law_1277 rfl (lv_at hl 1 rfl) ?_
    refine lv_iload hx hb dL_law_1278 (lv_at hl 5 rfl) ?_
    refine lv_iconst (v := 1) hx hb dL_law_1280 (by decide) ?_
    refine lv_iadd hx hb dL_law_1281 ?_
    refine w_sld hx hb hX hbl hbA hS hL (r + 1) (nI_1 r) (by omega) hx1 dL_law_1282 ?_
    have hPM := wj_Pr hP
    have hDM := wj_Dr hD
    have hF := wj_Fr hD hS hA
    refine va_calli (va_runV (As := [.int (nI i)]) (rest := []) hC (c_X1_closestOf l H.size i hi hn hk) (cwV 1 hC.2.2.2.2 (gi_V mM_L_194 mV_X1_closestOf mS_X1_closestOf mI_MissRegistryModel mC_X1_closestOf) rfl rfl rfl (by decide +kernel) ⟨Nat.le_of_ble_eq_true rfl, Nat.le_of_ble_eq_true rfl⟩) ⟨fun a1 U g mk q => ⟨q.1, q.2.1, ⟨q.2.2.1.1, va_K.moved (u := U) (U := U.calling g mk a1) (Vm.Alike.refl U.vm) q.2.2.1.2⟩, q.2.2.2⟩, va_recv hK2 hPM (ci := 1) (q0 := 0) rfl rfl, fun U hU hW => ⟨rfl, by rw [hU], ⟨by rw [hU]; exact hPM, va_K.moved hW.alike hK2⟩, hDM.weaken (fun _ _ _ _ => trivial)⟩⟩ rfl rfl hl.1 rfl (lv_room (Nat.le_of_ble_eq_true rfl)) dL_law_1283 ⟨(show _ ≤ 601024 by omega), (show _ ≤ 7293034 by omega)⟩) hS (fun q _ h => hF q h) hF (fun r7 u7 t H locs ht hvm hw7 hB hz9 hk9 hS9 => ?_)
    obtain ⟨hP1, hK1, hD1⟩ := hB
    rw [ht] at hP1
    obtain ⟨hP, hD⟩ := wj_r hP hD hk9 hF hP1 hD1
    have hP : va_P D vwCl (oW o cJ u9 (xW z a lv lk pu fa he n nv du ta w mp mi k nt fu re) ++ mW z2 a2 0 n w gn lk pu fa he nv of mp mi k nt fu re) H := hP
    have hD : va_D (nw s) (oW o cJ u9 (xW z a lv lk pu fa he n nv du ta w mp mi k nt fu re) ++ mW z2 a2 0 n w gn lk pu fa he nv of mp mi k nt fu re) := hD
    have hS := hS9
    rw [show r7 = sp_close mp mi (nI i) k from hw7]
    refine lv_istore (lv' := [(6, .int (sp_close mp mi (nI i) k)), (5, .int 0), (0, .ref b), (1, .ref (a 0)), (2, .ref (a2 0)), (3, .ref o), (4, .int (nI r))]) hx hb dL_law_1286 hl (by decide) rfl (fun ls hl => ?_)
    refine lv_aload_n hx hb dL_law_1288 rfl (lv_at hl 4 rfl) ?_
    refine vp_callSi (W.runV (As := []) (rest := []) hC (c_X1_thrown l) (cwV 0 hC.2.2.2.2 (gi_V mM_L_106 mV_X1_thrown mS_X1_thrown mI_MissRegistryModel mC_X1_thrown) rfl rfl rfl (by decide +kernel) ⟨Nat.le_of_ble_eq_true rfl, Nat.le_of_ble_eq_true rfl⟩) (mpre hK2 (wj_Pr hP)) rfl rfl hl.1 rfl (lv_room (Nat.le_of_ble_eq_true rfl)) dL_law_1289 ⟨(show _ ≤ 601024 by omega), (show _ ≤ 7293034 by omega)⟩) (fun r8 hr8 => ?_)
    rw [show r8 = 0 from hr8]
    refine lv_iload hx hb dL_law_1292 (lv_at hl 1 rfl) ?_
    refine lv_icmp_eq (tgt := 1299) hx hb dL_law_1294 (by decide) (fun c_1294 => ?_) (fun c_1294 => ?_)
    · refine lv_iload hx hb dL_law_1299 (lv_at hl 1 rfl) ?_
      refine lv_if_ne (tgt := 1316) hx hb dL_law_1301 (by decide) (fun c_1301 => ?_) (fun c_1301 => ?_)
      · exact absurd rfl c_1301
      · refine lv_aload_n hx hb dL_law_1304 rfl (lv_at hl 5 rfl) ?_
        refine lv_iconst (v := 0) hx hb dL_law_1305 (by decide) ?_
        refine w_lald hC hJ (wj_Pl hP) dL_law_1306 ?_
        refine lv_iload hx hb dL_law_1307 (lv_at hl 0 rfl) ?_
        refine lv_i2l hx hb dL_law_1309 rfl ?_
        refine w_lcmp hx hb dL_law_1310 hu9 ?_
        refine lv_if_eq (tgt := 1316) hx hb dL_law_1311 (by decide) (fun c_1311 => ?_) (fun c_1311 => ?_)
        · refine lv_goto (tgt := 1948) hx hb dL_law_1316 (by decide) ?_
          exact kk _ _ _ _ _ ⟨lv, lk, pu, fa, he, n, nv, du, ta, w, mp, mi, k, nt, fu, re, gn, of, 0, u9, hI, hP, hD, hS⟩ (by omega) (by omega) (lv_sub hl [2, 3, 4, 5, 6] rfl)
        · exact absurd rfl c_1311
    · exact absurd rfl c_1294
set_option maxHeartbeats 8000000 in
set_option maxRecDepth 100000 in
theorem lc_26 {p : Program} {l : Launch} {e : Env} {s : State} {m : MethodId} {below : List Frame} {meth : Method} {c : Code} {H : Heap} {locs : List Loc} {cells slots : Nat} {Q : State → Prop} {ls : Array Slot} {b L : Nat} {xs : Nat → Int32} {D : va_G} {z z2 : ClassId × ClassId} {cJ : ClassId} {q9 t9 a a2 : Nat → Nat} {o : Nat} {lv lk pu fa he : Nat → Int32} {n : Nat} {nv du ta : Nat → Int32} {w : Nat} {mp mi : Nat → Int32} {k : Nat} {nt fu re : Int32} {gn of : Nat → Int32} {th : Int32} {g : Nat → Int64} {r : Nat} (X : LX p l s m c b L xs D z z2 cJ q9 t9) (hI : IV lv lk fa he n nv du w k gn of) (hP : va_P D vwCl (oW o cJ g (xW z a lv lk pu fa he n nv du ta w mp mi k nt fu re) ++ mW z2 a2 th n w gn lk pu fa he nv of mp mi k nt fu re) H) (hD : va_D (nw s) (oW o cJ g (xW z a lv lk pu fa he n nv du ta w mp mi k nt fu re) ++ mW z2 a2 th n w gn lk pu fa he nv of mp mi k nt fu re)) (hS : va_S (nw s) s.heap H locs) (hcl : cells + 12 ≤ 601024) (hsl : slots + 100 ≤ 7293034) (hr : r + 2 < L) (hl : lv_has ls 9 [(0, .ref b), (1, .ref (a 0)), (2, .ref (a2 0)), (3, .ref o), (4, .int (nI r))]) (kk : ∀ (H1 : Heap) (locs1 : List Loc) (c1 s1 : Nat) (ls1 : Array Slot), Jn D z z2 cJ a a2 o s H1 locs1 → c1 ≤ cells + 11 → s1 ≤ slots + 94 → lv_has ls1 9 [(0, .ref b), (1, .ref (a 0)), (2, .ref (a2 0)), (3, .ref o), (4, .int (nI r))] → W p l e room_1 s m #[.ref b] below meth c H1 locs1 c1 s1 Q (F0 m 1948 ls1 [])) : W p l e room_1 s m #[.ref b] below meth c H locs cells slots Q (F0 m 1319 ls []) := by
  obtain ⟨hC, hst, ⟨hX, hbl, hL⟩, ⟨hK, hK2, hJ⟩, hT, hN, hE⟩ := X
  have hx := hC.1
  have hb := hC.2.1
  have hA : ∀ q : Nat, s.heap.size ≤ q → nw s q := fun q h => h
  have hbA : ¬ nw s b := Nat.not_le.mpr hbl
  have hn := hI.1.1
  have hw := hI.1.2.1
  have hk := hI.1.2.2
  obtain ⟨x, hx1⟩ : ∃ x : Int32, xs (r + 1) = x := ⟨_, rfl⟩
  obtain ⟨y, hx2⟩ : ∃ y : Int32, xs (r + 2) = y := ⟨_, rfl⟩
  by_cases hp : sp_isP w x = 0
  · refine lv_aload_n hx hb dL_law_1319 rfl (lv_at hl 1 rfl) ?_
    refine lv_aload_n hx hb dL_law_1320 rfl (lv_at hl 0 rfl) ?_
    refine lv_iload hx hb dL_law_1321 (lv_at hl 4 rfl) ?_
    refine lv_iconst (v := 1) hx hb dL_law_1323 (by decide) ?_
    refine lv_iadd hx hb dL_law_1324 ?_
    refine w_sld hx hb hX hbl hbA hS hL (r + 1) (nI_1 r) (by omega) hx1 dL_law_1325 ?_
    refine lv_aload_n hx hb dL_law_1326 rfl (lv_at hl 3 rfl) ?_
    have hPO := wj_Pl hP
    have hDO := wj_Dl hD
    have hF := wj_Fl hD hS hA
    refine va_calli (vx_runSW (As := [.ref (a 0), .int x, .ref o]) (rest := []) hC (w_nerveOf_a l hst H.size x hp) (vx_cwSW 3 hC.2.2.2.2 (gi_S mM_L_195 mT_L_nerveOf mI_MissRegistryLaw mC_L_nerveOf) rfl rfl rfl (by decide +kernel) ⟨Nat.le_of_ble_eq_true rfl, Nat.le_of_ble_eq_true rfl⟩) ⟨fun a1 U g mk q => ⟨q.1, q.2.1, q.2.2.1, va_K.moved (u := U) (U := U.calling g mk a1) (Vm.Alike.refl U.vm) q.2.2.2.1, va_K.moved (u := U) (U := U.calling g mk a1) (Vm.Alike.refl U.vm) q.2.2.2.2.1, ⟨q.2.2.2.2.2.1, tH.same (u := U) (U := U.calling g mk a1) rfl q.2.2.2.2.2.2.1, tN.moved (u := U) (U := U.calling g mk a1) (Vm.Alike.refl U.vm) q.2.2.2.2.2.2.2⟩⟩, fun U hU hW => ⟨rfl, by rw [hU], by rw [hU]; exact hPO, va_K.moved hW.alike hK, va_K.moved hW.alike hJ, hDO.weaken (fun _ _ _ _ => trivial), by rw [hU]; exact (hT.at hS).warm hW, hN.moved hW.alike⟩⟩ rfl rfl hl.1 rfl (lv_room (Nat.le_of_ble_eq_true rfl)) dL_law_1327 ⟨(show _ ≤ 601024 by omega), (show _ ≤ 7293034 by omega)⟩) hS (fun q _ h => hF q h) hF (fun r9 u9 t H locs ht hvm hw9 hB hz9 hk9 hS9 => ?_)
    obtain ⟨hP1, hD1⟩ := hB
    rw [ht] at hP1
    obtain ⟨hP, hD⟩ := wj_l hP hD hk9 hF hP1 hD1
    rw [show r9 = 1 from hw9]
    have hP : va_P D vwCl (oW o cJ g (xW z a lv lk pu fa he n nv du ta w mp mi k nt fu re) ++ mW z2 a2 th n w gn lk pu fa he nv of mp mi k nt fu re) H := hP
    have hD : va_D (nw s) (oW o cJ g (xW z a lv lk pu fa he n nv du ta w mp mi k nt fu re) ++ mW z2 a2 th n w gn lk pu fa he nv of mp mi k nt fu re) := hD
    have hS := hS9
    refine lv_istore (lv' := [(5, .int 1), (0, .ref b), (1, .ref (a 0)), (2, .ref (a2 0)), (3, .ref o), (4, .int (nI r))]) hx hb dL_law_1330 hl (by decide) rfl (fun ls hl => ?_)
    refine lv_aload_n hx hb dL_law_1332 rfl (lv_at hl 3 rfl) ?_
    refine lv_aload_n hx hb dL_law_1333 rfl (lv_at hl 1 rfl) ?_
    refine lv_iload hx hb dL_law_1334 (lv_at hl 5 rfl) ?_
    refine lv_iconst (v := 1) hx hb dL_law_1336 (by decide) ?_
    refine lv_iadd hx hb dL_law_1337 ?_
    refine w_sld hx hb hX hbl hbA hS hL (r + 1) (nI_1 r) (by omega) hx1 dL_law_1338 ?_
    have hPM := wj_Pr hP
    have hDM := wj_Dr hD
    have hF := wj_Fr hD hS hA
    refine va_calli (va_runV (As := [.int x]) (rest := []) hC (c_X1_nerveOf_a l H.size x hw hp) (cwV 1 hC.2.2.2.2 (gi_V mM_L_197 mV_X1_nerveOf mS_X1_nerveOf mI_MissRegistryModel mC_X1_nerveOf) rfl rfl rfl (by decide +kernel) ⟨Nat.le_of_ble_eq_true rfl, Nat.le_of_ble_eq_true rfl⟩) ⟨fun a1 U g mk q => ⟨q.1, q.2.1, ⟨q.2.2.1.1, va_K.moved (u := U) (U := U.calling g mk a1) (Vm.Alike.refl U.vm) q.2.2.1.2⟩, q.2.2.2⟩, va_recv hK2 hPM (ci := 1) (q0 := 0) rfl rfl, fun U hU hW => ⟨rfl, by rw [hU], ⟨by rw [hU]; exact hPM, va_K.moved hW.alike hK2⟩, hDM.weaken (fun _ _ _ _ => trivial)⟩⟩ rfl rfl hl.1 rfl (lv_room (Nat.le_of_ble_eq_true rfl)) dL_law_1339 ⟨(show _ ≤ 601024 by omega), (show _ ≤ 7293034 by omega)⟩) hS (fun q _ h => hF q h) hF (fun r7 u7 t H locs ht hvm hw7 hB hz9 hk9 hS9 => ?_)
    obtain ⟨hP1, hK1, hD1⟩ := hB
    rw [ht] at hP1
    obtain ⟨hP, hD⟩ := wj_r hP hD hk9 hF hP1 hD1
    have hP : va_P D vwCl (oW o cJ g (xW z a lv lk pu fa he n nv du ta w mp mi k nt fu re) ++ mW z2 a2 1 n w gn lk pu fa he nv of mp mi k nt fu re) H := hP
    have hD : va_D (nw s) (oW o cJ g (xW z a lv lk pu fa he n nv du ta w mp mi k nt fu re) ++ mW z2 a2 1 n w gn lk pu fa he nv of mp mi k nt fu re) := hD
    have hS := hS9
    rw [show r7 = 0 from hw7]
    refine lv_istore (lv' := [(6, .int 0), (5, .int 1), (0, .ref b), (1, .ref (a 0)), (2, .ref (a2 0)), (3, .ref o), (4, .int (nI r))]) hx hb dL_law_1342 hl (by decide) rfl (fun ls hl => ?_)
    refine lv_aload_n hx hb dL_law_1344 rfl (lv_at hl 4 rfl) ?_
    refine vp_callSi (W.runV (As := []) (rest := []) hC (c_X1_thrown l) (cwV 0 hC.2.2.2.2 (gi_V mM_L_106 mV_X1_thrown mS_X1_thrown mI_MissRegistryModel mC_X1_thrown) rfl rfl rfl (by decide +kernel) ⟨Nat.le_of_ble_eq_true rfl, Nat.le_of_ble_eq_true rfl⟩) (mpre hK2 (wj_Pr hP)) rfl rfl hl.1 rfl (lv_room (Nat.le_of_ble_eq_true rfl)) dL_law_1345 ⟨(show _ ≤ 601024 by omega), (show _ ≤ 7293034 by omega)⟩) (fun r8 hr8 => ?_)
    rw [show r8 = 1 from hr8]
    refine lv_iload hx hb dL_law_1348 (lv_at hl 1 rfl) ?_
    refine lv_icmp_eq (tgt := 1355) hx hb dL_law_1350 (by decide) (fun c_1350 => ?_) (fun c_1350 => ?_)
    · refine lv_iload hx hb dL_law_1355 (lv_at hl 1 rfl) ?_
      refine lv_if_ne (tgt := 1372) hx hb dL_law_1357 (by decide) (fun c_1357 => ?_) (fun c_1357 => ?_)
      · refine lv_goto (tgt := 1948) hx hb dL_law_1372 (by decide) ?_
        exact kk _ _ _ _ _ ⟨lv, lk, pu, fa, he, n, nv, du, ta, w, mp, mi, k, nt, fu, re, gn, of, 1, g, hI, hP, hD, hS⟩ (by omega) (by omega) (lv_sub hl [2, 3, 4, 5, 6] rfl)
      · exact absurd c_1357 (by decide)
    · exact absurd rfl c_1350
  · obtain ⟨i, hi, exi⟩ := isP_ex (by omega) hp
    subst exi
    refine lv_aload_n hx hb dL_law_1319 rfl (lv_at hl 1 rfl) ?_
    refine lv_aload_n hx hb dL_law_1320 rfl (lv_at hl 0 rfl) ?_
    refine lv_iload hx hb dL_law_1321 (lv_at hl 4 rfl) ?_
    refine lv_iconst (v := 1) hx hb dL_law_1323 (by decide) ?_
    refine lv_iadd hx hb dL_law_1324 ?_
    refine w_sld hx hb hX hbl hbA hS hL (r + 1) (nI_1 r) (by omega) hx1 dL_law_1325 ?_
    refine lv_aload_n hx hb dL_law_1326 rfl (lv_at hl 3 rfl) ?_
    have hPO := wj_Pl hP
    have hDO := wj_Dl hD
    have hF := wj_Fl hD hS hA
    refine va_calli (vx_runSW (As := [.ref (a 0), .int (nI i), .ref o]) (rest := []) hC (w_nerveOf l H.size i hi hw) (vx_cwSW 3 hC.2.2.2.2 (gi_S mM_L_195 mT_L_nerveOf mI_MissRegistryLaw mC_L_nerveOf) rfl rfl rfl (by decide +kernel) ⟨Nat.le_of_ble_eq_true rfl, Nat.le_of_ble_eq_true rfl⟩) ⟨fun a1 U g mk q => ⟨q.1, q.2.1, q.2.2.1, va_K.moved (u := U) (U := U.calling g mk a1) (Vm.Alike.refl U.vm) q.2.2.2.1, va_K.moved (u := U) (U := U.calling g mk a1) (Vm.Alike.refl U.vm) q.2.2.2.2.1, q.2.2.2.2.2⟩, fun U hU hW => ⟨rfl, by rw [hU], by rw [hU]; exact hPO, va_K.moved hW.alike hK, va_K.moved hW.alike hJ, hDO.weaken (fun _ _ _ _ => trivial)⟩⟩ rfl rfl hl.1 rfl (lv_room (Nat.le_of_ble_eq_true rfl)) dL_law_1327 ⟨(show _ ≤ 601024 by omega), (show _ ≤ 7293034 by omega)⟩) hS (fun q _ h => hF q h) hF (fun r9 u9 t H locs ht hvm hw9 hB hz9 hk9 hS9 => ?_)
    obtain ⟨hP1, hD1⟩ := hB
    rw [ht] at hP1
    obtain ⟨hP, hD⟩ := wj_l hP hD hk9 hF hP1 hD1
    obtain ⟨hr9, hu9⟩ := hw9
    rw [hr9]
    have hP : va_P D vwCl (oW o cJ u9 (xW z a lv lk pu fa he n nv du ta w mp mi k nt fu re) ++ mW z2 a2 th n w gn lk pu fa he nv of mp mi k nt fu re) H := hP
    have hD : va_D (nw s) (oW o cJ u9 (xW z a lv lk pu fa he n nv du ta w mp mi k nt fu re) ++ mW z2 a2 th n w gn lk pu fa he nv of mp mi k nt fu re) := hD
    have hS := hS9
    refine lv_istore (lv' := [(5, .int 0), (0, .ref b), (1, .ref (a 0)), (2, .ref (a2 0)), (3, .ref o), (4, .int (nI r))]) hx hb dL_law_1330 hl (by decide) rfl (fun ls hl => ?_)
    refine lv_aload_n hx hb dL_law_1332 rfl (lv_at hl 3 rfl) ?_
    refine lv_aload_n hx hb dL_law_1333 rfl (lv_at hl 1 rfl) ?_
    refine lv_iload hx hb dL_law_1334 (lv_at hl 5 rfl) ?_
    refine lv_iconst (v := 1) hx hb dL_law_1336 (by decide) ?_
    refine lv_iadd hx hb dL_law_1337 ?_
    refine w_sld hx hb hX hbl hbA hS hL (r + 1) (nI_1 r) (by omega) hx1 dL_law_1338 ?_
    have hPM := wj_Pr hP
    have hDM := wj_Dr hD
    have hF := wj_Fr hD hS hA
    refine va_calli (va_runV (As := [.int (nI i)]) (rest := []) hC (c_X1_nerveOf l H.size i hi hw) (cwV 1 hC.2.2.2.2 (gi_V mM_L_197 mV_X1_nerveOf mS_X1_nerveOf mI_MissRegistryModel mC_X1_nerveOf) rfl rfl rfl (by decide +kernel) ⟨Nat.le_of_ble_eq_true rfl, Nat.le_of_ble_eq_true rfl⟩) ⟨fun a1 U g mk q => ⟨q.1, q.2.1, ⟨q.2.2.1.1, va_K.moved (u := U) (U := U.calling g mk a1) (Vm.Alike.refl U.vm) q.2.2.1.2⟩, q.2.2.2⟩, va_recv hK2 hPM (ci := 1) (q0 := 0) rfl rfl, fun U hU hW => ⟨rfl, by rw [hU], ⟨by rw [hU]; exact hPM, va_K.moved hW.alike hK2⟩, hDM.weaken (fun _ _ _ _ => trivial)⟩⟩ rfl rfl hl.1 rfl (lv_room (Nat.le_of_ble_eq_true rfl)) dL_law_1339 ⟨(show _ ≤ 601024 by omega), (show _ ≤ 7293034 by omega)⟩) hS (fun q _ h => hF q h) hF (fun r7 u7 t H locs ht hvm hw7 hB hz9 hk9 hS9 => ?_)
    obtain ⟨hP1, hK1, hD1⟩ := hB
    rw [ht] at hP1
    obtain ⟨hP, hD⟩ := wj_r hP hD hk9 hF hP1 hD1
    have hP : va_P D vwCl (oW o cJ u9 (xW z a lv lk pu fa he n nv du ta w mp mi k nt fu re) ++ mW z2 a2 0 n w gn lk pu fa he nv of mp mi k nt fu re) H := hP
    have hD : va_D (nw s) (oW o cJ u9 (xW z a lv lk pu fa he n nv du ta w mp mi k nt fu re) ++ mW z2 a2 0 n w gn lk pu fa he nv of mp mi k nt fu re) := hD
    have hS := hS9
    rw [show r7 = nv i from hw7]
    refine lv_istore (lv' := [(6, .int (nv i)), (5, .int 0), (0, .ref b), (1, .ref (a 0)), (2, .ref (a2 0)), (3, .ref o), (4, .int (nI r))]) hx hb dL_law_1342 hl (by decide) rfl (fun ls hl => ?_)
    refine lv_aload_n hx hb dL_law_1344 rfl (lv_at hl 4 rfl) ?_
    refine vp_callSi (W.runV (As := []) (rest := []) hC (c_X1_thrown l) (cwV 0 hC.2.2.2.2 (gi_V mM_L_106 mV_X1_thrown mS_X1_thrown mI_MissRegistryModel mC_X1_thrown) rfl rfl rfl (by decide +kernel) ⟨Nat.le_of_ble_eq_true rfl, Nat.le_of_ble_eq_true rfl⟩) (mpre hK2 (wj_Pr hP)) rfl rfl hl.1 rfl (lv_room (Nat.le_of_ble_eq_true rfl)) dL_law_1345 ⟨(show _ ≤ 601024 by omega), (show _ ≤ 7293034 by omega)⟩) (fun r8 hr8 => ?_)
    rw [show r8 = 0 from hr8]
    refine lv_iload hx hb dL_law_1348 (lv_at hl 1 rfl) ?_
    refine lv_icmp_eq (tgt := 1355) hx hb dL_law_1350 (by decide) (fun c_1350 => ?_) (fun c_1350 => ?_)
    · refine lv_iload hx hb dL_law_1355 (lv_at hl 1 rfl) ?_
      refine lv_if_ne (tgt := 1372) hx hb dL_law_1357 (by decide) (fun c_1357 => ?_) (fun c_1357 => ?_)
      · exact absurd rfl c_1357
      · refine lv_aload_n hx hb dL_law_1360 rfl (lv_at hl 5 rfl) ?_
        refine lv_iconst (v := 0) hx hb dL_law_1361 (by decide) ?_
        refine w_lald hC hJ (wj_Pl hP) dL_law_1362 ?_
        refine lv_iload hx hb dL_law_1363 (lv_at hl 0 rfl) ?_
        refine lv_i2l hx hb dL_law_1365 rfl ?_
        refine w_lcmp hx hb dL_law_1366 hu9 ?_
        refine lv_if_eq (tgt := 1372) hx hb dL_law_1367 (by decide) (fun c_1367 => ?_) (fun c_1367 => ?_)
        · refine lv_goto (tgt := 1948) hx hb dL_law_1372 (by decide) ?_
          exact kk _ _ _ _ _ ⟨lv, lk, pu, fa, he, n, nv, du, ta, w, mp, mi, k, nt, fu, re, gn, of, 0, u9, hI, hP, hD, hS⟩ (by omega) (by omega) (lv_sub hl [2, 3, 4, 5, 6] rfl)
        · exact absurd rfl c_1367
    · exact absurd rfl c_1350
set_option maxHeartbeats 8000000 in
set_option maxRecDepth 100000 in
theorem lc_27 {p : Program} {l : Launch} {e : Env} {s : State} {m : MethodId} {below : List Frame} {meth : Method} {c : Code} {H : Heap} {locs : List Loc} {cells slots : Nat} {Q : State → Prop} {ls : Array Slot} {b L : Nat} {xs : Nat → Int32} {D : va_G} {z z2 : ClassId × ClassId} {cJ : ClassId} {q9 t9 a a2 : Nat → Nat} {o : Nat} {lv lk pu fa he : Nat → Int32} {n : Nat} {nv du ta : Nat → Int32} {w : Nat} {mp mi : Nat → Int32} {k : Nat} {nt fu re : Int32} {gn of : Nat → Int32} {th : Int32} {g : Nat → Int64} {r : Nat} (X : LX p l s m c b L xs D z z2 cJ q9 t9) (hI : IV lv lk fa he n nv du w k gn of) (hP : va_P D vwCl (oW o cJ g (xW z a lv lk pu fa he n nv du ta w mp mi k nt fu re) ++ mW z2 a2 th n w gn lk pu fa he nv of mp mi k nt fu re) H) (hD : va_D (nw s) (oW o cJ g (xW z a lv lk pu fa he n nv du ta w mp mi k nt fu re) ++ mW z2 a2 th n w gn lk pu fa he nv of mp mi k nt fu re)) (hS : va_S (nw s) s.heap H locs) (hcl : cells + 12 ≤ 601024) (hsl : slots + 100 ≤ 7293034) (hr : r + 2 < L) (hl : lv_has ls 9 [(0, .ref b), (1, .ref (a 0)), (2, .ref (a2 0)), (3, .ref o), (4, .int (nI r))]) (kk : ∀ (H1 : Heap) (locs1 : List Loc) (c1 s1 : Nat) (ls1 : Array Slot), Jn D z z2 cJ a a2 o s H1 locs1 → c1 ≤ cells + 11 → s1 ≤ slots + 94 → lv_has ls1 9 [(0, .ref b), (1, .ref (a 0)), (2, .ref (a2 0)), (3, .ref o), (4, .int (nI r))] → W p l e room_1 s m #[.ref b] below meth c H1 locs1 c1 s1 Q (F0 m 1948 ls1 [])) : W p l e room_1 s m #[.ref b] below meth c H locs cells slots Q (F0 m 1375 ls []) := by
  obtain ⟨hC, hst, ⟨hX, hbl, hL⟩, ⟨hK, hK2, hJ⟩, hT, hN, hE⟩ := X
  have hx := hC.1
  have hb := hC.2.1
  have hA : ∀ q : Nat, s.heap.size ≤ q → nw s q := fun q h => h
  have hbA : ¬ nw s b := Nat.not_le.mpr hbl
  have hn := hI.1.1
  have hw := hI.1.2.1
  have hk := hI.1.2.2
  obtain ⟨x, hx1⟩ : ∃ x : Int32, xs (r + 1) = x := ⟨_, rfl⟩
  obtain ⟨y, hx2⟩ : ∃ y : Int32, xs (r + 2) = y := ⟨_, rfl⟩
  by_cases hp : sp_isP w x = 0
  · refine lv_aload_n hx hb dL_law_1375 rfl (lv_at hl 1 rfl) ?_
    refine lv_aload_n hx hb dL_law_1376 rfl (lv_at hl 0 rfl) ?_
    refine lv_iload hx hb dL_law_1377 (lv_at hl 4 rfl) ?_
    refine lv_iconst (v := 1) hx hb dL_law_1379 (by decide) ?_
    refine lv_iadd hx hb dL_law_1380 ?_
    refine w_sld hx hb hX hbl hbA hS hL (r + 1) (nI_1 r) (by omega) hx1 dL_law_1381 ?_
    refine lv_aload_n hx hb dL_law_1382 rfl (lv_at hl 3 rfl) ?_
    have hPO := wj_Pl hP
    have hDO := wj_Dl hD
    have hF := wj_Fl hD hS hA
    refine va_calli (vx_runSW (As := [.ref (a 0), .int x, .ref o]) (rest := []) hC (w_isOnDuty_a l hst H.size x hp) (vx_cwSW 3 hC.2.2.2.2 (gi_S mM_L_198 mT_L_isOnDuty mI_MissRegistryLaw mC_L_isOnDuty) rfl rfl rfl (by decide +kernel) ⟨Nat.le_of_ble_eq_true rfl, Nat.le_of_ble_eq_true rfl⟩) ⟨fun a1 U g mk q => ⟨q.1, q.2.1, q.2.2.1, va_K.moved (u := U) (U := U.calling g mk a1) (Vm.Alike.refl U.vm) q.2.2.2.1, va_K.moved (u := U) (U := U.calling g mk a1) (Vm.Alike.refl U.vm) q.2.2.2.2.1, ⟨q.2.2.2.2.2.1, tH.same (u := U) (U := U.calling g mk a1) rfl q.2.2.2.2.2.2.1, tN.moved (u := U) (U := U.calling g mk a1) (Vm.Alike.refl U.vm) q.2.2.2.2.2.2.2⟩⟩, fun U hU hW => ⟨rfl, by rw [hU], by rw [hU]; exact hPO, va_K.moved hW.alike hK, va_K.moved hW.alike hJ, hDO.weaken (fun _ _ _ _ => trivial), by rw [hU]; exact (hT.at hS).warm hW, hN.moved hW.alike⟩⟩ rfl rfl hl.1 rfl (lv_room (Nat.le_of_ble_eq_true rfl)) dL_law_1383 ⟨(show _ ≤ 601024 by omega), (show _ ≤ 7293034 by omega)⟩) hS (fun q _ h => hF q h) hF (fun r9 u9 t H locs ht hvm hw9 hB hz9 hk9 hS9 => ?_)
    obtain ⟨hP1, hD1⟩ := hB
    rw [ht] at hP1
    obtain ⟨hP, hD⟩ := wj_l hP hD hk9 hF hP1 hD1
    rw [show r9 = 1 from hw9]
    have hP : va_P D vwCl (oW o cJ g (xW z a lv lk pu fa he n nv du ta w mp mi k nt fu re) ++ mW z2 a2 th n w gn lk pu fa he nv of mp mi k nt fu re) H := hP
    have hD : va_D (nw s) (oW o cJ g (xW z a lv lk pu fa he n nv du ta w mp mi k nt fu re) ++ mW z2 a2 th n w gn lk pu fa he nv of mp mi k nt fu re) := hD
    have hS := hS9
    refine lv_istore (lv' := [(5, .int 1), (0, .ref b), (1, .ref (a 0)), (2, .ref (a2 0)), (3, .ref o), (4, .int (nI r))]) hx hb dL_law_1386 hl (by decide) rfl (fun ls hl => ?_)
    refine lv_aload_n hx hb dL_law_1388 rfl (lv_at hl 3 rfl) ?_
    refine lv_aload_n hx hb dL_law_1389 rfl (lv_at hl 1 rfl) ?_
    refine lv_iload hx hb dL_law_1390 (lv_at hl 5 rfl) ?_
    refine lv_iconst (v := 1) hx hb dL_law_1392 (by decide) ?_
    refine lv_iadd hx hb dL_law_1393 ?_
    refine w_sld hx hb hX hbl hbA hS hL (r + 1) (nI_1 r) (by omega) hx1 dL_law_1394 ?_
    have hPM := wj_Pr hP
    have hDM := wj_Dr hD
    have hF := wj_Fr hD hS hA
    refine va_calli (va_runV (As := [.int x]) (rest := []) hC (c_X1_isOnDuty_a l H.size x hw hp) (cwV 1 hC.2.2.2.2 (gi_V mM_L_200 mV_X1_isOnDuty mS_X1_isOnDuty mI_MissRegistryModel mC_X1_isOnDuty) rfl rfl rfl (by decide +kernel) ⟨Nat.le_of_ble_eq_true rfl, Nat.le_of_ble_eq_true rfl⟩) ⟨fun a1 U g mk q => ⟨q.1, q.2.1, ⟨q.2.2.1.1, va_K.moved (u := U) (U := U.calling g mk a1) (Vm.Alike.refl U.vm) q.2.2.1.2⟩, q.2.2.2⟩, va_recv hK2 hPM (ci := 1) (q0 := 0) rfl rfl, fun U hU hW => ⟨rfl, by rw [hU], ⟨by rw [hU]; exact hPM, va_K.moved hW.alike hK2⟩, hDM.weaken (fun _ _ _ _ => trivial)⟩⟩ rfl rfl hl.1 rfl (lv_room (Nat.le_of_ble_eq_true rfl)) dL_law_1395 ⟨(show _ ≤ 601024 by omega), (show _ ≤ 7293034 by omega)⟩) hS (fun q _ h => hF q h) hF (fun r7 u7 t H locs ht hvm hw7 hB hz9 hk9 hS9 => ?_)
    obtain ⟨hP1, hK1, hD1⟩ := hB
    rw [ht] at hP1
    obtain ⟨hP, hD⟩ := wj_r hP hD hk9 hF hP1 hD1
    have hP : va_P D vwCl (oW o cJ g (xW z a lv lk pu fa he n nv du ta w mp mi k nt fu re) ++ mW z2 a2 1 n w gn lk pu fa he nv of mp mi k nt fu re) H := hP
    have hD : va_D (nw s) (oW o cJ g (xW z a lv lk pu fa he n nv du ta w mp mi k nt fu re) ++ mW z2 a2 1 n w gn lk pu fa he nv of mp mi k nt fu re) := hD
    have hS := hS9
    rw [show r7 = 0 from hw7]
    refine lv_istore (lv' := [(6, .int 0), (5, .int 1), (0, .ref b), (1, .ref (a 0)), (2, .ref (a2 0)), (3, .ref o), (4, .int (nI r))]) hx hb dL_law_1398 hl (by decide) rfl (fun ls hl => ?_)
    refine lv_aload_n hx hb dL_law_1400 rfl (lv_at hl 4 rfl) ?_
    refine vp_callSi (W.runV (As := []) (rest := []) hC (c_X1_thrown l) (cwV 0 hC.2.2.2.2 (gi_V mM_L_106 mV_X1_thrown mS_X1_thrown mI_MissRegistryModel mC_X1_thrown) rfl rfl rfl (by decide +kernel) ⟨Nat.le_of_ble_eq_true rfl, Nat.le_of_ble_eq_true rfl⟩) (mpre hK2 (wj_Pr hP)) rfl rfl hl.1 rfl (lv_room (Nat.le_of_ble_eq_true rfl)) dL_law_1401 ⟨(show _ ≤ 601024 by omega), (show _ ≤ 7293034 by omega)⟩) (fun r8 hr8 => ?_)
    rw [show r8 = 1 from hr8]
    refine lv_iload hx hb dL_law_1404 (lv_at hl 1 rfl) ?_
    refine lv_icmp_eq (tgt := 1411) hx hb dL_law_1406 (by decide) (fun c_1406 => ?_) (fun c_1406 => ?_)
    · refine lv_iload hx hb dL_law_1411 (lv_at hl 1 rfl) ?_
      refine lv_if_ne (tgt := 1435) hx hb dL_law_1413 (by decide) (fun c_1413 => ?_) (fun c_1413 => ?_)
      · refine lv_goto (tgt := 1948) hx hb dL_law_1435 (by decide) ?_
        exact kk _ _ _ _ _ ⟨lv, lk, pu, fa, he, n, nv, du, ta, w, mp, mi, k, nt, fu, re, gn, of, 1, g, hI, hP, hD, hS⟩ (by omega) (by omega) (lv_sub hl [2, 3, 4, 5, 6] rfl)
      · exact absurd c_1413 (by decide)
    · exact absurd rfl c_1406
  · obtain ⟨i, hi, exi⟩ := isP_ex (by omega) hp
    subst exi
    refine lv_aload_n hx hb dL_law_1375 rfl (lv_at hl 1 rfl) ?_
    refine lv_aload_n hx hb dL_law_1376 rfl (lv_at hl 0 rfl) ?_
    refine lv_iload hx hb dL_law_1377 (lv_at hl 4 rfl) ?_
    refine lv_iconst (v := 1) hx hb dL_law_1379 (by decide) ?_
    refine lv_iadd hx hb dL_law_1380 ?_
    refine w_sld hx hb hX hbl hbA hS hL (r + 1) (nI_1 r) (by omega) hx1 dL_law_1381 ?_
    refine lv_aload_n hx hb dL_law_1382 rfl (lv_at hl 3 rfl) ?_
    have hPO := wj_Pl hP
    have hDO := wj_Dl hD
    have hF := wj_Fl hD hS hA
    refine va_calli (vx_runSW (As := [.ref (a 0), .int (nI i), .ref o]) (rest := []) hC (w_isOnDuty l H.size i hi hw (hI.2.1.2.1 i hi).1) (vx_cwSW 3 hC.2.2.2.2 (gi_S mM_L_198 mT_L_isOnDuty mI_MissRegistryLaw mC_L_isOnDuty) rfl rfl rfl (by decide +kernel) ⟨Nat.le_of_ble_eq_true rfl, Nat.le_of_ble_eq_true rfl⟩) ⟨fun a1 U g mk q => ⟨q.1, q.2.1, q.2.2.1, va_K.moved (u := U) (U := U.calling g mk a1) (Vm.Alike.refl U.vm) q.2.2.2.1, va_K.moved (u := U) (U := U.calling g mk a1) (Vm.Alike.refl U.vm) q.2.2.2.2.1, q.2.2.2.2.2⟩, fun U hU hW => ⟨rfl, by rw [hU], by rw [hU]; exact hPO, va_K.moved hW.alike hK, va_K.moved hW.alike hJ, hDO.weaken (fun _ _ _ _ => trivial)⟩⟩ rfl rfl hl.1 rfl (lv_room (Nat.le_of_ble_eq_true rfl)) dL_law_1383 ⟨(show _ ≤ 601024 by omega), (show _ ≤ 7293034 by omega)⟩) hS (fun q _ h => hF q h) hF (fun r9 u9 t H locs ht hvm hw9 hB hz9 hk9 hS9 => ?_)
    obtain ⟨hP1, hD1⟩ := hB
    rw [ht] at hP1
    obtain ⟨hP, hD⟩ := wj_l hP hD hk9 hF hP1 hD1
    obtain ⟨hr9, hu9⟩ := hw9
    rw [hr9]
    have hP : va_P D vwCl (oW o cJ u9 (xW z a lv lk pu fa he n nv du ta w mp mi k nt fu re) ++ mW z2 a2 th n w gn lk pu fa he nv of mp mi k nt fu re) H := hP
    have hD : va_D (nw s) (oW o cJ u9 (xW z a lv lk pu fa he n nv du ta w mp mi k nt fu re) ++ mW z2 a2 th n w gn lk pu fa he nv of mp mi k nt fu re) := hD
    have hS := hS9
    refine lv_istore (lv' := [(5, .int 0), (0, .ref b), (1, .ref (a 0)), (2, .ref (a2 0)), (3, .ref o), (4, .int (nI r))]) hx hb dL_law_1386 hl (by decide) rfl (fun ls hl => ?_)
    refine lv_aload_n hx hb dL_law_1388 rfl (lv_at hl 3 rfl) ?_
    refine lv_aload_n hx hb dL_law_1389 rfl (lv_at hl 1 rfl) ?_
    refine lv_iload hx hb dL_law_1390 (lv_at hl 5 rfl) ?_
    refine lv_iconst (v := 1) hx hb dL_law_1392 (by decide) ?_
    refine lv_iadd hx hb dL_law_1393 ?_
    refine w_sld hx hb hX hbl hbA hS hL (r + 1) (nI_1 r) (by omega) hx1 dL_law_1394 ?_
    have hPM := wj_Pr hP
    have hDM := wj_Dr hD
    have hF := wj_Fr hD hS hA
    refine va_calli (va_runV (As := [.int (nI i)]) (rest := []) hC (c_X1_isOnDuty l H.size i hi hw) (cwV 1 hC.2.2.2.2 (gi_V mM_L_200 mV_X1_isOnDuty mS_X1_isOnDuty mI_MissRegistryModel mC_X1_isOnDuty) rfl rfl rfl (by decide +kernel) ⟨Nat.le_of_ble_eq_true rfl, Nat.le_of_ble_eq_true rfl⟩) ⟨fun a1 U g mk q => ⟨q.1, q.2.1, ⟨q.2.2.1.1, va_K.moved (u := U) (U := U.calling g mk a1) (Vm.Alike.refl U.vm) q.2.2.1.2⟩, q.2.2.2⟩, va_recv hK2 hPM (ci := 1) (q0 := 0) rfl rfl, fun U hU hW => ⟨rfl, by rw [hU], ⟨by rw [hU]; exact hPM, va_K.moved hW.alike hK2⟩, hDM.weaken (fun _ _ _ _ => trivial)⟩⟩ rfl rfl hl.1 rfl (lv_room (Nat.le_of_ble_eq_true rfl)) dL_law_1395 ⟨(show _ ≤ 601024 by omega), (show _ ≤ 7293034 by omega)⟩) hS (fun q _ h => hF q h) hF (fun r7 u7 t H locs ht hvm hw7 hB hz9 hk9 hS9 => ?_)
    obtain ⟨hP1, hK1, hD1⟩ := hB
    rw [ht] at hP1
    obtain ⟨hP, hD⟩ := wj_r hP hD hk9 hF hP1 hD1
    have hP : va_P D vwCl (oW o cJ u9 (xW z a lv lk pu fa he n nv du ta w mp mi k nt fu re) ++ mW z2 a2 0 n w gn lk pu fa he nv of mp mi k nt fu re) H := hP
    have hD : va_D (nw s) (oW o cJ u9 (xW z a lv lk pu fa he n nv du ta w mp mi k nt fu re) ++ mW z2 a2 0 n w gn lk pu fa he nv of mp mi k nt fu re) := hD
    have hS := hS9
    rw [show r7 = sp_not (of i) from hw7]
    refine lv_istore (lv' := [(6, .int (sp_not (of i))), (5, .int 0), (0, .ref b), (1, .ref (a 0)), (2, .ref (a2 0)), (3, .ref o), (4, .int (nI r))]) hx hb dL_law_1398 hl (by decide) rfl (fun ls hl => ?_)
    refine lv_aload_n hx hb dL_law_1400 rfl (lv_at hl 4 rfl) ?_
    refine vp_callSi (W.runV (As := []) (rest := []) hC (c_X1_thrown l) (cwV 0 hC.2.2.2.2 (gi_V mM_L_106 mV_X1_thrown mS_X1_thrown mI_MissRegistryModel mC_X1_thrown) rfl rfl rfl (by decide +kernel) ⟨Nat.le_of_ble_eq_true rfl, Nat.le_of_ble_eq_true rfl⟩) (mpre hK2 (wj_Pr hP)) rfl rfl hl.1 rfl (lv_room (Nat.le_of_ble_eq_true rfl)) dL_law_1401 ⟨(show _ ≤ 601024 by omega), (show _ ≤ 7293034 by omega)⟩) (fun r8 hr8 => ?_)
    rw [show r8 = 0 from hr8]
    refine lv_iload hx hb dL_law_1404 (lv_at hl 1 rfl) ?_
    refine lv_icmp_eq (tgt := 1411) hx hb dL_law_1406 (by decide) (fun c_1406 => ?_) (fun c_1406 => ?_)
    · refine lv_iload hx hb dL_law_1411 (lv_at hl 1 rfl) ?_
      refine lv_if_ne (tgt := 1435) hx hb dL_law_1413 (by decide) (fun c_1413 => ?_) (fun c_1413 => ?_)
      · exact absurd rfl c_1413
      · refine lv_aload_n hx hb dL_law_1416 rfl (lv_at hl 5 rfl) ?_
        refine lv_iconst (v := 0) hx hb dL_law_1417 (by decide) ?_
        refine w_lald hC hJ (wj_Pl hP) dL_law_1418 ?_
        refine lv_iload hx hb dL_law_1419 (lv_at hl 0 rfl) ?_
        refine lv_if_eq (tgt := 1428) hx hb dL_law_1421 (by decide) (fun c_1421 => ?_) (fun c_1421 => ?_)
        · refine lv_lconst (v := 0) hx hb dL_law_1428 rfl ?_
          refine w_lcmp hx hb dL_law_1429 (hu9.trans (by unfold b64; rw [if_pos (show _ from (hI.2.1.2.eq hi) ▸ c_1421)])) ?_
          refine lv_if_eq (tgt := 1435) hx hb dL_law_1430 (by decide) (fun c_1430 => ?_) (fun c_1430 => ?_)
          · refine lv_goto (tgt := 1948) hx hb dL_law_1435 (by decide) ?_
            exact kk _ _ _ _ _ ⟨lv, lk, pu, fa, he, n, nv, du, ta, w, mp, mi, k, nt, fu, re, gn, of, 0, u9, hI, hP, hD, hS⟩ (by omega) (by omega) (lv_sub hl [2, 3, 4, 5, 6] rfl)
          · exact absurd rfl c_1430
        · refine lv_lconst (v := 1) hx hb dL_law_1424 rfl ?_
          refine lv_goto (tgt := 1429) hx hb dL_law_1425 (by decide) ?_
          refine w_lcmp hx hb dL_law_1429 (hu9.trans (by unfold b64; rw [if_neg (show _ from (hI.2.1.2.eq hi) ▸ c_1421)])) ?_
          refine lv_if_eq (tgt := 1435) hx hb dL_law_1430 (by decide) (fun c_1430 => ?_) (fun c_1430 => ?_)
          · refine lv_goto (tgt := 1948) hx hb dL_law_1435 (by decide) ?_
            exact kk _ _ _ _ _ ⟨lv, lk, pu, fa, he, n, nv, du, ta, w, mp, mi, k, nt, fu, re, gn, of, 0, u9, hI, hP, hD, hS⟩ (by omega) (by omega) (lv_sub hl [2, 3, 4, 5, 6] rfl)
          · exact absurd rfl c_1430
    · exact absurd rfl c_1406
set_option maxHeartbeats 8000000 in
set_option maxRecDepth 100000 in
theorem lc_28 {p : Program} {l : Launch} {e : Env} {s : State} {m : MethodId} {below : List Frame} {meth : Method} {c : Code} {H : Heap} {locs : List Loc} {cells slots : Nat} {Q : State → Prop} {ls : Array Slot} {b L : Nat} {xs : Nat → Int32} {D : va_G} {z z2 : ClassId × ClassId} {cJ : ClassId} {q9 t9 a a2 : Nat → Nat} {o : Nat} {lv lk pu fa he : Nat → Int32} {n : Nat} {nv du ta : Nat → Int32} {w : Nat} {mp mi : Nat → Int32} {k : Nat} {nt fu re : Int32} {gn of : Nat → Int32} {th : Int32} {g : Nat → Int64} {r : Nat} (X : LX p l s m c b L xs D z z2 cJ q9 t9) (hI : IV lv lk fa he n nv du w k gn of) (hP : va_P D vwCl (oW o cJ g (xW z a lv lk pu fa he n nv du ta w mp mi k nt fu re) ++ mW z2 a2 th n w gn lk pu fa he nv of mp mi k nt fu re) H) (hD : va_D (nw s) (oW o cJ g (xW z a lv lk pu fa he n nv du ta w mp mi k nt fu re) ++ mW z2 a2 th n w gn lk pu fa he nv of mp mi k nt fu re)) (hS : va_S (nw s) s.heap H locs) (hcl : cells + 12 ≤ 601024) (hsl : slots + 100 ≤ 7293034) (hr : r + 2 < L) (hl : lv_has ls 9 [(0, .ref b), (1, .ref (a 0)), (2, .ref (a2 0)), (3, .ref o), (4, .int (nI r))]) (kk : ∀ (H1 : Heap) (locs1 : List Loc) (c1 s1 : Nat) (ls1 : Array Slot), Jn D z z2 cJ a a2 o s H1 locs1 → c1 ≤ cells + 11 → s1 ≤ slots + 94 → lv_has ls1 9 [(0, .ref b), (1, .ref (a 0)), (2, .ref (a2 0)), (3, .ref o), (4, .int (nI r))] → W p l e room_1 s m #[.ref b] below meth c H1 locs1 c1 s1 Q (F0 m 1948 ls1 [])) : W p l e room_1 s m #[.ref b] below meth c H locs cells slots Q (F0 m 1438 ls []) := by
  obtain ⟨hC, hst, ⟨hX, hbl, hL⟩, ⟨hK, hK2, hJ⟩, hT, hN, hE⟩ := X
  have hx := hC.1
  have hb := hC.2.1
  have hA : ∀ q : Nat, s.heap.size ≤ q → nw s q := fun q h => h
  have hbA : ¬ nw s b := Nat.not_le.mpr hbl
  have hn := hI.1.1
  have hw := hI.1.2.1
  have hk := hI.1.2.2
  obtain ⟨x, hx1⟩ : ∃ x : Int32, xs (r + 1) = x := ⟨_, rfl⟩
  obtain ⟨y, hx2⟩ : ∃ y : Int32, xs (r + 2) = y := ⟨_, rfl⟩
  by_cases hp : sp_isP w x = 0
  · refine lv_aload_n hx hb dL_law_1438 rfl (lv_at hl 1 rfl) ?_
    refine lv_aload_n hx hb dL_law_1439 rfl (lv_at hl 0 rfl) ?_
    refine lv_iload hx hb dL_law_1440 (lv_at hl 4 rfl) ?_
    refine lv_iconst (v := 1) hx hb dL_law_1442 (by decide) ?_
    refine lv_iadd hx hb dL_law_1443 ?_
    refine w_sld hx hb hX hbl hbA hS hL (r + 1) (nI_1 r) (by omega) hx1 dL_law_1444 ?_
    refine lv_aload_n hx hb dL_law_1445 rfl (lv_at hl 0 rfl) ?_
    refine lv_iload hx hb dL_law_1446 (lv_at hl 4 rfl) ?_
    refine lv_iconst (v := 2) hx hb dL_law_1448 (by decide) ?_
    refine lv_iadd hx hb dL_law_1449 ?_
    refine w_sld hx hb hX hbl hbA hS hL (r + 2) (nI_add r 2) (by omega) hx2 dL_law_1450 ?_
    refine lv_aload_n hx hb dL_law_1451 rfl (lv_at hl 3 rfl) ?_
    have hPO := wj_Pl hP
    have hDO := wj_Dl hD
    have hF := wj_Fl hD hS hA
    refine va_calli (vx_runSW (As := [.ref (a 0), .int x, .int y, .ref o]) (rest := []) hC (w_wouldTell_a l hst H.size x y hp) (vx_cwSW 4 hC.2.2.2.2 (gi_S mM_L_201 mT_L_wouldTell mI_MissRegistryLaw mC_L_wouldTell) rfl rfl rfl (by decide +kernel) ⟨Nat.le_of_ble_eq_true rfl, Nat.le_of_ble_eq_true rfl⟩) ⟨fun a1 U g mk q => ⟨q.1, q.2.1, q.2.2.1, va_K.moved (u := U) (U := U.calling g mk a1) (Vm.Alike.refl U.vm) q.2.2.2.1, va_K.moved (u := U) (U := U.calling g mk a1) (Vm.Alike.refl U.vm) q.2.2.2.2.1, ⟨q.2.2.2.2.2.1, tH.same (u := U) (U := U.calling g mk a1) rfl q.2.2.2.2.2.2.1, tN.moved (u := U) (U := U.calling g mk a1) (Vm.Alike.refl U.vm) q.2.2.2.2.2.2.2⟩⟩, fun U hU hW => ⟨rfl, by rw [hU], by rw [hU]; exact hPO, va_K.moved hW.alike hK, va_K.moved hW.alike hJ, hDO.weaken (fun _ _ _ _ => trivial), by rw [hU]; exact (hT.at hS).warm hW, hN.moved hW.alike⟩⟩ rfl rfl hl.1 rfl (lv_room (Nat.le_of_ble_eq_true rfl)) dL_law_1452 ⟨(show _ ≤ 601024 by omega), (show _ ≤ 7293034 by omega)⟩) hS (fun q _ h => hF q h) hF (fun r9 u9 t H locs ht hvm hw9 hB hz9 hk9 hS9 => ?_)
    obtain ⟨hP1, hD1⟩ := hB
    rw [ht] at hP1
    obtain ⟨hP, hD⟩ := wj_l hP hD hk9 hF hP1 hD1
    rw [show r9 = 1 from hw9]
    have hP : va_P D vwCl (oW o cJ g (xW z a lv lk pu fa he n nv du ta w mp mi k nt fu re) ++ mW z2 a2 th n w gn lk pu fa he nv of mp mi k nt fu re) H := hP
    have hD : va_D (nw s) (oW o cJ g (xW z a lv lk pu fa he n nv du ta w mp mi k nt fu re) ++ mW z2 a2 th n w gn lk pu fa he nv of mp mi k nt fu re) := hD
    have hS := hS9
    refine lv_istore (lv' := [(5, .int 1), (0, .ref b), (1, .ref (a 0)), (2, .ref (a2 0)), (3, .ref o), (4, .int (nI r))]) hx hb dL_law_1455 hl (by decide) rfl (fun ls hl => ?_)
    refine lv_aload_n hx hb dL_law_1457 rfl (lv_at hl 3 rfl) ?_
    refine lv_aload_n hx hb dL_law_1458 rfl (lv_at hl 1 rfl) ?_
    refine lv_iload hx hb dL_law_1459 (lv_at hl 5 rfl) ?_
    refine lv_iconst (v := 1) hx hb dL_law_1461 (by decide) ?_
    refine lv_iadd hx hb dL_law_1462 ?_
    refine w_sld hx hb hX hbl hbA hS hL (r + 1) (nI_1 r) (by omega) hx1 dL_law_1463 ?_
    refine lv_aload_n hx hb dL_law_1464 rfl (lv_at hl 1 rfl) ?_
    refine lv_iload hx hb dL_law_1465 (lv_at hl 5 rfl) ?_
    refine lv_iconst (v := 2) hx hb dL_law_1467 (by decide) ?_
    refine lv_iadd hx hb dL_law_1468 ?_
    refine w_sld hx hb hX hbl hbA hS hL (r + 2) (nI_add r 2) (by omega) hx2 dL_law_1469 ?_
    have hPM := wj_Pr hP
    have hDM := wj_Dr hD
    have hF := wj_Fr hD hS hA
    refine va_calli (va_runV (As := [.int x, .int y]) (rest := []) hC (c_X1_wouldTell_a l H.size x y hw hp) (cwV 2 hC.2.2.2.2 (gi_V mM_L_203 mV_X1_wouldTell mS_X1_wouldTell mI_MissRegistryModel mC_X1_wouldTell) rfl rfl rfl (by decide +kernel) ⟨Nat.le_of_ble_eq_true rfl, Nat.le_of_ble_eq_true rfl⟩) ⟨fun a1 U g mk q => ⟨q.1, q.2.1, ⟨q.2.2.1.1, va_K.moved (u := U) (U := U.calling g mk a1) (Vm.Alike.refl U.vm) q.2.2.1.2⟩, q.2.2.2⟩, va_recv hK2 hPM (ci := 1) (q0 := 0) rfl rfl, fun U hU hW => ⟨rfl, by rw [hU], ⟨by rw [hU]; exact hPM, va_K.moved hW.alike hK2⟩, hDM.weaken (fun _ _ _ _ => trivial)⟩⟩ rfl rfl hl.1 rfl (lv_room (Nat.le_of_ble_eq_true rfl)) dL_law_1470 ⟨(show _ ≤ 601024 by omega), (show _ ≤ 7293034 by omega)⟩) hS (fun q _ h => hF q h) hF (fun r7 u7 t H locs ht hvm hw7 hB hz9 hk9 hS9 => ?_)
    obtain ⟨hP1, hK1, hD1⟩ := hB
    rw [ht] at hP1
    obtain ⟨hP, hD⟩ := wj_r hP hD hk9 hF hP1 hD1
    have hP : va_P D vwCl (oW o cJ g (xW z a lv lk pu fa he n nv du ta w mp mi k nt fu re) ++ mW z2 a2 1 n w gn lk pu fa he nv of mp mi k nt fu re) H := hP
    have hD : va_D (nw s) (oW o cJ g (xW z a lv lk pu fa he n nv du ta w mp mi k nt fu re) ++ mW z2 a2 1 n w gn lk pu fa he nv of mp mi k nt fu re) := hD
    have hS := hS9
    rw [show r7 = 0 from hw7]
    refine lv_istore (lv' := [(6, .int 0), (5, .int 1), (0, .ref b), (1, .ref (a 0)), (2, .ref (a2 0)), (3, .ref o), (4, .int (nI r))]) hx hb dL_law_1473 hl (by decide) rfl (fun ls hl => ?_)
    refine lv_aload_n hx hb dL_law_1475 rfl (lv_at hl 4 rfl) ?_
    refine vp_callSi (W.runV (As := []) (rest := []) hC (c_X1_thrown l) (cwV 0 hC.2.2.2.2 (gi_V mM_L_106 mV_X1_thrown mS_X1_thrown mI_MissRegistryModel mC_X1_thrown) rfl rfl rfl (by decide +kernel) ⟨Nat.le_of_ble_eq_true rfl, Nat.le_of_ble_eq_true rfl⟩) (mpre hK2 (wj_Pr hP)) rfl rfl hl.1 rfl (lv_room (Nat.le_of_ble_eq_true rfl)) dL_law_1476 ⟨(show _ ≤ 601024 by omega), (show _ ≤ 7293034 by omega)⟩) (fun r8 hr8 => ?_)
    rw [show r8 = 1 from hr8]
    refine lv_iload hx hb dL_law_1479 (lv_at hl 1 rfl) ?_
    refine lv_icmp_eq (tgt := 1486) hx hb dL_law_1481 (by decide) (fun c_1481 => ?_) (fun c_1481 => ?_)
    · refine lv_iload hx hb dL_law_1486 (lv_at hl 1 rfl) ?_
      refine lv_if_ne (tgt := 1503) hx hb dL_law_1488 (by decide) (fun c_1488 => ?_) (fun c_1488 => ?_)
      · refine lv_goto (tgt := 1948) hx hb dL_law_1503 (by decide) ?_
        exact kk _ _ _ _ _ ⟨lv, lk, pu, fa, he, n, nv, du, ta, w, mp, mi, k, nt, fu, re, gn, of, 1, g, hI, hP, hD, hS⟩ (by omega) (by omega) (lv_sub hl [2, 3, 4, 5, 6] rfl)
      · exact absurd c_1488 (by decide)
    · exact absurd rfl c_1481
  · obtain ⟨i, hi, exi⟩ := isP_ex (by omega) hp
    subst exi
    by_cases hbad : y < 1 ∨ ¬ y ≤ 60
    · refine lv_aload_n hx hb dL_law_1438 rfl (lv_at hl 1 rfl) ?_
      refine lv_aload_n hx hb dL_law_1439 rfl (lv_at hl 0 rfl) ?_
      refine lv_iload hx hb dL_law_1440 (lv_at hl 4 rfl) ?_
      refine lv_iconst (v := 1) hx hb dL_law_1442 (by decide) ?_
      refine lv_iadd hx hb dL_law_1443 ?_
      refine w_sld hx hb hX hbl hbA hS hL (r + 1) (nI_1 r) (by omega) hx1 dL_law_1444 ?_
      refine lv_aload_n hx hb dL_law_1445 rfl (lv_at hl 0 rfl) ?_
      refine lv_iload hx hb dL_law_1446 (lv_at hl 4 rfl) ?_
      refine lv_iconst (v := 2) hx hb dL_law_1448 (by decide) ?_
      refine lv_iadd hx hb dL_law_1449 ?_
      refine w_sld hx hb hX hbl hbA hS hL (r + 2) (nI_add r 2) (by omega) hx2 dL_law_1450 ?_
      refine lv_aload_n hx hb dL_law_1451 rfl (lv_at hl 3 rfl) ?_
      have hPO := wj_Pl hP
      have hDO := wj_Dl hD
      have hF := wj_Fl hD hS hA
      refine va_calli (vx_runSW (As := [.ref (a 0), .int (nI i), .int y, .ref o]) (rest := []) hC (w_wouldTell_b l hst H.size i hi hw y hbad) (vx_cwSW 4 hC.2.2.2.2 (gi_S mM_L_201 mT_L_wouldTell mI_MissRegistryLaw mC_L_wouldTell) rfl rfl rfl (by decide +kernel) ⟨Nat.le_of_ble_eq_true rfl, Nat.le_of_ble_eq_true rfl⟩) ⟨fun a1 U g mk q => ⟨q.1, q.2.1, q.2.2.1, va_K.moved (u := U) (U := U.calling g mk a1) (Vm.Alike.refl U.vm) q.2.2.2.1, va_K.moved (u := U) (U := U.calling g mk a1) (Vm.Alike.refl U.vm) q.2.2.2.2.1, ⟨q.2.2.2.2.2.1, tH.same (u := U) (U := U.calling g mk a1) rfl q.2.2.2.2.2.2.1, tN.moved (u := U) (U := U.calling g mk a1) (Vm.Alike.refl U.vm) q.2.2.2.2.2.2.2⟩⟩, fun U hU hW => ⟨rfl, by rw [hU], by rw [hU]; exact hPO, va_K.moved hW.alike hK, va_K.moved hW.alike hJ, hDO.weaken (fun _ _ _ _ => trivial), by rw [hU]; exact (hT.at hS).warm hW, hN.moved hW.alike⟩⟩ rfl rfl hl.1 rfl (lv_room (Nat.le_of_ble_eq_true rfl)) dL_law_1452 ⟨(show _ ≤ 601024 by omega), (show _ ≤ 7293034 by omega)⟩) hS (fun q _ h => hF q h) hF (fun r9 u9 t H locs ht hvm hw9 hB hz9 hk9 hS9 => ?_)
      obtain ⟨hP1, hD1⟩ := hB
      rw [ht] at hP1
      obtain ⟨hP, hD⟩ := wj_l hP hD hk9 hF hP1 hD1
      rw [show r9 = 2 from hw9]
      have hP : va_P D vwCl (oW o cJ g (xW z a lv lk pu fa he n nv du ta w mp mi k nt fu re) ++ mW z2 a2 th n w gn lk pu fa he nv of mp mi k nt fu re) H := hP
      have hD : va_D (nw s) (oW o cJ g (xW z a lv lk pu fa he n nv du ta w mp mi k nt fu re) ++ mW z2 a2 th n w gn lk pu fa he nv of mp mi k nt fu re) := hD
      have hS := hS9
      refine lv_istore (lv' := [(5, .int 2), (0, .ref b), (1, .ref (a 0)), (2, .ref (a2 0)), (3, .ref o), (4, .int (nI r))]) hx hb dL_law_1455 hl (by decide) rfl (fun ls hl => ?_)
      refine lv_aload_n hx hb dL_law_1457 rfl (lv_at hl 3 rfl) ?_
      refine lv_aload_n hx hb dL_law_1458 rfl (lv_at hl 1 rfl) ?_
      refine lv_iload hx hb dL_law_1459 (lv_at hl 5 rfl) ?_
      refine lv_iconst (v := 1) hx hb dL_law_1461 (by decide) ?_
      refine lv_iadd hx hb dL_law_1462 ?_
      refine w_sld hx hb hX hbl hbA hS hL (r + 1) (nI_1 r) (by omega) hx1 dL_law_1463 ?_
      refine lv_aload_n hx hb dL_law_1464 rfl (lv_at hl 1 rfl) ?_
      refine lv_iload hx hb dL_law_1465 (lv_at hl 5 rfl) ?_
      refine lv_iconst (v := 2) hx hb dL_law_1467 (by decide) ?_
      refine lv_iadd hx hb dL_law_1468 ?_
      refine w_sld hx hb hX hbl hbA hS hL (r + 2) (nI_add r 2) (by omega) hx2 dL_law_1469 ?_
      have hPM := wj_Pr hP
      have hDM := wj_Dr hD
      have hF := wj_Fr hD hS hA
      refine va_calli (va_runV (As := [.int (nI i), .int y]) (rest := []) hC (c_X1_wouldTell_b l H.size i hi hw y hbad) (cwV 2 hC.2.2.2.2 (gi_V mM_L_203 mV_X1_wouldTell mS_X1_wouldTell mI_MissRegistryModel mC_X1_wouldTell) rfl rfl rfl (by decide +kernel) ⟨Nat.le_of_ble_eq_true rfl, Nat.le_of_ble_eq_true rfl⟩) ⟨fun a1 U g mk q => ⟨q.1, q.2.1, ⟨q.2.2.1.1, va_K.moved (u := U) (U := U.calling g mk a1) (Vm.Alike.refl U.vm) q.2.2.1.2⟩, q.2.2.2⟩, va_recv hK2 hPM (ci := 1) (q0 := 0) rfl rfl, fun U hU hW => ⟨rfl, by rw [hU], ⟨by rw [hU]; exact hPM, va_K.moved hW.alike hK2⟩, hDM.weaken (fun _ _ _ _ => trivial)⟩⟩ rfl rfl hl.1 rfl (lv_room (Nat.le_of_ble_eq_true rfl)) dL_law_1470 ⟨(show _ ≤ 601024 by omega), (show _ ≤ 7293034 by omega)⟩) hS (fun q _ h => hF q h) hF (fun r7 u7 t H locs ht hvm hw7 hB hz9 hk9 hS9 => ?_)
      obtain ⟨hP1, hK1, hD1⟩ := hB
      rw [ht] at hP1
      obtain ⟨hP, hD⟩ := wj_r hP hD hk9 hF hP1 hD1
      have hP : va_P D vwCl (oW o cJ g (xW z a lv lk pu fa he n nv du ta w mp mi k nt fu re) ++ mW z2 a2 2 n w gn lk pu fa he nv of mp mi k nt fu re) H := hP
      have hD : va_D (nw s) (oW o cJ g (xW z a lv lk pu fa he n nv du ta w mp mi k nt fu re) ++ mW z2 a2 2 n w gn lk pu fa he nv of mp mi k nt fu re) := hD
      have hS := hS9
      rw [show r7 = 0 from hw7]
      refine lv_istore (lv' := [(6, .int 0), (5, .int 2), (0, .ref b), (1, .ref (a 0)), (2, .ref (a2 0)), (3, .ref o), (4, .int (nI r))]) hx hb dL_law_1473 hl (by decide) rfl (fun ls hl => ?_)
      refine lv_aload_n hx hb dL_law_1475 rfl (lv_at hl 4 rfl) ?_
      refine vp_callSi (W.runV (As := []) (rest := []) hC (c_X1_thrown l) (cwV 0 hC.2.2.2.2 (gi_V mM_L_106 mV_X1_thrown mS_X1_thrown mI_MissRegistryModel mC_X1_thrown) rfl rfl rfl (by decide +kernel) ⟨Nat.le_of_ble_eq_true rfl, Nat.le_of_ble_eq_true rfl⟩) (mpre hK2 (wj_Pr hP)) rfl rfl hl.1 rfl (lv_room (Nat.le_of_ble_eq_true rfl)) dL_law_1476 ⟨(show _ ≤ 601024 by omega), (show _ ≤ 7293034 by omega)⟩) (fun r8 hr8 => ?_)
      rw [show r8 = 2 from hr8]
      refine lv_iload hx hb dL_law_1479 (lv_at hl 1 rfl) ?_
      refine lv_icmp_eq (tgt := 1486) hx hb dL_law_1481 (by decide) (fun c_1481 => ?_) (fun c_1481 => ?_)
      · refine lv_iload hx hb dL_law_1486 (lv_at hl 1 rfl) ?_
        refine lv_if_ne (tgt := 1503) hx hb dL_law_1488 (by decide) (fun c_1488 => ?_) (fun c_1488 => ?_)
        · refine lv_goto (tgt := 1948) hx hb dL_law_1503 (by decide) ?_
          exact kk _ _ _ _ _ ⟨lv, lk, pu, fa, he, n, nv, du, ta, w, mp, mi, k, nt, fu, re, gn, of, 2, g, hI, hP, hD, hS⟩ (by omega) (by omega) (lv_sub hl [2, 3, 4, 5, 6] rfl)
        · exact absurd c_1488 (by decide)
      · exact absurd rfl c_1481
    · have h1 : ¬ y < 1 := fun q => hbad (Or.inl q)
      have h2 : y ≤ 60 := Classical.not_not.mp (fun q => hbad (Or.inr q))
      refine lv_aload_n hx hb dL_law_1438 rfl (lv_at hl 1 rfl) ?_
      refine lv_aload_n hx hb dL_law_1439 rfl (lv_at hl 0 rfl) ?_
      refine lv_iload hx hb dL_law_1440 (lv_at hl 4 rfl) ?_
      refine lv_iconst (v := 1) hx hb dL_law_1442 (by decide) ?_
      refine lv_iadd hx hb dL_law_1443 ?_
      refine w_sld hx hb hX hbl hbA hS hL (r + 1) (nI_1 r) (by omega) hx1 dL_law_1444 ?_
      refine lv_aload_n hx hb dL_law_1445 rfl (lv_at hl 0 rfl) ?_
      refine lv_iload hx hb dL_law_1446 (lv_at hl 4 rfl) ?_
      refine lv_iconst (v := 2) hx hb dL_law_1448 (by decide) ?_
      refine lv_iadd hx hb dL_law_1449 ?_
      refine w_sld hx hb hX hbl hbA hS hL (r + 2) (nI_add r 2) (by omega) hx2 dL_law_1450 ?_
      refine lv_aload_n hx hb dL_law_1451 rfl (lv_at hl 3 rfl) ?_
      have hPO := wj_Pl hP
      have hDO := wj_Dl hD
      have hF := wj_Fl hD hS hA
      refine va_calli (vx_runSW (As := [.ref (a 0), .int (nI i), .int y, .ref o]) (rest := []) hC (w_wouldTell l H.size i hi hw y h1 h2) (vx_cwSW 4 hC.2.2.2.2 (gi_S mM_L_201 mT_L_wouldTell mI_MissRegistryLaw mC_L_wouldTell) rfl rfl rfl (by decide +kernel) ⟨Nat.le_of_ble_eq_true rfl, Nat.le_of_ble_eq_true rfl⟩) ⟨fun a1 U g mk q => ⟨q.1, q.2.1, q.2.2.1, va_K.moved (u := U) (U := U.calling g mk a1) (Vm.Alike.refl U.vm) q.2.2.2.1, va_K.moved (u := U) (U := U.calling g mk a1) (Vm.Alike.refl U.vm) q.2.2.2.2.1, q.2.2.2.2.2⟩, fun U hU hW => ⟨rfl, by rw [hU], by rw [hU]; exact hPO, va_K.moved hW.alike hK, va_K.moved hW.alike hJ, hDO.weaken (fun _ _ _ _ => trivial)⟩⟩ rfl rfl hl.1 rfl (lv_room (Nat.le_of_ble_eq_true rfl)) dL_law_1452 ⟨(show _ ≤ 601024 by omega), (show _ ≤ 7293034 by omega)⟩) hS (fun q _ h => hF q h) hF (fun r9 u9 t H locs ht hvm hw9 hB hz9 hk9 hS9 => ?_)
      obtain ⟨hP1, hD1⟩ := hB
      rw [ht] at hP1
      obtain ⟨hP, hD⟩ := wj_l hP hD hk9 hF hP1 hD1
      obtain ⟨hr9, hu9⟩ := hw9
      rw [hr9]
      have hP : va_P D vwCl (oW o cJ u9 (xW z a lv lk pu fa he n nv du ta w mp mi k nt fu re) ++ mW z2 a2 th n w gn lk pu fa he nv of mp mi k nt fu re) H := hP
      have hD : va_D (nw s) (oW o cJ u9 (xW z a lv lk pu fa he n nv du ta w mp mi k nt fu re) ++ mW z2 a2 th n w gn lk pu fa he nv of mp mi k nt fu re) := hD
      have hS := hS9
      refine lv_istore (lv' := [(5, .int 0), (0, .ref b), (1, .ref (a 0)), (2, .ref (a2 0)), (3, .ref o), (4, .int (nI r))]) hx hb dL_law_1455 hl (by decide) rfl (fun ls hl => ?_)
      refine lv_aload_n hx hb dL_law_1457 rfl (lv_at hl 3 rfl) ?_
      refine lv_aload_n hx hb dL_law_1458 rfl (lv_at hl 1 rfl) ?_
      refine lv_iload hx hb dL_law_1459 (lv_at hl 5 rfl) ?_
      refine lv_iconst (v := 1) hx hb dL_law_1461 (by decide) ?_
      refine lv_iadd hx hb dL_law_1462 ?_
      refine w_sld hx hb hX hbl hbA hS hL (r + 1) (nI_1 r) (by omega) hx1 dL_law_1463 ?_
      refine lv_aload_n hx hb dL_law_1464 rfl (lv_at hl 1 rfl) ?_
      refine lv_iload hx hb dL_law_1465 (lv_at hl 5 rfl) ?_
      refine lv_iconst (v := 2) hx hb dL_law_1467 (by decide) ?_
      refine lv_iadd hx hb dL_law_1468 ?_
      refine w_sld hx hb hX hbl hbA hS hL (r + 2) (nI_add r 2) (by omega) hx2 dL_law_1469 ?_
      have hPM := wj_Pr hP
      have hDM := wj_Dr hD
      have hF := wj_Fr hD hS hA
      refine va_calli (va_runV (As := [.int (nI i), .int y]) (rest := []) hC (c_X1_wouldTell l H.size i hi hw y h1 h2) (cwV 2 hC.2.2.2.2 (gi_V mM_L_203 mV_X1_wouldTell mS_X1_wouldTell mI_MissRegistryModel mC_X1_wouldTell) rfl rfl rfl (by decide +kernel) ⟨Nat.le_of_ble_eq_true rfl, Nat.le_of_ble_eq_true rfl⟩) ⟨fun a1 U g mk q => ⟨q.1, q.2.1, ⟨q.2.2.1.1, va_K.moved (u := U) (U := U.calling g mk a1) (Vm.Alike.refl U.vm) q.2.2.1.2⟩, q.2.2.2⟩, va_recv hK2 hPM (ci := 1) (q0 := 0) rfl rfl, fun U hU hW => ⟨rfl, by rw [hU], ⟨by rw [hU]; exact hPM, va_K.moved hW.alike hK2⟩, hDM.weaken (fun _ _ _ _ => trivial)⟩⟩ rfl rfl hl.1 rfl (lv_room (Nat.le_of_ble_eq_true rfl)) dL_law_1470 ⟨(show _ ≤ 601024 by omega), (show _ ≤ 7293034 by omega)⟩) hS (fun q _ h => hF q h) hF (fun r7 u7 t H locs ht hvm hw7 hB hz9 hk9 hS9 => ?_)
      obtain ⟨hP1, hK1, hD1⟩ := hB
      rw [ht] at hP1
      obtain ⟨hP, hD⟩ := wj_r hP hD hk9 hF hP1 hD1
      have hP : va_P D vwCl (oW o cJ u9 (xW z a lv lk pu fa he n nv du ta w mp mi k nt fu re) ++ mW z2 a2 0 n w gn lk pu fa he nv of mp mi k nt fu re) H := hP
      have hD : va_D (nw s) (oW o cJ u9 (xW z a lv lk pu fa he n nv du ta w mp mi k nt fu re) ++ mW z2 a2 0 n w gn lk pu fa he nv of mp mi k nt fu re) := hD
      have hS := hS9
      rw [show r7 = sp_tale (nv i) y from hw7]
      refine lv_istore (lv' := [(6, .int (sp_tale (nv i) y)), (5, .int 0), (0, .ref b), (1, .ref (a 0)), (2, .ref (a2 0)), (3, .ref o), (4, .int (nI r))]) hx hb dL_law_1473 hl (by decide) rfl (fun ls hl => ?_)
      refine lv_aload_n hx hb dL_law_1475 rfl (lv_at hl 4 rfl) ?_
      refine vp_callSi (W.runV (As := []) (rest := []) hC (c_X1_thrown l) (cwV 0 hC.2.2.2.2 (gi_V mM_L_106 mV_X1_thrown mS_X1_thrown mI_MissRegistryModel mC_X1_thrown) rfl rfl rfl (by decide +kernel) ⟨Nat.le_of_ble_eq_true rfl, Nat.le_of_ble_eq_true rfl⟩) (mpre hK2 (wj_Pr hP)) rfl rfl hl.1 rfl (lv_room (Nat.le_of_ble_eq_true rfl)) dL_law_1476 ⟨(show _ ≤ 601024 by omega), (show _ ≤ 7293034 by omega)⟩) (fun r8 hr8 => ?_)
      rw [show r8 = 0 from hr8]
      refine lv_iload hx hb dL_law_1479 (lv_at hl 1 rfl) ?_
      refine lv_icmp_eq (tgt := 1486) hx hb dL_law_1481 (by decide) (fun c_1481 => ?_) (fun c_1481 => ?_)
      · refine lv_iload hx hb dL_law_1486 (lv_at hl 1 rfl) ?_
        refine lv_if_ne (tgt := 1503) hx hb dL_law_1488 (by decide) (fun c_1488 => ?_) (fun c_1488 => ?_)
        · exact absurd rfl c_1488
        · refine lv_aload_n hx hb dL_law_1491 rfl (lv_at hl 5 rfl) ?_
          refine lv_iconst (v := 0) hx hb dL_law_1492 (by decide) ?_
          refine w_lald hC hJ (wj_Pl hP) dL_law_1493 ?_
          refine lv_iload hx hb dL_law_1494 (lv_at hl 0 rfl) ?_
          refine lv_i2l hx hb dL_law_1496 rfl ?_
          refine w_lcmp hx hb dL_law_1497 hu9 ?_
          refine lv_if_eq (tgt := 1503) hx hb dL_law_1498 (by decide) (fun c_1498 => ?_) (fun c_1498 => ?_)
          · refine lv_goto (tgt := 1948) hx hb dL_law_1503 (by decide) ?_
            exact kk _ _ _ _ _ ⟨lv, lk, pu, fa, he, n, nv, du, ta, w, mp, mi, k, nt, fu, re, gn, of, 0, u9, hI, hP, hD, hS⟩ (by omega) (by omega) (lv_sub hl [2, 3, 4, 5, 6] rfl)
          · exact absurd rfl c_1498
      · exact absurd rfl c_1481
set_option maxHeartbeats 8000000 in
set_option maxRecDepth 100000 in
theorem lc_29 {p : Program} {l : Launch} {e : Env} {s : State} {m : MethodId} {below : List Frame} {meth : Method} {c : Code} {H : Heap} {locs : List Loc} {cells slots : Nat} {Q : State → Prop} {ls : Array Slot} {b L : Nat} {xs : Nat → Int32} {D : va_G} {z z2 : ClassId × ClassId} {cJ : ClassId} {q9 t9 a a2 : Nat → Nat} {o : Nat} {lv lk pu fa he : Nat → Int32} {n : Nat} {nv du ta : Nat → Int32} {w : Nat} {mp mi : Nat → Int32} {k : Nat} {nt fu re : Int32} {gn of : Nat → Int32} {th : Int32} {g : Nat → Int64} {r : Nat} (X : LX p l s m c b L xs D z z2 cJ q9 t9) (hI : IV lv lk fa he n nv du w k gn of) (hP : va_P D vwCl (oW o cJ g (xW z a lv lk pu fa he n nv du ta w mp mi k nt fu re) ++ mW z2 a2 th n w gn lk pu fa he nv of mp mi k nt fu re) H) (hD : va_D (nw s) (oW o cJ g (xW z a lv lk pu fa he n nv du ta w mp mi k nt fu re) ++ mW z2 a2 th n w gn lk pu fa he nv of mp mi k nt fu re)) (hS : va_S (nw s) s.heap H locs) (hcl : cells + 12 ≤ 601024) (hsl : slots + 100 ≤ 7293034) (hr : r + 2 < L) (hl : lv_has ls 9 [(0, .ref b), (1, .ref (a 0)), (2, .ref (a2 0)), (3, .ref o), (4, .int (nI r))]) (kk : ∀ (H1 : Heap) (locs1 : List Loc) (c1 s1 : Nat) (ls1 : Array Slot), Jn D z z2 cJ a a2 o s H1 locs1 → c1 ≤ cells + 11 → s1 ≤ slots + 94 → lv_has ls1 9 [(0, .ref b), (1, .ref (a 0)), (2, .ref (a2 0)), (3, .ref o), (4, .int (nI r))] → W p l e room_1 s m #[.ref b] below meth c H1 locs1 c1 s1 Q (F0 m 1948 ls1 [])) : W p l e room_1 s m #[.ref b] below meth c H locs cells slots Q (F0 m 1506 ls []) := by
  obtain ⟨hC, hst, ⟨hX, hbl, hL⟩, ⟨hK, hK2, hJ⟩, hT, hN, hE⟩ := X
  have hx := hC.1
  have hb := hC.2.1
  have hA : ∀ q : Nat, s.heap.size ≤ q → nw s q := fun q h => h
  have hbA : ¬ nw s b := Nat.not_le.mpr hbl
  have hn := hI.1.1
  have hw := hI.1.2.1
  have hk := hI.1.2.2
  obtain ⟨x, hx1⟩ : ∃ x : Int32, xs (r + 1) = x := ⟨_, rfl⟩
  obtain ⟨y, hx2⟩ : ∃ y : Int32, xs (r + 2) = y := ⟨_, rfl⟩
  by_cases hp : sp_isP k x = 0
  · refine lv_aload_n hx hb dL_law_1506 rfl (lv_at hl 1 rfl) ?_
    refine lv_aload_n hx hb dL_law_1507 rfl (lv_at hl 0 rfl) ?_
    refine lv_iload hx hb dL_law_1508 (lv_at hl 4 rfl) ?_
    refine lv_iconst (v := 1) hx hb dL_law_1510 (by decide) ?_
    refine lv_iadd hx hb dL_law_1511 ?_
    refine w_sld hx hb hX hbl hbA hS hL (r + 1) (nI_1 r) (by omega) hx1 dL_law_1512 ?_
    refine lv_aload_n hx hb dL_law_1513 rfl (lv_at hl 3 rfl) ?_
    have hPO := wj_Pl hP
    have hDO := wj_Dl hD
    have hF := wj_Fl hD hS hA
    refine va_calli (vx_runSW (As := [.ref (a 0), .int x, .ref o]) (rest := []) hC (w_personOf_a l hst H.size x hp) (vx_cwSW 3 hC.2.2.2.2 (gi_S mM_L_204 mT_L_personOf mI_MissRegistryLaw mC_L_personOf) rfl rfl rfl (by decide +kernel) ⟨Nat.le_of_ble_eq_true rfl, Nat.le_of_ble_eq_true rfl⟩) ⟨fun a1 U g mk q => ⟨q.1, q.2.1, q.2.2.1, va_K.moved (u := U) (U := U.calling g mk a1) (Vm.Alike.refl U.vm) q.2.2.2.1, va_K.moved (u := U) (U := U.calling g mk a1) (Vm.Alike.refl U.vm) q.2.2.2.2.1, ⟨q.2.2.2.2.2.1, tH.same (u := U) (U := U.calling g mk a1) rfl q.2.2.2.2.2.2.1, tN.moved (u := U) (U := U.calling g mk a1) (Vm.Alike.refl U.vm) q.2.2.2.2.2.2.2⟩⟩, fun U hU hW => ⟨rfl, by rw [hU], by rw [hU]; exact hPO, va_K.moved hW.alike hK, va_K.moved hW.alike hJ, hDO.weaken (fun _ _ _ _ => trivial), by rw [hU]; exact (hT.at hS).warm hW, hN.moved hW.alike⟩⟩ rfl rfl hl.1 rfl (lv_room (Nat.le_of_ble_eq_true rfl)) dL_law_1514 ⟨(show _ ≤ 601024 by omega), (show _ ≤ 7293034 by omega)⟩) hS (fun q _ h => hF q h) hF (fun r9 u9 t H locs ht hvm hw9 hB hz9 hk9 hS9 => ?_)
    obtain ⟨hP1, hD1⟩ := hB
    rw [ht] at hP1
    obtain ⟨hP, hD⟩ := wj_l hP hD hk9 hF hP1 hD1
    rw [show r9 = 1 from hw9]
    have hP : va_P D vwCl (oW o cJ g (xW z a lv lk pu fa he n nv du ta w mp mi k nt fu re) ++ mW z2 a2 th n w gn lk pu fa he nv of mp mi k nt fu re) H := hP
    have hD : va_D (nw s) (oW o cJ g (xW z a lv lk pu fa he n nv du ta w mp mi k nt fu re) ++ mW z2 a2 th n w gn lk pu fa he nv of mp mi k nt fu re) := hD
    have hS := hS9
    refine lv_istore (lv' := [(5, .int 1), (0, .ref b), (1, .ref (a 0)), (2, .ref (a2 0)), (3, .ref o), (4, .int (nI r))]) hx hb dL_law_1517 hl (by decide) rfl (fun ls hl => ?_)
    refine lv_aload_n hx hb dL_law_1519 rfl (lv_at hl 3 rfl) ?_
    refine lv_aload_n hx hb dL_law_1520 rfl (lv_at hl 1 rfl) ?_
    refine lv_iload hx hb dL_law_1521 (lv_at hl 5 rfl) ?_
    refine lv_iconst (v := 1) hx hb dL_law_1523 (by decide) ?_
    refine lv_iadd hx hb dL_law_1524 ?_
    refine w_sld hx hb hX hbl hbA hS hL (r + 1) (nI_1 r) (by omega) hx1 dL_law_1525 ?_
    have hPM := wj_Pr hP
    have hDM := wj_Dr hD
    have hF := wj_Fr hD hS hA
    refine va_calli (va_runV (As := [.int x]) (rest := []) hC (c_X1_personOf_a l H.size x hk hp) (cwV 1 hC.2.2.2.2 (gi_V mM_L_206 mV_X1_personOf mS_X1_personOf mI_MissRegistryModel mC_X1_personOf) rfl rfl rfl (by decide +kernel) ⟨Nat.le_of_ble_eq_true rfl, Nat.le_of_ble_eq_true rfl⟩) ⟨fun a1 U g mk q => ⟨q.1, q.2.1, ⟨q.2.2.1.1, va_K.moved (u := U) (U := U.calling g mk a1) (Vm.Alike.refl U.vm) q.2.2.1.2⟩, q.2.2.2⟩, va_recv hK2 hPM (ci := 1) (q0 := 0) rfl rfl, fun U hU hW => ⟨rfl, by rw [hU], ⟨by rw [hU]; exact hPM, va_K.moved hW.alike hK2⟩, hDM.weaken (fun _ _ _ _ => trivial)⟩⟩ rfl rfl hl.1 rfl (lv_room (Nat.le_of_ble_eq_true rfl)) dL_law_1526 ⟨(show _ ≤ 601024 by omega), (show _ ≤ 7293034 by omega)⟩) hS (fun q _ h => hF q h) hF (fun r7 u7 t H locs ht hvm hw7 hB hz9 hk9 hS9 => ?_)
    obtain ⟨hP1, hK1, hD1⟩ := hB
    rw [ht] at hP1
    obtain ⟨hP, hD⟩ := wj_r hP hD hk9 hF hP1 hD1
    have hP : va_P D vwCl (oW o cJ g (xW z a lv lk pu fa he n nv du ta w mp mi k nt fu re) ++ mW z2 a2 1 n w gn lk pu fa he nv of mp mi k nt fu re) H := hP
    have hD : va_D (nw s) (oW o cJ g (xW z a lv lk pu fa he n nv du ta w mp mi k nt fu re) ++ mW z2 a2 1 n w gn lk pu fa he nv of mp mi k nt fu re) := hD
    have hS := hS9
    rw [show r7 = 0 from hw7]
    refine lv_istore (lv' := [(6, .int 0), (5, .int 1), (0, .ref b), (1, .ref (a 0)), (2, .ref (a2 0)), (3, .ref o), (4, .int (nI r))]) hx hb dL_law_1529 hl (by decide) rfl (fun ls hl => ?_)
    refine lv_aload_n hx hb dL_law_1531 rfl (lv_at hl 4 rfl) ?_
    refine vp_callSi (W.runV (As := []) (rest := []) hC (c_X1_thrown l) (cwV 0 hC.2.2.2.2 (gi_V mM_L_106 mV_X1_thrown mS_X1_thrown mI_MissRegistryModel mC_X1_thrown) rfl rfl rfl (by decide +kernel) ⟨Nat.le_of_ble_eq_true rfl, Nat.le_of_ble_eq_true rfl⟩) (mpre hK2 (wj_Pr hP)) rfl rfl hl.1 rfl (lv_room (Nat.le_of_ble_eq_true rfl)) dL_law_1532 ⟨(show _ ≤ 601024 by omega), (show _ ≤ 7293034 by omega)⟩) (fun r8 hr8 => ?_)
    rw [show r8 = 1 from hr8]
    refine lv_iload hx hb dL_law_1535 (lv_at hl 1 rfl) ?_
    refine lv_icmp_eq (tgt := 1542) hx hb dL_law_1537 (by decide) (fun c_1537 => ?_) (fun c_1537 => ?_)
    · refine lv_iload hx hb dL_law_1542 (lv_at hl 1 rfl) ?_
      refine lv_if_ne (tgt := 1559) hx hb dL_law_1544 (by decide) (fun c_1544 => ?_) (fun c_1544 => ?_)
      · refine lv_goto (tgt := 1948) hx hb dL_law_1559 (by decide) ?_
        exact kk _ _ _ _ _ ⟨lv, lk, pu, fa, he, n, nv, du, ta, w, mp, mi, k, nt, fu, re, gn, of, 1, g, hI, hP, hD, hS⟩ (by omega) (by omega) (lv_sub hl [2, 3, 4, 5, 6] rfl)
      · exact absurd c_1544 (by decide)
    · exact absurd rfl c_1537
  · obtain ⟨i, hi, exi⟩ := isP_ex (by omega) hp
    subst exi
    refine lv_aload_n hx hb dL_law_1506 rfl (lv_at hl 1 rfl) ?_
    refine lv_aload_n hx hb dL_law_1507 rfl (lv_at hl 0 rfl) ?_
    refine lv_iload hx hb dL_law_1508 (lv_at hl 4 rfl) ?_
    refine lv_iconst (v := 1) hx hb dL_law_1510 (by decide) ?_
    refine lv_iadd hx hb dL_law_1511 ?_
    refine w_sld hx hb hX hbl hbA hS hL (r + 1) (nI_1 r) (by omega) hx1 dL_law_1512 ?_
    refine lv_aload_n hx hb dL_law_1513 rfl (lv_at hl 3 rfl) ?_
    have hPO := wj_Pl hP
    have hDO := wj_Dl hD
    have hF := wj_Fl hD hS hA
    refine va_calli (vx_runSW (As := [.ref (a 0), .int (nI i), .ref o]) (rest := []) hC (w_personOf l H.size i hi hk) (vx_cwSW 3 hC.2.2.2.2 (gi_S mM_L_204 mT_L_personOf mI_MissRegistryLaw mC_L_personOf) rfl rfl rfl (by decide +kernel) ⟨Nat.le_of_ble_eq_true rfl, Nat.le_of_ble_eq_true rfl⟩) ⟨fun a1 U g mk q => ⟨q.1, q.2.1, q.2.2.1, va_K.moved (u := U) (U := U.calling g mk a1) (Vm.Alike.refl U.vm) q.2.2.2.1, va_K.moved (u := U) (U := U.calling g mk a1) (Vm.Alike.refl U.vm) q.2.2.2.2.1, q.2.2.2.2.2⟩, fun U hU hW => ⟨rfl, by rw [hU], by rw [hU]; exact hPO, va_K.moved hW.alike hK, va_K.moved hW.alike hJ, hDO.weaken (fun _ _ _ _ => trivial)⟩⟩ rfl rfl hl.1 rfl (lv_room (Nat.le_of_ble_eq_true rfl)) dL_law_1514 ⟨(show _ ≤ 601024 by omega), (show _ ≤ 7293034 by omega)⟩) hS (fun q _ h => hF q h) hF (fun r9 u9 t H locs ht hvm hw9 hB hz9 hk9 hS9 => ?_)
    obtain ⟨hP1, hD1⟩ := hB
    rw [ht] at hP1
    obtain ⟨hP, hD⟩ := wj_l hP hD hk9 hF hP1 hD1
    obtain ⟨hr9, hu9⟩ := hw9
    rw [hr9]
    have hP : va_P D vwCl (oW o cJ u9 (xW z a lv lk pu fa he n nv du ta w mp mi k nt fu re) ++ mW z2 a2 th n w gn lk pu fa he nv of mp mi k nt fu re) H := hP
    have hD : va_D (nw s) (oW o cJ u9 (xW z a lv lk pu fa he n nv du ta w mp mi k nt fu re) ++ mW z2 a2 th n w gn lk pu fa he nv of mp mi k nt fu re) := hD
    have hS := hS9
    refine lv_istore (lv' := [(5, .int 0), (0, .ref b), (1, .ref (a 0)), (2, .ref (a2 0)), (3, .ref o), (4, .int (nI r))]) hx hb dL_law_1517 hl (by decide) rfl (fun ls hl => ?_)
    refine lv_aload_n hx hb dL_law_1519 rfl (lv_at hl 3 rfl) ?_
    refine lv_aload_n hx hb dL_law_1520 rfl (lv_at hl 1 rfl) ?_
    refine lv_iload hx hb dL_law_1521 (lv_at hl 5 rfl) ?_
    refine lv_iconst (v := 1) hx hb dL_law_1523 (by decide) ?_
    refine lv_iadd hx hb dL_law_1524 ?_
    refine w_sld hx hb hX hbl hbA hS hL (r + 1) (nI_1 r) (by omega) hx1 dL_law_1525 ?_
    have hPM := wj_Pr hP
    have hDM := wj_Dr hD
    have hF := wj_Fr hD hS hA
    refine va_calli (va_runV (As := [.int (nI i)]) (rest := []) hC (c_X1_personOf l H.size i hi hk) (cwV 1 hC.2.2.2.2 (gi_V mM_L_206 mV_X1_personOf mS_X1_personOf mI_MissRegistryModel mC_X1_personOf) rfl rfl rfl (by decide +kernel) ⟨Nat.le_of_ble_eq_true rfl, Nat.le_of_ble_eq_true rfl⟩) ⟨fun a1 U g mk q => ⟨q.1, q.2.1, ⟨q.2.2.1.1, va_K.moved (u := U) (U := U.calling g mk a1) (Vm.Alike.refl U.vm) q.2.2.1.2⟩, q.2.2.2⟩, va_recv hK2 hPM (ci := 1) (q0 := 0) rfl rfl, fun U hU hW => ⟨rfl, by rw [hU], ⟨by rw [hU]; exact hPM, va_K.moved hW.alike hK2⟩, hDM.weaken (fun _ _ _ _ => trivial)⟩⟩ rfl rfl hl.1 rfl (lv_room (Nat.le_of_ble_eq_true rfl)) dL_law_1526 ⟨(show _ ≤ 601024 by omega), (show _ ≤ 7293034 by omega)⟩) hS (fun q _ h => hF q h) hF (fun r7 u7 t H locs ht hvm hw7 hB hz9 hk9 hS9 => ?_)
    obtain ⟨hP1, hK1, hD1⟩ := hB
    rw [ht] at hP1
    obtain ⟨hP, hD⟩ := wj_r hP hD hk9 hF hP1 hD1
    have hP : va_P D vwCl (oW o cJ u9 (xW z a lv lk pu fa he n nv du ta w mp mi k nt fu re) ++ mW z2 a2 0 n w gn lk pu fa he nv of mp mi k nt fu re) H := hP
    have hD : va_D (nw s) (oW o cJ u9 (xW z a lv lk pu fa he n nv du ta w mp mi k nt fu re) ++ mW z2 a2 0 n w gn lk pu fa he nv of mp mi k nt fu re) := hD
    have hS := hS9
    rw [show r7 = mp i from hw7]
    refine lv_istore (lv' := [(6, .int (mp i)), (5, .int 0), (0, .ref b), (1, .ref (a 0)), (2, .ref (a2 0)), (3, .ref o), (4, .int (nI r))]) hx hb dL_law_1529 hl (by decide) rfl (fun ls hl => ?_)
    refine lv_aload_n hx hb dL_law_1531 rfl (lv_at hl 4 rfl) ?_
    refine vp_callSi (W.runV (As := []) (rest := []) hC (c_X1_thrown l) (cwV 0 hC.2.2.2.2 (gi_V mM_L_106 mV_X1_thrown mS_X1_thrown mI_MissRegistryModel mC_X1_thrown) rfl rfl rfl (by decide +kernel) ⟨Nat.le_of_ble_eq_true rfl, Nat.le_of_ble_eq_true rfl⟩) (mpre hK2 (wj_Pr hP)) rfl rfl hl.1 rfl (lv_room (Nat.le_of_ble_eq_true rfl)) dL_law_1532 ⟨(show _ ≤ 601024 by omega), (show _ ≤ 7293034 by omega)⟩) (fun r8 hr8 => ?_)
    rw [show r8 = 0 from hr8]
    refine lv_iload hx hb dL_law_1535 (lv_at hl 1 rfl) ?_
    refine lv_icmp_eq (tgt := 1542) hx hb dL_law_1537 (by decide) (fun c_1537 => ?_) (fun c_1537 => ?_)
    · refine lv_iload hx hb dL_law_1542 (lv_at hl 1 rfl) ?_
      refine lv_if_ne (tgt := 1559) hx hb dL_law_1544 (by decide) (fun c_1544 => ?_) (fun c_1544 => ?_)
      · exact absurd rfl c_1544
      · refine lv_aload_n hx hb dL_law_1547 rfl (lv_at hl 5 rfl) ?_
        refine lv_iconst (v := 0) hx hb dL_law_1548 (by decide) ?_
        refine w_lald hC hJ (wj_Pl hP) dL_law_1549 ?_
        refine lv_iload hx hb dL_law_1550 (lv_at hl 0 rfl) ?_
        refine lv_i2l hx hb dL_law_1552 rfl ?_
        refine w_lcmp hx hb dL_law_1553 hu9 ?_
        refine lv_if_eq (tgt := 1559) hx hb dL_law_1554 (by decide) (fun c_1554 => ?_) (fun c_1554 => ?_)
        · refine lv_goto (tgt := 1948) hx hb dL_law_1559 (by decide) ?_
          exact kk _ _ _ _ _ ⟨lv, lk, pu, fa, he, n, nv, du, ta, w, mp, mi, k, nt, fu, re, gn, of, 0, u9, hI, hP, hD, hS⟩ (by omega) (by omega) (lv_sub hl [2, 3, 4, 5, 6] rfl)
        · exact absurd rfl c_1554
    · exact absurd rfl c_1537
set_option maxHeartbeats 8000000 in
set_option maxRecDepth 100000 in
theorem lc_30 {p : Program} {l : Launch} {e : Env} {s : State} {m : MethodId} {below : List Frame} {meth : Method} {c : Code} {H : Heap} {locs : List Loc} {cells slots : Nat} {Q : State → Prop} {ls : Array Slot} {b L : Nat} {xs : Nat → Int32} {D : va_G} {z z2 : ClassId × ClassId} {cJ : ClassId} {q9 t9 a a2 : Nat → Nat} {o : Nat} {lv lk pu fa he : Nat → Int32} {n : Nat} {nv du ta : Nat → Int32} {w : Nat} {mp mi : Nat → Int32} {k : Nat} {nt fu re : Int32} {gn of : Nat → Int32} {th : Int32} {g : Nat → Int64} {r : Nat} (X : LX p l s m c b L xs D z z2 cJ q9 t9) (hI : IV lv lk fa he n nv du w k gn of) (hP : va_P D vwCl (oW o cJ g (xW z a lv lk pu fa he n nv du ta w mp mi k nt fu re) ++ mW z2 a2 th n w gn lk pu fa he nv of mp mi k nt fu re) H) (hD : va_D (nw s) (oW o cJ g (xW z a lv lk pu fa he n nv du ta w mp mi k nt fu re) ++ mW z2 a2 th n w gn lk pu fa he nv of mp mi k nt fu re)) (hS : va_S (nw s) s.heap H locs) (hcl : cells + 12 ≤ 601024) (hsl : slots + 100 ≤ 7293034) (hr : r + 2 < L) (hl : lv_has ls 9 [(0, .ref b), (1, .ref (a 0)), (2, .ref (a2 0)), (3, .ref o), (4, .int (nI r))]) (kk : ∀ (H1 : Heap) (locs1 : List Loc) (c1 s1 : Nat) (ls1 : Array Slot), Jn D z z2 cJ a a2 o s H1 locs1 → c1 ≤ cells + 11 → s1 ≤ slots + 94 → lv_has ls1 9 [(0, .ref b), (1, .ref (a 0)), (2, .ref (a2 0)), (3, .ref o), (4, .int (nI r))] → W p l e room_1 s m #[.ref b] below meth c H1 locs1 c1 s1 Q (F0 m 1948 ls1 [])) : W p l e room_1 s m #[.ref b] below meth c H locs cells slots Q (F0 m 1562 ls []) := by
  obtain ⟨hC, hst, ⟨hX, hbl, hL⟩, ⟨hK, hK2, hJ⟩, hT, hN, hE⟩ := X
  have hx := hC.1
  have hb := hC.2.1
  have hA : ∀ q : Nat, s.heap.size ≤ q → nw s q := fun q h => h
  have hbA : ¬ nw s b := Nat.not_le.mpr hbl
  have hn := hI.1.1
  have hw := hI.1.2.1
  have hk := hI.1.2.2
  obtain ⟨x, hx1⟩ : ∃ x : Int32, xs (r + 1) = x := ⟨_, rfl⟩
  obtain ⟨y, hx2⟩ : ∃ y : Int32, xs (r + 2) = y := ⟨_, rfl⟩
  by_cases hp : sp_isP k x = 0
  · refine lv_aload_n hx hb dL_law_1562 rfl (lv_at hl 1 rfl) ?_
    refine lv_aload_n hx hb dL_law_1563 rfl (lv_at hl 0 rfl) ?_
    refine lv_iload hx hb dL_law_1564 (lv_at hl 4 rfl) ?_
    refine lv_iconst (v := 1) hx hb dL_law_1566 (by decide) ?_
    refine lv_iadd hx hb dL_law_1567 ?_
    refine w_sld hx hb hX hbl hbA hS hL (r + 1) (nI_1 r) (by omega) hx1 dL_law_1568 ?_
    refine lv_aload_n hx hb dL_law_1569 rfl (lv_at hl 3 rfl) ?_
    have hPO := wj_Pl hP
    have hDO := wj_Dl hD
    have hF := wj_Fl hD hS hA
    refine va_calli (vx_runSW (As := [.ref (a 0), .int x, .ref o]) (rest := []) hC (w_inchesOf_a l hst H.size x hp) (vx_cwSW 3 hC.2.2.2.2 (gi_S mM_L_207 mT_L_inchesOf mI_MissRegistryLaw mC_L_inchesOf) rfl rfl rfl (by decide +kernel) ⟨Nat.le_of_ble_eq_true rfl, Nat.le_of_ble_eq_true rfl⟩) ⟨fun a1 U g mk q => ⟨q.1, q.2.1, q.2.2.1, va_K.moved (u := U) (U := U.calling g mk a1) (Vm.Alike.refl U.vm) q.2.2.2.1, va_K.moved (u := U) (U := U.calling g mk a1) (Vm.Alike.refl U.vm) q.2.2.2.2.1, ⟨q.2.2.2.2.2.1, tH.same (u := U) (U := U.calling g mk a1) rfl q.2.2.2.2.2.2.1, tN.moved (u := U) (U := U.calling g mk a1) (Vm.Alike.refl U.vm) q.2.2.2.2.2.2.2⟩⟩, fun U hU hW => ⟨rfl, by rw [hU], by rw [hU]; exact hPO, va_K.moved hW.alike hK, va_K.moved hW.alike hJ, hDO.weaken (fun _ _ _ _ => trivial), by rw [hU]; exact (hT.at hS).warm hW, hN.moved hW.alike⟩⟩ rfl rfl hl.1 rfl (lv_room (Nat.le_of_ble_eq_true rfl)) dL_law_1570 ⟨(show _ ≤ 601024 by omega), (show _ ≤ 7293034 by omega)⟩) hS (fun q _ h => hF q h) hF (fun r9 u9 t H locs ht hvm hw9 hB hz9 hk9 hS9 => ?_)
    obtain ⟨hP1, hD1⟩ := hB
    rw [ht] at hP1
    obtain ⟨hP, hD⟩ := wj_l hP hD hk9 hF hP1 hD1
    rw [show r9 = 1 from hw9]
    have hP : va_P D vwCl (oW o cJ g (xW z a lv lk pu fa he n nv du ta w mp mi k nt fu re) ++ mW z2 a2 th n w gn lk pu fa he nv of mp mi k nt fu re) H := hP
    have hD : va_D (nw s) (oW o cJ g (xW z a lv lk pu fa he n nv du ta w mp mi k nt fu re) ++ mW z2 a2 th n w gn lk pu fa he nv of mp mi k nt fu re) := hD
    have hS := hS9
    refine lv_istore (lv' := [(5, .int 1), (0, .ref b), (1, .ref (a 0)), (2, .ref (a2 0)), (3, .ref o), (4, .int (nI r))]) hx hb dL_law_1573 hl (by decide) rfl (fun ls hl => ?_)
    refine lv_aload_n hx hb dL_law_1575 rfl (lv_at hl 3 rfl) ?_
    refine lv_aload_n hx hb dL_law_1576 rfl (lv_at hl 1 rfl) ?_
    refine lv_iload hx hb dL_law_1577 (lv_at hl 5 rfl) ?_
    refine lv_iconst (v := 1) hx hb dL_law_1579 (by decide) ?_
    refine lv_iadd hx hb dL_law_1580 ?_
    refine w_sld hx hb hX hbl hbA hS hL (r + 1) (nI_1 r) (by omega) hx1 dL_law_1581 ?_
    have hPM := wj_Pr hP
    have hDM := wj_Dr hD
    have hF := wj_Fr hD hS hA
    refine va_calli (va_runV (As := [.int x]) (rest := []) hC (c_X1_inchesOf_a l H.size x hk hp) (cwV 1 hC.2.2.2.2 (gi_V mM_L_209 mV_X1_inchesOf mS_X1_inchesOf mI_MissRegistryModel mC_X1_inchesOf) rfl rfl rfl (by decide +kernel) ⟨Nat.le_of_ble_eq_true rfl, Nat.le_of_ble_eq_true rfl⟩) ⟨fun a1 U g mk q => ⟨q.1, q.2.1, ⟨q.2.2.1.1, va_K.moved (u := U) (U := U.calling g mk a1) (Vm.Alike.refl U.vm) q.2.2.1.2⟩, q.2.2.2⟩, va_recv hK2 hPM (ci := 1) (q0 := 0) rfl rfl, fun U hU hW => ⟨rfl, by rw [hU], ⟨by rw [hU]; exact hPM, va_K.moved hW.alike hK2⟩, hDM.weaken (fun _ _ _ _ => trivial)⟩⟩ rfl rfl hl.1 rfl (lv_room (Nat.le_of_ble_eq_true rfl)) dL_law_1582 ⟨(show _ ≤ 601024 by omega), (show _ ≤ 7293034 by omega)⟩) hS (fun q _ h => hF q h) hF (fun r7 u7 t H locs ht hvm hw7 hB hz9 hk9 hS9 => ?_)
    obtain ⟨hP1, hK1, hD1⟩ := hB
    rw [ht] at hP1
    obtain ⟨hP, hD⟩ := wj_r hP hD hk9 hF hP1 hD1
    have hP : va_P D vwCl (oW o cJ g (xW z a lv lk pu fa he n nv du ta w mp mi k nt fu re) ++ mW z2 a2 1 n w gn lk pu fa he nv of mp mi k nt fu re) H := hP
    have hD : va_D (nw s) (oW o cJ g (xW z a lv lk pu fa he n nv du ta w mp mi k nt fu re) ++ mW z2 a2 1 n w gn lk pu fa he nv of mp mi k nt fu re) := hD
    have hS := hS9
    rw [show r7 = 0 from hw7]
    refine lv_istore (lv' := [(6, .int 0), (5, .int 1), (0, .ref b), (1, .ref (a 0)), (2, .ref (a2 0)), (3, .ref o), (4, .int (nI r))]) hx hb dL_law_1585 hl (by decide) rfl (fun ls hl => ?_)
    refine lv_aload_n hx hb dL_law_1587 rfl (lv_at hl 4 rfl) ?_
    refine vp_callSi (W.runV (As := []) (rest := []) hC (c_X1_thrown l) (cwV 0 hC.2.2.2.2 (gi_V mM_L_106 mV_X1_thrown mS_X1_thrown mI_MissRegistryModel mC_X1_thrown) rfl rfl rfl (by decide +kernel) ⟨Nat.le_of_ble_eq_true rfl, Nat.le_of_ble_eq_true rfl⟩) (mpre hK2 (wj_Pr hP)) rfl rfl hl.1 rfl (lv_room (Nat.le_of_ble_eq_true rfl)) dL_law_1588 ⟨(show _ ≤ 601024 by omega), (show _ ≤ 7293034 by omega)⟩) (fun r8 hr8 => ?_)
    rw [show r8 = 1 from hr8]
    refine lv_iload hx hb dL_law_1591 (lv_at hl 1 rfl) ?_
    refine lv_icmp_eq (tgt := 1598) hx hb dL_law_1593 (by decide) (fun c_1593 => ?_) (fun c_1593 => ?_)
    · refine lv_iload hx hb dL_law_1598 (lv_at hl 1 rfl) ?_
      refine lv_if_ne (tgt := 1615) hx hb dL_law_1600 (by decide) (fun c_1600 => ?_) (fun c_1600 => ?_)
      · refine lv_goto (tgt := 1948) hx hb dL_law_1615 (by decide) ?_
        exact kk _ _ _ _ _ ⟨lv, lk, pu, fa, he, n, nv, du, ta, w, mp, mi, k, nt, fu, re, gn, of, 1, g, hI, hP, hD, hS⟩ (by omega) (by omega) (lv_sub hl [2, 3, 4, 5, 6] rfl)
      · exact absurd c_1600 (by decide)
    · exact absurd rfl c_1593
  · obtain ⟨i, hi, exi⟩ := isP_ex (by omega) hp
    subst exi
    refine lv_aload_n hx hb dL_law_1562 rfl (lv_at hl 1 rfl) ?_
    refine lv_aload_n hx hb dL_law_1563 rfl (lv_at hl 0 rfl) ?_
    refine lv_iload hx hb dL_law_1564 (lv_at hl 4 rfl) ?_
    refine lv_iconst (v := 1) hx hb dL_law_1566 (by decide) ?_
    refine lv_iadd hx hb dL_law_1567 ?_
    refine w_sld hx hb hX hbl hbA hS hL (r + 1) (nI_1 r) (by omega) hx1 dL_law_1568 ?_
    refine lv_aload_n hx hb dL_law_1569 rfl (lv_at hl 3 rfl) ?_
    have hPO := wj_Pl hP
    have hDO := wj_Dl hD
    have hF := wj_Fl hD hS hA
    refine va_calli (vx_runSW (As := [.ref (a 0), .int (nI i), .ref o]) (rest := []) hC (w_inchesOf l H.size i hi hk) (vx_cwSW 3 hC.2.2.2.2 (gi_S mM_L_207 mT_L_inchesOf mI_MissRegistryLaw mC_L_inchesOf) rfl rfl rfl (by decide +kernel) ⟨Nat.le_of_ble_eq_true rfl, Nat.le_of_ble_eq_true rfl⟩) ⟨fun a1 U g mk q => ⟨q.1, q.2.1, q.2.2.1, va_K.moved (u := U) (U := U.calling g mk a1) (Vm.Alike.refl U.vm) q.2.2.2.1, va_K.moved (u := U) (U := U.calling g mk a1) (Vm.Alike.refl U.vm) q.2.2.2.2.1, q.2.2.2.2.2⟩, fun U hU hW => ⟨rfl, by rw [hU], by rw [hU]; exact hPO, va_K.moved hW.alike hK, va_K.moved hW.alike hJ, hDO.weaken (fun _ _ _ _ => trivial)⟩⟩ rfl rfl hl.1 rfl (lv_room (Nat.le_of_ble_eq_true rfl)) dL_law_1570 ⟨(show _ ≤ 601024 by omega), (show _ ≤ 7293034 by omega)⟩) hS (fun q _ h => hF q h) hF (fun r9 u9 t H locs ht hvm hw9 hB hz9 hk9 hS9 => ?_)
    obtain ⟨hP1, hD1⟩ := hB
    rw [ht] at hP1
    obtain ⟨hP, hD⟩ := wj_l hP hD hk9 hF hP1 hD1
    obtain ⟨hr9, hu9⟩ := hw9
    rw [hr9]
    have hP : va_P D vwCl (oW o cJ u9 (xW z a lv lk pu fa he n nv du ta w mp mi k nt fu re) ++ mW z2 a2 th n w gn lk pu fa he nv of mp mi k nt fu re) H := hP
    have hD : va_D (nw s) (oW o cJ u9 (xW z a lv lk pu fa he n nv du ta w mp mi k nt fu re) ++ mW z2 a2 th n w gn lk pu fa he nv of mp mi k nt fu re) := hD
    have hS := hS9
    refine lv_istore (lv' := [(5, .int 0), (0, .ref b), (1, .ref (a 0)), (2, .ref (a2 0)), (3, .ref o), (4, .int (nI r))]) hx hb dL_law_1573 hl (by decide) rfl (fun ls hl => ?_)
    refine lv_aload_n hx hb dL_law_1575 rfl (lv_at hl 3 rfl) ?_
    refine lv_aload_n hx hb dL_law_1576 rfl (lv_at hl 1 rfl) ?_
    refine lv_iload hx hb dL_law_1577 (lv_at hl 5 rfl) ?_
    refine lv_iconst (v := 1) hx hb dL_law_1579 (by decide) ?_
    refine lv_iadd hx hb dL_law_1580 ?_
    refine w_sld hx hb hX hbl hbA hS hL (r + 1) (nI_1 r) (by omega) hx1 dL_law_1581 ?_
    have hPM := wj_Pr hP
    have hDM := wj_Dr hD
    have hF := wj_Fr hD hS hA
    refine va_calli (va_runV (As := [.int (nI i)]) (rest := []) hC (c_X1_inchesOf l H.size i hi hk) (cwV 1 hC.2.2.2.2 (gi_V mM_L_209 mV_X1_inchesOf mS_X1_inchesOf mI_MissRegistryModel mC_X1_inchesOf) rfl rfl rfl (by decide +kernel) ⟨Nat.le_of_ble_eq_true rfl, Nat.le_of_ble_eq_true rfl⟩) ⟨fun a1 U g mk q => ⟨q.1, q.2.1, ⟨q.2.2.1.1, va_K.moved (u := U) (U := U.calling g mk a1) (Vm.Alike.refl U.vm) q.2.2.1.2⟩, q.2.2.2⟩, va_recv hK2 hPM (ci := 1) (q0 := 0) rfl rfl, fun U hU hW => ⟨rfl, by rw [hU], ⟨by rw [hU]; exact hPM, va_K.moved hW.alike hK2⟩, hDM.weaken (fun _ _ _ _ => trivial)⟩⟩ rfl rfl hl.1 rfl (lv_room (Nat.le_of_ble_eq_true rfl)) dL_law_1582 ⟨(show _ ≤ 601024 by omega), (show _ ≤ 7293034 by omega)⟩) hS (fun q _ h => hF q h) hF (fun r7 u7 t H locs ht hvm hw7 hB hz9 hk9 hS9 => ?_)
    obtain ⟨hP1, hK1, hD1⟩ := hB
    rw [ht] at hP1
    obtain ⟨hP, hD⟩ := wj_r hP hD hk9 hF hP1 hD1
    have hP : va_P D vwCl (oW o cJ u9 (xW z a lv lk pu fa he n nv du ta w mp mi k nt fu re) ++ mW z2 a2 0 n w gn lk pu fa he nv of mp mi k nt fu re) H := hP
    have hD : va_D (nw s) (oW o cJ u9 (xW z a lv lk pu fa he n nv du ta w mp mi k nt fu re) ++ mW z2 a2 0 n w gn lk pu fa he nv of mp mi k nt fu re) := hD
    have hS := hS9
    rw [show r7 = mi i from hw7]
    refine lv_istore (lv' := [(6, .int (mi i)), (5, .int 0), (0, .ref b), (1, .ref (a 0)), (2, .ref (a2 0)), (3, .ref o), (4, .int (nI r))]) hx hb dL_law_1585 hl (by decide) rfl (fun ls hl => ?_)
    refine lv_aload_n hx hb dL_law_1587 rfl (lv_at hl 4 rfl) ?_
    refine vp_callSi (W.runV (As := []) (rest := []) hC (c_X1_thrown l) (cwV 0 hC.2.2.2.2 (gi_V mM_L_106 mV_X1_thrown mS_X1_thrown mI_MissRegistryModel mC_X1_thrown) rfl rfl rfl (by decide +kernel) ⟨Nat.le_of_ble_eq_true rfl, Nat.le_of_ble_eq_true rfl⟩) (mpre hK2 (wj_Pr hP)) rfl rfl hl.1 rfl (lv_room (Nat.le_of_ble_eq_true rfl)) dL_law_1588 ⟨(show _ ≤ 601024 by omega), (show _ ≤ 7293034 by omega)⟩) (fun r8 hr8 => ?_)
    rw [show r8 = 0 from hr8]
    refine lv_iload hx hb dL_law_1591 (lv_at hl 1 rfl) ?_
    refine lv_icmp_eq (tgt := 1598) hx hb dL_law_1593 (by decide) (fun c_1593 => ?_) (fun c_1593 => ?_)
    · refine lv_iload hx hb dL_law_1598 (lv_at hl 1 rfl) ?_
      refine lv_if_ne (tgt := 1615) hx hb dL_law_1600 (by decide) (fun c_1600 => ?_) (fun c_1600 => ?_)
      · exact absurd rfl c_1600
      · refine lv_aload_n hx hb dL_law_1603 rfl (lv_at hl 5 rfl) ?_
        refine lv_iconst (v := 0) hx hb dL_law_1604 (by decide) ?_
        refine w_lald hC hJ (wj_Pl hP) dL_law_1605 ?_
        refine lv_iload hx hb dL_law_1606 (lv_at hl 0 rfl) ?_
        refine lv_i2l hx hb dL_law_1608 rfl ?_
        refine w_lcmp hx hb dL_law_1609 hu9 ?_
        refine lv_if_eq (tgt := 1615) hx hb dL_law_1610 (by decide) (fun c_1610 => ?_) (fun c_1610 => ?_)
        · refine lv_goto (tgt := 1948) hx hb dL_law_1615 (by decide) ?_
          exact kk _ _ _ _ _ ⟨lv, lk, pu, fa, he, n, nv, du, ta, w, mp, mi, k, nt, fu, re, gn, of, 0, u9, hI, hP, hD, hS⟩ (by omega) (by omega) (lv_sub hl [2, 3, 4, 5, 6] rfl)
        · exact absurd rfl c_1610
    · exact absurd rfl c_1593
set_option maxHeartbeats 8000000 in
set_option maxRecDepth 100000 in
theorem lc_31 {p : Program} {l : Launch} {e : Env} {s : State} {m : MethodId} {below : List Frame} {meth : Method} {c : Code} {H : Heap} {locs : List Loc} {cells slots : Nat} {Q : State → Prop} {ls : Array Slot} {b L : Nat} {xs : Nat → Int32} {D : va_G} {z z2 : ClassId × ClassId} {cJ : ClassId} {q9 t9 a a2 : Nat → Nat} {o : Nat} {lv lk pu fa he : Nat → Int32} {n : Nat} {nv du ta : Nat → Int32} {w : Nat} {mp mi : Nat → Int32} {k : Nat} {nt fu re : Int32} {gn of : Nat → Int32} {th : Int32} {g : Nat → Int64} {r : Nat} (X : LX p l s m c b L xs D z z2 cJ q9 t9) (hI : IV lv lk fa he n nv du w k gn of) (hP : va_P D vwCl (oW o cJ g (xW z a lv lk pu fa he n nv du ta w mp mi k nt fu re) ++ mW z2 a2 th n w gn lk pu fa he nv of mp mi k nt fu re) H) (hD : va_D (nw s) (oW o cJ g (xW z a lv lk pu fa he n nv du ta w mp mi k nt fu re) ++ mW z2 a2 th n w gn lk pu fa he nv of mp mi k nt fu re)) (hS : va_S (nw s) s.heap H locs) (hcl : cells + 12 ≤ 601024) (hsl : slots + 100 ≤ 7293034) (hr : r + 2 < L) (hl : lv_has ls 9 [(0, .ref b), (1, .ref (a 0)), (2, .ref (a2 0)), (3, .ref o), (4, .int (nI r))]) (kk : ∀ (H1 : Heap) (locs1 : List Loc) (c1 s1 : Nat) (ls1 : Array Slot), Jn D z z2 cJ a a2 o s H1 locs1 → c1 ≤ cells + 11 → s1 ≤ slots + 94 → lv_has ls1 9 [(0, .ref b), (1, .ref (a 0)), (2, .ref (a2 0)), (3, .ref o), (4, .int (nI r))] → W p l e room_1 s m #[.ref b] below meth c H1 locs1 c1 s1 Q (F0 m 1948 ls1 [])) : W p l e room_1 s m #[.ref b] below meth c H locs cells slots Q (F0 m 1618 ls []) := by
  obtain ⟨hC, hst, ⟨hX, hbl, hL⟩, ⟨hK, hK2, hJ⟩, hT, hN, hE⟩ := X
  have hx := hC.1
  have hb := hC.2.1
  have hA : ∀ q : Nat, s.heap.size ≤ q → nw s q := fun q h => h
  have hbA : ¬ nw s b := Nat.not_le.mpr hbl
  have hn := hI.1.1
  have hw := hI.1.2.1
  have hk := hI.1.2.2
  obtain ⟨x, hx1⟩ : ∃ x : Int32, xs (r + 1) = x := ⟨_, rfl⟩
  obtain ⟨y, hx2⟩ : ∃ y : Int32, xs (r + 2) = y := ⟨_, rfl⟩
  by_cases hp : sp_isP k x = 0
  · refine lv_aload_n hx hb dL_law_1618 rfl (lv_at hl 1 rfl) ?_
    refine lv_aload_n hx hb dL_law_1619 rfl (lv_at hl 0 rfl) ?_
    refine lv_iload hx hb dL_law_1620 (lv_at hl 4 rfl) ?_
    refine lv_iconst (v := 1) hx hb dL_law_1622 (by decide) ?_
    refine lv_iadd hx hb dL_law_1623 ?_
    refine w_sld hx hb hX hbl hbA hS hL (r + 1) (nI_1 r) (by omega) hx1 dL_law_1624 ?_
    refine lv_aload_n hx hb dL_law_1625 rfl (lv_at hl 3 rfl) ?_
    have hPO := wj_Pl hP
    have hDO := wj_Dl hD
    have hF := wj_Fl hD hS hA
    refine va_calli (vx_runSW (As := [.ref (a 0), .int x, .ref o]) (rest := []) hC (w_sealOf_a l hst H.size x hp) (vx_cwSW 3 hC.2.2.2.2 (gi_S mM_L_210 mT_L_sealOf mI_MissRegistryLaw mC_L_sealOf) rfl rfl rfl (by decide +kernel) ⟨Nat.le_of_ble_eq_true rfl, Nat.le_of_ble_eq_true rfl⟩) ⟨fun a1 U g mk q => ⟨q.1, q.2.1, q.2.2.1, va_K.moved (u := U) (U := U.calling g mk a1) (Vm.Alike.refl U.vm) q.2.2.2.1, va_K.moved (u := U) (U := U.calling g mk a1) (Vm.Alike.refl U.vm) q.2.2.2.2.1, ⟨q.2.2.2.2.2.1, tH.same (u := U) (U := U.calling g mk a1) rfl q.2.2.2.2.2.2.1, tN.moved (u := U) (U := U.calling g mk a1) (Vm.Alike.refl U.vm) q.2.2.2.2.2.2.2⟩⟩, fun U hU hW => ⟨rfl, by rw [hU], by rw [hU]; exact hPO, va_K.moved hW.alike hK, va_K.moved hW.alike hJ, hDO.weaken (fun _ _ _ _ => trivial), by rw [hU]; exact (hT.at hS).warm hW, hN.moved hW.alike⟩⟩ rfl rfl hl.1 rfl (lv_room (Nat.le_of_ble_eq_true rfl)) dL_law_1626 ⟨(show _ ≤ 601024 by omega), (show _ ≤ 7293034 by omega)⟩) hS (fun q _ h => hF q h) hF (fun r9 u9 t H locs ht hvm hw9 hB hz9 hk9 hS9 => ?_)
    obtain ⟨hP1, hD1⟩ := hB
    rw [ht] at hP1
    obtain ⟨hP, hD⟩ := wj_l hP hD hk9 hF hP1 hD1
    rw [show r9 = 1 from hw9]
    have hP : va_P D vwCl (oW o cJ g (xW z a lv lk pu fa he n nv du ta w mp mi k nt fu re) ++ mW z2 a2 th n w gn lk pu fa he nv of mp mi k nt fu re) H := hP
    have hD : va_D (nw s) (oW o cJ g (xW z a lv lk pu fa he n nv du ta w mp mi k nt fu re) ++ mW z2 a2 th n w gn lk pu fa he nv of mp mi k nt fu re) := hD
    have hS := hS9
    refine lv_istore (lv' := [(5, .int 1), (0, .ref b), (1, .ref (a 0)), (2, .ref (a2 0)), (3, .ref o), (4, .int (nI r))]) hx hb dL_law_1629 hl (by decide) rfl (fun ls hl => ?_)
    refine lv_aload_n hx hb dL_law_1631 rfl (lv_at hl 3 rfl) ?_
    refine lv_aload_n hx hb dL_law_1632 rfl (lv_at hl 1 rfl) ?_
    refine lv_iload hx hb dL_law_1633 (lv_at hl 5 rfl) ?_
    refine lv_iconst (v := 1) hx hb dL_law_1635 (by decide) ?_
    refine lv_iadd hx hb dL_law_1636 ?_
    refine w_sld hx hb hX hbl hbA hS hL (r + 1) (nI_1 r) (by omega) hx1 dL_law_1637 ?_
    have hPM := wj_Pr hP
    have hDM := wj_Dr hD
    have hF := wj_Fr hD hS hA
    refine va_calli (va_runV (As := [.int x]) (rest := []) hC (c_X1_sealOf_a l H.size x hk hp) (cwV 1 hC.2.2.2.2 (gi_V mM_L_212 mV_X1_sealOf mS_X1_sealOf mI_MissRegistryModel mC_X1_sealOf) rfl rfl rfl (by decide +kernel) ⟨Nat.le_of_ble_eq_true rfl, Nat.le_of_ble_eq_true rfl⟩) ⟨fun a1 U g mk q => ⟨q.1, q.2.1, ⟨q.2.2.1.1, va_K.moved (u := U) (U := U.calling g mk a1) (Vm.Alike.refl U.vm) q.2.2.1.2⟩, q.2.2.2⟩, va_recv hK2 hPM (ci := 1) (q0 := 0) rfl rfl, fun U hU hW => ⟨rfl, by rw [hU], ⟨by rw [hU]; exact hPM, va_K.moved hW.alike hK2⟩, hDM.weaken (fun _ _ _ _ => trivial)⟩⟩ rfl rfl hl.1 rfl (lv_room (Nat.le_of_ble_eq_true rfl)) dL_law_1638 ⟨(show _ ≤ 601024 by omega), (show _ ≤ 7293034 by omega)⟩) hS (fun q _ h => hF q h) hF (fun r7 u7 t H locs ht hvm hw7 hB hz9 hk9 hS9 => ?_)
    obtain ⟨hP1, hK1, hD1⟩ := hB
    rw [ht] at hP1
    obtain ⟨hP, hD⟩ := wj_r hP hD hk9 hF hP1 hD1
    have hP : va_P D vwCl (oW o cJ g (xW z a lv lk pu fa he n nv du ta w mp mi k nt fu re) ++ mW z2 a2 1 n w gn lk pu fa he nv of mp mi k nt fu re) H := hP
    have hD : va_D (nw s) (oW o cJ g (xW z a lv lk pu fa he n nv du ta w mp mi k nt fu re) ++ mW z2 a2 1 n w gn lk pu fa he nv of mp mi k nt fu re) := hD
    have hS := hS9
    rw [show r7 = 0 from hw7]
    refine lv_istore (lv' := [(6, .int 0), (5, .int 1), (0, .ref b), (1, .ref (a 0)), (2, .ref (a2 0)), (3, .ref o), (4, .int (nI r))]) hx hb dL_law_1641 hl (by decide) rfl (fun ls hl => ?_)
    refine lv_aload_n hx hb dL_law_1643 rfl (lv_at hl 4 rfl) ?_
    refine vp_callSi (W.runV (As := []) (rest := []) hC (c_X1_thrown l) (cwV 0 hC.2.2.2.2 (gi_V mM_L_106 mV_X1_thrown mS_X1_thrown mI_MissRegistryModel mC_X1_thrown) rfl rfl rfl (by decide +kernel) ⟨Nat.le_of_ble_eq_true rfl, Nat.le_of_ble_eq_true rfl⟩) (mpre hK2 (wj_Pr hP)) rfl rfl hl.1 rfl (lv_room (Nat.le_of_ble_eq_true rfl)) dL_law_1644 ⟨(show _ ≤ 601024 by omega), (show _ ≤ 7293034 by omega)⟩) (fun r8 hr8 => ?_)
    rw [show r8 = 1 from hr8]
    refine lv_iload hx hb dL_law_1647 (lv_at hl 1 rfl) ?_
    refine lv_icmp_eq (tgt := 1654) hx hb dL_law_1649 (by decide) (fun c_1649 => ?_) (fun c_1649 => ?_)
    · refine lv_iload hx hb dL_law_1654 (lv_at hl 1 rfl) ?_
      refine lv_if_ne (tgt := 1671) hx hb dL_law_1656 (by decide) (fun c_1656 => ?_) (fun c_1656 => ?_)
      · refine lv_goto (tgt := 1948) hx hb dL_law_1671 (by decide) ?_
        exact kk _ _ _ _ _ ⟨lv, lk, pu, fa, he, n, nv, du, ta, w, mp, mi, k, nt, fu, re, gn, of, 1, g, hI, hP, hD, hS⟩ (by omega) (by omega) (lv_sub hl [2, 3, 4, 5, 6] rfl)
      · exact absurd c_1656 (by decide)
    · exact absurd rfl c_1649
  · obtain ⟨i, hi, exi⟩ := isP_ex (by omega) hp
    subst exi
    refine lv_aload_n hx hb dL_law_1618 rfl (lv_at hl 1 rfl) ?_
    refine lv_aload_n hx hb dL_law_1619 rfl (lv_at hl 0 rfl) ?_
    refine lv_iload hx hb dL_law_1620 (lv_at hl 4 rfl) ?_
    refine lv_iconst (v := 1) hx hb dL_law_1622 (by decide) ?_
    refine lv_iadd hx hb dL_law_1623 ?_
    refine w_sld hx hb hX hbl hbA hS hL (r + 1) (nI_1 r) (by omega) hx1 dL_law_1624 ?_
    refine lv_aload_n hx hb dL_law_1625 rfl (lv_at hl 3 rfl) ?_
    have hPO := wj_Pl hP
    have hDO := wj_Dl hD
    have hF := wj_Fl hD hS hA
    refine va_calli (vx_runSW (As := [.ref (a 0), .int (nI i), .ref o]) (rest := []) hC (w_sealOf l H.size i hi hk) (vx_cwSW 3 hC.2.2.2.2 (gi_S mM_L_210 mT_L_sealOf mI_MissRegistryLaw mC_L_sealOf) rfl rfl rfl (by decide +kernel) ⟨Nat.le_of_ble_eq_true rfl, Nat.le_of_ble_eq_true rfl⟩) ⟨fun a1 U g mk q => ⟨q.1, q.2.1, q.2.2.1, va_K.moved (u := U) (U := U.calling g mk a1) (Vm.Alike.refl U.vm) q.2.2.2.1, va_K.moved (u := U) (U := U.calling g mk a1) (Vm.Alike.refl U.vm) q.2.2.2.2.1, ⟨q.2.2.2.2.2.1, cH.same (u := U) (U := U.calling g mk a1) rfl q.2.2.2.2.2.2⟩⟩, fun U hU hW => ⟨rfl, by rw [hU], by rw [hU]; exact hPO, va_K.moved hW.alike hK, va_K.moved hW.alike hJ, hDO.weaken (fun _ _ _ _ => trivial), by rw [hU]; exact (hE.at hS).warm hW⟩⟩ rfl rfl hl.1 rfl (lv_room (Nat.le_of_ble_eq_true rfl)) dL_law_1626 ⟨(show _ ≤ 601024 by omega), (show _ ≤ 7293034 by omega)⟩) hS (fun q _ h => hF q h) hF (fun r9 u9 t H locs ht hvm hw9 hB hz9 hk9 hS9 => ?_)
    obtain ⟨hP1, hD1⟩ := hB
    rw [ht] at hP1
    obtain ⟨hP, hD⟩ := wj_l hP hD hk9 hF hP1 hD1
    obtain ⟨hr9, hu9⟩ := hw9
    rw [hr9]
    have hP : va_P D vwCl (oW o cJ u9 (xW z a lv lk pu fa he n nv du ta w mp mi k nt fu re) ++ mW z2 a2 th n w gn lk pu fa he nv of mp mi k nt fu re) H := hP
    have hD : va_D (nw s) (oW o cJ u9 (xW z a lv lk pu fa he n nv du ta w mp mi k nt fu re) ++ mW z2 a2 th n w gn lk pu fa he nv of mp mi k nt fu re) := hD
    have hS := hS9
    refine lv_istore (lv' := [(5, .int 0), (0, .ref b), (1, .ref (a 0)), (2, .ref (a2 0)), (3, .ref o), (4, .int (nI r))]) hx hb dL_law_1629 hl (by decide) rfl (fun ls hl => ?_)
    refine lv_aload_n hx hb dL_law_1631 rfl (lv_at hl 3 rfl) ?_
    refine lv_aload_n hx hb dL_law_1632 rfl (lv_at hl 1 rfl) ?_
    refine lv_iload hx hb dL_law_1633 (lv_at hl 5 rfl) ?_
    refine lv_iconst (v := 1) hx hb dL_law_1635 (by decide) ?_
    refine lv_iadd hx hb dL_law_1636 ?_
    refine w_sld hx hb hX hbl hbA hS hL (r + 1) (nI_1 r) (by omega) hx1 dL_law_1637 ?_
    have hPM := wj_Pr hP
    have hDM := wj_Dr hD
    have hF := wj_Fr hD hS hA
    refine va_calli (va_runV (As := [.int (nI i)]) (rest := []) hC (c_X1_sealOf l H.size i hi hk) (cwV 1 hC.2.2.2.2 (gi_V mM_L_212 mV_X1_sealOf mS_X1_sealOf mI_MissRegistryModel mC_X1_sealOf) rfl rfl rfl (by decide +kernel) ⟨Nat.le_of_ble_eq_true rfl, Nat.le_of_ble_eq_true rfl⟩) ⟨fun a1 U g mk q => ⟨q.1, q.2.1, ⟨q.2.2.1.1, va_K.moved (u := U) (U := U.calling g mk a1) (Vm.Alike.refl U.vm) q.2.2.1.2⟩, ⟨q.2.2.2.1, cH.same (u := U) (U := U.calling g mk a1) rfl q.2.2.2.2⟩⟩, va_recv hK2 hPM (ci := 1) (q0 := 0) rfl rfl, fun U hU hW => ⟨rfl, by rw [hU], ⟨by rw [hU]; exact hPM, va_K.moved hW.alike hK2⟩, hDM.weaken (fun _ _ _ _ => trivial), by rw [hU]; exact ((hE.kept hS.2.1).narrow (fun q h => hF q h)).warm hW⟩⟩ rfl rfl hl.1 rfl (lv_room (Nat.le_of_ble_eq_true rfl)) dL_law_1638 ⟨(show _ ≤ 601024 by omega), (show _ ≤ 7293034 by omega)⟩) hS (fun q _ h => hF q h) hF (fun r7 u7 t H locs ht hvm hw7 hB hz9 hk9 hS9 => ?_)
    obtain ⟨hP1, hK1, hD1⟩ := hB
    rw [ht] at hP1
    obtain ⟨hP, hD⟩ := wj_r hP hD hk9 hF hP1 hD1
    have hP : va_P D vwCl (oW o cJ u9 (xW z a lv lk pu fa he n nv du ta w mp mi k nt fu re) ++ mW z2 a2 0 n w gn lk pu fa he nv of mp mi k nt fu re) H := hP
    have hD : va_D (nw s) (oW o cJ u9 (xW z a lv lk pu fa he n nv du ta w mp mi k nt fu re) ++ mW z2 a2 0 n w gn lk pu fa he nv of mp mi k nt fu re) := hD
    have hS := hS9
    rw [show r7 = sp_seal (mp i) (mi i) from hw7]
    refine lv_istore (lv' := [(6, .int (sp_seal (mp i) (mi i))), (5, .int 0), (0, .ref b), (1, .ref (a 0)), (2, .ref (a2 0)), (3, .ref o), (4, .int (nI r))]) hx hb dL_law_1641 hl (by decide) rfl (fun ls hl => ?_)
    refine lv_aload_n hx hb dL_law_1643 rfl (lv_at hl 4 rfl) ?_
    refine vp_callSi (W.runV (As := []) (rest := []) hC (c_X1_thrown l) (cwV 0 hC.2.2.2.2 (gi_V mM_L_106 mV_X1_thrown mS_X1_thrown mI_MissRegistryModel mC_X1_thrown) rfl rfl rfl (by decide +kernel) ⟨Nat.le_of_ble_eq_true rfl, Nat.le_of_ble_eq_true rfl⟩) (mpre hK2 (wj_Pr hP)) rfl rfl hl.1 rfl (lv_room (Nat.le_of_ble_eq_true rfl)) dL_law_1644 ⟨(show _ ≤ 601024 by omega), (show _ ≤ 7293034 by omega)⟩) (fun r8 hr8 => ?_)
    rw [show r8 = 0 from hr8]
    refine lv_iload hx hb dL_law_1647 (lv_at hl 1 rfl) ?_
    refine lv_icmp_eq (tgt := 1654) hx hb dL_law_1649 (by decide) (fun c_1649 => ?_) (fun c_1649 => ?_)
    · refine lv_iload hx hb dL_law_1654 (lv_at hl 1 rfl) ?_
      refine lv_if_ne (tgt := 1671) hx hb dL_law_1656 (by decide) (fun c_1656 => ?_) (fun c_1656 => ?_)
      · exact absurd rfl c_1656
      · refine lv_aload_n hx hb dL_law_1659 rfl (lv_at hl 5 rfl) ?_
        refine lv_iconst (v := 0) hx hb dL_law_1660 (by decide) ?_
        refine w_lald hC hJ (wj_Pl hP) dL_law_1661 ?_
        refine lv_iload hx hb dL_law_1662 (lv_at hl 0 rfl) ?_
        refine lv_i2l hx hb dL_law_1664 rfl ?_
        refine w_lcmp hx hb dL_law_1665 hu9 ?_
        refine lv_if_eq (tgt := 1671) hx hb dL_law_1666 (by decide) (fun c_1666 => ?_) (fun c_1666 => ?_)
        · refine lv_goto (tgt := 1948) hx hb dL_law_1671 (by decide) ?_
          exact kk _ _ _ _ _ ⟨lv, lk, pu, fa, he, n, nv, du, ta, w, mp, mi, k, nt, fu, re, gn, of, 0, u9, hI, hP, hD, hS⟩ (by omega) (by omega) (lv_sub hl [2, 3, 4, 5, 6] rfl)
        · exact absurd rfl c_1666
    · exact absurd rfl c_1649

set_option maxHeartbeats 8000000 in
set_option maxRecDepth 100000 in
theorem lc_0 {p : Program} {l : Launch} {e : Env} {s : State} {m : MethodId} {below : List Frame} {meth : Method} {c : Code} {H : Heap} {locs : List Loc} {cells slots : Nat} {Q : State → Prop} {ls : Array Slot} {b L : Nat} {xs : Nat → Int32} {D : va_G} {z z2 : ClassId × ClassId} {cJ : ClassId} {q9 t9 a a2 : Nat → Nat} {o : Nat} {lv lk pu fa he : Nat → Int32} {n : Nat} {nv du ta : Nat → Int32} {w : Nat} {mp mi : Nat → Int32} {k : Nat} {nt fu re : Int32} {gn of : Nat → Int32} {th : Int32} {g : Nat → Int64} {r : Nat} (X : LX p l s m c b L xs D z z2 cJ q9 t9) (hI : IV lv lk fa he n nv du w k gn of) (hP : va_P D vwCl (oW o cJ g (xW z a lv lk pu fa he n nv du ta w mp mi k nt fu re) ++ mW z2 a2 th n w gn lk pu fa he nv of mp mi k nt fu re) H) (hD : va_D (nw s) (oW o cJ g (xW z a lv lk pu fa he n nv du ta w mp mi k nt fu re) ++ mW z2 a2 th n w gn lk pu fa he nv of mp mi k nt fu re)) (hS : va_S (nw s) s.heap H locs) (hcl : cells + 12 ≤ 601024) (hsl : slots + 100 ≤ 7293034) (hr : r + 2 < L) (hl : lv_has ls 9 [(0, .ref b), (1, .ref (a 0)), (2, .ref (a2 0)), (3, .ref o), (4, .int (nI r))]) (kk : ∀ (H1 : Heap) (locs1 : List Loc) (c1 s1 : Nat) (ls1 : Array Slot), Jn D z z2 cJ a a2 o s H1 locs1 → c1 ≤ cells + 11 → s1 ≤ slots + 94 → lv_has ls1 9 [(0, .ref b), (1, .ref (a 0)), (2, .ref (a2 0)), (3, .ref o), (4, .int (nI r))] → W p l e room_1 s m #[.ref b] below meth c H1 locs1 c1 s1 Q (F0 m 1948 ls1 [])) : W p l e room_1 s m #[.ref b] below meth c H locs cells slots Q (F0 m 212 ls []) := by
  obtain ⟨hC, hst, ⟨hX, hbl, hL⟩, ⟨hK, hK2, hJ⟩, hT, hN, hE⟩ := X
  have hx := hC.1
  have hb := hC.2.1
  have hA : ∀ q : Nat, s.heap.size ≤ q → nw s q := fun q h => h
  have hbA : ¬ nw s b := Nat.not_le.mpr hbl
  have hn := hI.1.1
  have hw := hI.1.2.1
  have hk := hI.1.2.2
  obtain ⟨x, hx1⟩ : ∃ x : Int32, xs (r + 1) = x := ⟨_, rfl⟩
  obtain ⟨y, hx2⟩ : ∃ y : Int32, xs (r + 2) = y := ⟨_, rfl⟩
  by_cases hbad : x < 0 ∨ ¬ x ≤ 99
  · refine lv_aload_n hx hb dL_law_212 rfl (lv_at hl 1 rfl) ?_
    refine lv_aload_n hx hb dL_law_213 rfl (lv_at hl 0 rfl) ?_
    refine lv_iload hx hb dL_law_214 (lv_at hl 4 rfl) ?_
    refine lv_iconst (v := 1) hx hb dL_law_216 (by decide) ?_
    refine lv_iadd hx hb dL_law_217 ?_
    refine w_sld hx hb hX hbl hbA hS hL (r + 1) (nI_1 r) (by omega) hx1 dL_law_218 ?_
    refine lv_aload_n hx hb dL_law_219 rfl (lv_at hl 3 rfl) ?_
    have hPO := wj_Pl hP
    have hDO := wj_Dl hD
    have hF := wj_Fl hD hS hA
    refine va_calli (vx_runSW (As := [.ref (a 0), .int x, .ref o]) (rest := []) hC (w_addPerson_a l hst H.size x hbad) (vx_cwSW 3 hC.2.2.2.2 (gi_S mM_L_100 mT_L_addPerson mI_MissRegistryLaw mC_L_addPerson) rfl rfl rfl (by decide +kernel) ⟨Nat.le_of_ble_eq_true rfl, Nat.le_of_ble_eq_true rfl⟩) ⟨fun a1 U g mk q => ⟨q.1, q.2.1, q.2.2.1, va_K.moved (u := U) (U := U.calling g mk a1) (Vm.Alike.refl U.vm) q.2.2.2.1, va_K.moved (u := U) (U := U.calling g mk a1) (Vm.Alike.refl U.vm) q.2.2.2.2.1, ⟨q.2.2.2.2.2.1, tH.same (u := U) (U := U.calling g mk a1) rfl q.2.2.2.2.2.2.1, tN.moved (u := U) (U := U.calling g mk a1) (Vm.Alike.refl U.vm) q.2.2.2.2.2.2.2⟩⟩, fun U hU hW => ⟨rfl, by rw [hU], by rw [hU]; exact hPO, va_K.moved hW.alike hK, va_K.moved hW.alike hJ, hDO.weaken (fun _ _ _ _ => trivial), by rw [hU]; exact (hT.at hS).warm hW, hN.moved hW.alike⟩⟩ rfl rfl hl.1 rfl (lv_room (Nat.le_of_ble_eq_true rfl)) dL_law_220 ⟨(show _ ≤ 601024 by omega), (show _ ≤ 7293034 by omega)⟩) hS (fun q _ h => hF q h) hF (fun r9 u9 t H locs ht hvm hw9 hB hz9 hk9 hS9 => ?_)
    obtain ⟨hP1, hD1⟩ := hB
    rw [ht] at hP1
    obtain ⟨hP, hD⟩ := wj_l hP hD hk9 hF hP1 hD1
    rw [show r9 = 1 from hw9]
    have hP : va_P D vwCl (oW o cJ g (xW z a lv lk pu fa he n nv du ta w mp mi k nt fu re) ++ mW z2 a2 th n w gn lk pu fa he nv of mp mi k nt fu re) H := hP
    have hD : va_D (nw s) (oW o cJ g (xW z a lv lk pu fa he n nv du ta w mp mi k nt fu re) ++ mW z2 a2 th n w gn lk pu fa he nv of mp mi k nt fu re) := hD
    have hS := hS9
    refine lv_istore (lv' := [(5, .int 1), (0, .ref b), (1, .ref (a 0)), (2, .ref (a2 0)), (3, .ref o), (4, .int (nI r))]) hx hb dL_law_223 hl (by decide) rfl (fun ls hl => ?_)
    refine lv_aload_n hx hb dL_law_225 rfl (lv_at hl 3 rfl) ?_
    refine lv_aload_n hx hb dL_law_226 rfl (lv_at hl 1 rfl) ?_
    refine lv_iload hx hb dL_law_227 (lv_at hl 5 rfl) ?_
    refine lv_iconst (v := 1) hx hb dL_law_229 (by decide) ?_
    refine lv_iadd hx hb dL_law_230 ?_
    refine w_sld hx hb hX hbl hbA hS hL (r + 1) (nI_1 r) (by omega) hx1 dL_law_231 ?_
    have hPM := wj_Pr hP
    have hDM := wj_Dr hD
    have hF := wj_Fr hD hS hA
    refine va_calli (va_runV (As := [.int x]) (rest := []) hC (c_X1_addPerson_a l H.size x hbad) (cwV 1 hC.2.2.2.2 (gi_V mM_L_105 mV_X1_addPerson mS_X1_addPerson mI_MissRegistryModel mC_X1_addPerson) rfl rfl rfl (by decide +kernel) ⟨Nat.le_of_ble_eq_true rfl, Nat.le_of_ble_eq_true rfl⟩) ⟨fun a1 U g mk q => ⟨q.1, q.2.1, ⟨q.2.2.1.1, va_K.moved (u := U) (U := U.calling g mk a1) (Vm.Alike.refl U.vm) q.2.2.1.2⟩, q.2.2.2⟩, va_recv hK2 hPM (ci := 1) (q0 := 0) rfl rfl, fun U hU hW => ⟨rfl, by rw [hU], ⟨by rw [hU]; exact hPM, va_K.moved hW.alike hK2⟩, hDM.weaken (fun _ _ _ _ => trivial)⟩⟩ rfl rfl hl.1 rfl (lv_room (Nat.le_of_ble_eq_true rfl)) dL_law_232 ⟨(show _ ≤ 601024 by omega), (show _ ≤ 7293034 by omega)⟩) hS (fun q _ h => hF q h) hF (fun r7 u7 t H locs ht hvm hw7 hB hz9 hk9 hS9 => ?_)
    obtain ⟨hP1, hK1, hD1⟩ := hB
    rw [ht] at hP1
    obtain ⟨hP, hD⟩ := wj_r hP hD hk9 hF hP1 hD1
    have hP : va_P D vwCl (oW o cJ g (xW z a lv lk pu fa he n nv du ta w mp mi k nt fu re) ++ mW z2 a2 1 n w gn lk pu fa he nv of mp mi k nt fu re) H := hP
    have hD : va_D (nw s) (oW o cJ g (xW z a lv lk pu fa he n nv du ta w mp mi k nt fu re) ++ mW z2 a2 1 n w gn lk pu fa he nv of mp mi k nt fu re) := hD
    have hS := hS9
    rw [show r7 = 0 from hw7]
    refine lv_istore (lv' := [(6, .int 0), (5, .int 1), (0, .ref b), (1, .ref (a 0)), (2, .ref (a2 0)), (3, .ref o), (4, .int (nI r))]) hx hb dL_law_235 hl (by decide) rfl (fun ls hl => ?_)
    refine lv_aload_n hx hb dL_law_237 rfl (lv_at hl 4 rfl) ?_
    refine vp_callSi (W.runV (As := []) (rest := []) hC (c_X1_thrown l) (cwV 0 hC.2.2.2.2 (gi_V mM_L_106 mV_X1_thrown mS_X1_thrown mI_MissRegistryModel mC_X1_thrown) rfl rfl rfl (by decide +kernel) ⟨Nat.le_of_ble_eq_true rfl, Nat.le_of_ble_eq_true rfl⟩) (mpre hK2 (wj_Pr hP)) rfl rfl hl.1 rfl (lv_room (Nat.le_of_ble_eq_true rfl)) dL_law_238 ⟨(show _ ≤ 601024 by omega), (show _ ≤ 7293034 by omega)⟩) (fun r8 hr8 => ?_)
    rw [show r8 = 1 from hr8]
    refine lv_iload hx hb dL_law_241 (lv_at hl 1 rfl) ?_
    refine lv_icmp_eq (tgt := 248) hx hb dL_law_243 (by decide) (fun c_243 => ?_) (fun c_243 => ?_)
    · refine lv_iload hx hb dL_law_248 (lv_at hl 1 rfl) ?_
      refine lv_if_ne (tgt := 265) hx hb dL_law_250 (by decide) (fun c_250 => ?_) (fun c_250 => ?_)
      · refine lv_goto (tgt := 1948) hx hb dL_law_265 (by decide) ?_
        exact kk _ _ _ _ _ ⟨lv, lk, pu, fa, he, n, nv, du, ta, w, mp, mi, k, nt, fu, re, gn, of, 1, g, hI, hP, hD, hS⟩ (by omega) (by omega) (lv_sub hl [2, 3, 4, 5, 6] rfl)
      · exact absurd c_250 (by decide)
    · exact absurd rfl c_243
  · have h1 : ¬ x < 0 := fun q => hbad (Or.inl q)
    have h2 : x ≤ 99 := Classical.not_not.mp (fun q => hbad (Or.inr q))
    by_cases hn9 : n < 10
    · obtain ⟨v, hv, ev⟩ := nI_of2 (x := x) (M := 99) (n := 99) rfl h1 h2
      subst ev
      refine lv_aload_n hx hb dL_law_212 rfl (lv_at hl 1 rfl) ?_
      refine lv_aload_n hx hb dL_law_213 rfl (lv_at hl 0 rfl) ?_
      refine lv_iload hx hb dL_law_214 (lv_at hl 4 rfl) ?_
      refine lv_iconst (v := 1) hx hb dL_law_216 (by decide) ?_
      refine lv_iadd hx hb dL_law_217 ?_
      refine w_sld hx hb hX hbl hbA hS hL (r + 1) (nI_1 r) (by omega) hx1 dL_law_218 ?_
      refine lv_aload_n hx hb dL_law_219 rfl (lv_at hl 3 rfl) ?_
      have hPO := wj_Pl hP
      have hDO := wj_Dl hD
      have hF := wj_Fl hD hS hA
      refine va_calli (vx_runSW (As := [.ref (a 0), .int (nI v), .ref o]) (rest := []) hC (w_addPerson l H.size (nI v) h1 h2 hn9) (vx_cwSW 3 hC.2.2.2.2 (gi_S mM_L_100 mT_L_addPerson mI_MissRegistryLaw mC_L_addPerson) rfl rfl rfl (by decide +kernel) ⟨Nat.le_of_ble_eq_true rfl, Nat.le_of_ble_eq_true rfl⟩) ⟨fun a1 U g mk q => ⟨q.1, q.2.1, q.2.2.1, va_K.moved (u := U) (U := U.calling g mk a1) (Vm.Alike.refl U.vm) q.2.2.2.1, va_K.moved (u := U) (U := U.calling g mk a1) (Vm.Alike.refl U.vm) q.2.2.2.2.1, q.2.2.2.2.2⟩, fun U hU hW => ⟨rfl, by rw [hU], by rw [hU]; exact hPO, va_K.moved hW.alike hK, va_K.moved hW.alike hJ, hDO.weaken (fun _ _ _ _ => trivial)⟩⟩ rfl rfl hl.1 rfl (lv_room (Nat.le_of_ble_eq_true rfl)) dL_law_220 ⟨(show _ ≤ 601024 by omega), (show _ ≤ 7293034 by omega)⟩) hS (fun q _ h => hF q h) hF (fun r9 u9 t H locs ht hvm hw9 hB hz9 hk9 hS9 => ?_)
      obtain ⟨hP1, hD1⟩ := hB
      rw [ht] at hP1
      obtain ⟨hP, hD⟩ := wj_l hP hD hk9 hF hP1 hD1
      obtain ⟨hr9, hu9⟩ := hw9
      rw [hr9]
      have hP : va_P D vwCl (oW o cJ u9 (xW z a (upd lv n 1) (upd lk n (nI v)) (upd pu n 100) (upd fa n 0) (upd he n (-1)) (n + 1) nv du ta w mp mi k nt fu re) ++ mW z2 a2 th n w gn lk pu fa he nv of mp mi k nt fu re) H := hP
      have hD : va_D (nw s) (oW o cJ u9 (xW z a (upd lv n 1) (upd lk n (nI v)) (upd pu n 100) (upd fa n 0) (upd he n (-1)) (n + 1) nv du ta w mp mi k nt fu re) ++ mW z2 a2 th n w gn lk pu fa he nv of mp mi k nt fu re) := hD
      have hS := hS9
      refine lv_istore (lv' := [(5, .int 0), (0, .ref b), (1, .ref (a 0)), (2, .ref (a2 0)), (3, .ref o), (4, .int (nI r))]) hx hb dL_law_223 hl (by decide) rfl (fun ls hl => ?_)
      refine lv_aload_n hx hb dL_law_225 rfl (lv_at hl 3 rfl) ?_
      refine lv_aload_n hx hb dL_law_226 rfl (lv_at hl 1 rfl) ?_
      refine lv_iload hx hb dL_law_227 (lv_at hl 5 rfl) ?_
      refine lv_iconst (v := 1) hx hb dL_law_229 (by decide) ?_
      refine lv_iadd hx hb dL_law_230 ?_
      refine w_sld hx hb hX hbl hbA hS hL (r + 1) (nI_1 r) (by omega) hx1 dL_law_231 ?_
      have hPM := wj_Pr hP
      have hDM := wj_Dr hD
      have hF := wj_Fr hD hS hA
      refine va_calli (va_runV (As := [.int (nI v)]) (rest := []) hC (c_X1_addPerson l H.size (nI v) h1 h2 hn9) (cwV 1 hC.2.2.2.2 (gi_V mM_L_105 mV_X1_addPerson mS_X1_addPerson mI_MissRegistryModel mC_X1_addPerson) rfl rfl rfl (by decide +kernel) ⟨Nat.le_of_ble_eq_true rfl, Nat.le_of_ble_eq_true rfl⟩) ⟨fun a1 U g mk q => ⟨q.1, q.2.1, ⟨q.2.2.1.1, va_K.moved (u := U) (U := U.calling g mk a1) (Vm.Alike.refl U.vm) q.2.2.1.2⟩, q.2.2.2⟩, va_recv hK2 hPM (ci := 1) (q0 := 0) rfl rfl, fun U hU hW => ⟨rfl, by rw [hU], ⟨by rw [hU]; exact hPM, va_K.moved hW.alike hK2⟩, hDM.weaken (fun _ _ _ _ => trivial)⟩⟩ rfl rfl hl.1 rfl (lv_room (Nat.le_of_ble_eq_true rfl)) dL_law_232 ⟨(show _ ≤ 601024 by omega), (show _ ≤ 7293034 by omega)⟩) hS (fun q _ h => hF q h) hF (fun r7 u7 t H locs ht hvm hw7 hB hz9 hk9 hS9 => ?_)
      obtain ⟨hP1, hK1, hD1⟩ := hB
      rw [ht] at hP1
      obtain ⟨hP, hD⟩ := wj_r hP hD hk9 hF hP1 hD1
      have hP : va_P D vwCl (oW o cJ u9 (xW z a (upd lv n 1) (upd lk n (nI v)) (upd pu n 100) (upd fa n 0) (upd he n (-1)) (n + 1) nv du ta w mp mi k nt fu re) ++ mW z2 a2 0 (n + 1) w gn (upd lk n (nI v)) (upd pu n 100) fa (upd he n (-1)) nv of mp mi k nt fu re) H := hP
      have hD : va_D (nw s) (oW o cJ u9 (xW z a (upd lv n 1) (upd lk n (nI v)) (upd pu n 100) (upd fa n 0) (upd he n (-1)) (n + 1) nv du ta w mp mi k nt fu re) ++ mW z2 a2 0 (n + 1) w gn (upd lk n (nI v)) (upd pu n 100) fa (upd he n (-1)) nv of mp mi k nt fu re) := hD
      have hS := hS9
      have eM : (mW z2 a2 0 (n + 1) w gn (upd lk n (nI v)) (upd pu n 100) fa (upd he n (-1)) nv of mp mi k nt fu re) = mW z2 a2 0 (n + 1) w gn (upd lk n (nI v)) (upd pu n 100) (upd fa n 0) (upd he n (-1)) nv of mp mi k nt fu re := by rw [← (iv_addPerson hI hv rfl hn9).2]
      rw [eM] at hP hD
      rw [show r7 = nI n from hw7]
      refine lv_istore (lv' := [(6, .int (nI n)), (5, .int 0), (0, .ref b), (1, .ref (a 0)), (2, .ref (a2 0)), (3, .ref o), (4, .int (nI r))]) hx hb dL_law_235 hl (by decide) rfl (fun ls hl => ?_)
      refine lv_aload_n hx hb dL_law_237 rfl (lv_at hl 4 rfl) ?_
      refine vp_callSi (W.runV (As := []) (rest := []) hC (c_X1_thrown l) (cwV 0 hC.2.2.2.2 (gi_V mM_L_106 mV_X1_thrown mS_X1_thrown mI_MissRegistryModel mC_X1_thrown) rfl rfl rfl (by decide +kernel) ⟨Nat.le_of_ble_eq_true rfl, Nat.le_of_ble_eq_true rfl⟩) (mpre hK2 (wj_Pr hP)) rfl rfl hl.1 rfl (lv_room (Nat.le_of_ble_eq_true rfl)) dL_law_238 ⟨(show _ ≤ 601024 by omega), (show _ ≤ 7293034 by omega)⟩) (fun r8 hr8 => ?_)
      rw [show r8 = 0 from hr8]
      refine lv_iload hx hb dL_law_241 (lv_at hl 1 rfl) ?_
      refine lv_icmp_eq (tgt := 248) hx hb dL_law_243 (by decide) (fun c_243 => ?_) (fun c_243 => ?_)
      · refine lv_iload hx hb dL_law_248 (lv_at hl 1 rfl) ?_
        refine lv_if_ne (tgt := 265) hx hb dL_law_250 (by decide) (fun c_250 => ?_) (fun c_250 => ?_)
        · exact absurd rfl c_250
        · refine lv_aload_n hx hb dL_law_253 rfl (lv_at hl 5 rfl) ?_
          refine lv_iconst (v := 0) hx hb dL_law_254 (by decide) ?_
          refine w_lald hC hJ (wj_Pl hP) dL_law_255 ?_
          refine lv_iload hx hb dL_law_256 (lv_at hl 0 rfl) ?_
          refine lv_i2l hx hb dL_law_258 rfl ?_
          refine w_lcmp hx hb dL_law_259 hu9 ?_
          refine lv_if_eq (tgt := 265) hx hb dL_law_260 (by decide) (fun c_260 => ?_) (fun c_260 => ?_)
          · refine lv_goto (tgt := 1948) hx hb dL_law_265 (by decide) ?_
            exact kk _ _ _ _ _ ⟨(upd lv n 1), (upd lk n (nI v)), (upd pu n 100), (upd fa n 0), (upd he n (-1)), (n + 1), nv, du, ta, w, mp, mi, k, nt, fu, re, gn, of, 0, u9, (iv_addPerson hI hv rfl hn9).1, hP, hD, hS⟩ (by omega) (by omega) (lv_sub hl [2, 3, 4, 5, 6] rfl)
          · exact absurd rfl c_260
      · exact absurd rfl c_243
    · refine lv_aload_n hx hb dL_law_212 rfl (lv_at hl 1 rfl) ?_
      refine lv_aload_n hx hb dL_law_213 rfl (lv_at hl 0 rfl) ?_
      refine lv_iload hx hb dL_law_214 (lv_at hl 4 rfl) ?_
      refine lv_iconst (v := 1) hx hb dL_law_216 (by decide) ?_
      refine lv_iadd hx hb dL_law_217 ?_
      refine w_sld hx hb hX hbl hbA hS hL (r + 1) (nI_1 r) (by omega) hx1 dL_law_218 ?_
      refine lv_aload_n hx hb dL_law_219 rfl (lv_at hl 3 rfl) ?_
      have hPO := wj_Pl hP
      have hDO := wj_Dl hD
      have hF := wj_Fl hD hS hA
      refine va_calli (vx_runSW (As := [.ref (a 0), .int x, .ref o]) (rest := []) hC (w_addPerson_b l hst H.size x h1 h2 (by omega)) (vx_cwSW 3 hC.2.2.2.2 (gi_S mM_L_100 mT_L_addPerson mI_MissRegistryLaw mC_L_addPerson) rfl rfl rfl (by decide +kernel) ⟨Nat.le_of_ble_eq_true rfl, Nat.le_of_ble_eq_true rfl⟩) ⟨fun a1 U g mk q => ⟨q.1, q.2.1, q.2.2.1, va_K.moved (u := U) (U := U.calling g mk a1) (Vm.Alike.refl U.vm) q.2.2.2.1, va_K.moved (u := U) (U := U.calling g mk a1) (Vm.Alike.refl U.vm) q.2.2.2.2.1, ⟨q.2.2.2.2.2.1, tH.same (u := U) (U := U.calling g mk a1) rfl q.2.2.2.2.2.2.1, tN.moved (u := U) (U := U.calling g mk a1) (Vm.Alike.refl U.vm) q.2.2.2.2.2.2.2⟩⟩, fun U hU hW => ⟨rfl, by rw [hU], by rw [hU]; exact hPO, va_K.moved hW.alike hK, va_K.moved hW.alike hJ, hDO.weaken (fun _ _ _ _ => trivial), by rw [hU]; exact (hT.at hS).warm hW, hN.moved hW.alike⟩⟩ rfl rfl hl.1 rfl (lv_room (Nat.le_of_ble_eq_true rfl)) dL_law_220 ⟨(show _ ≤ 601024 by omega), (show _ ≤ 7293034 by omega)⟩) hS (fun q _ h => hF q h) hF (fun r9 u9 t H locs ht hvm hw9 hB hz9 hk9 hS9 => ?_)
      obtain ⟨hP1, hD1⟩ := hB
      rw [ht] at hP1
      obtain ⟨hP, hD⟩ := wj_l hP hD hk9 hF hP1 hD1
      rw [show r9 = 2 from hw9]
      have hP : va_P D vwCl (oW o cJ g (xW z a lv lk pu fa he n nv du ta w mp mi k nt fu re) ++ mW z2 a2 th n w gn lk pu fa he nv of mp mi k nt fu re) H := hP
      have hD : va_D (nw s) (oW o cJ g (xW z a lv lk pu fa he n nv du ta w mp mi k nt fu re) ++ mW z2 a2 th n w gn lk pu fa he nv of mp mi k nt fu re) := hD
      have hS := hS9
      refine lv_istore (lv' := [(5, .int 2), (0, .ref b), (1, .ref (a 0)), (2, .ref (a2 0)), (3, .ref o), (4, .int (nI r))]) hx hb dL_law_223 hl (by decide) rfl (fun ls hl => ?_)
      refine lv_aload_n hx hb dL_law_225 rfl (lv_at hl 3 rfl) ?_
      refine lv_aload_n hx hb dL_law_226 rfl (lv_at hl 1 rfl) ?_
      refine lv_iload hx hb dL_law_227 (lv_at hl 5 rfl) ?_
      refine lv_iconst (v := 1) hx hb dL_law_229 (by decide) ?_
      refine lv_iadd hx hb dL_law_230 ?_
      refine w_sld hx hb hX hbl hbA hS hL (r + 1) (nI_1 r) (by omega) hx1 dL_law_231 ?_
      have hPM := wj_Pr hP
      have hDM := wj_Dr hD
      have hF := wj_Fr hD hS hA
      refine va_calli (va_runV (As := [.int x]) (rest := []) hC (c_X1_addPerson_b l H.size x h1 h2 (by omega)) (cwV 1 hC.2.2.2.2 (gi_V mM_L_105 mV_X1_addPerson mS_X1_addPerson mI_MissRegistryModel mC_X1_addPerson) rfl rfl rfl (by decide +kernel) ⟨Nat.le_of_ble_eq_true rfl, Nat.le_of_ble_eq_true rfl⟩) ⟨fun a1 U g mk q => ⟨q.1, q.2.1, ⟨q.2.2.1.1, va_K.moved (u := U) (U := U.calling g mk a1) (Vm.Alike.refl U.vm) q.2.2.1.2⟩, q.2.2.2⟩, va_recv hK2 hPM (ci := 1) (q0 := 0) rfl rfl, fun U hU hW => ⟨rfl, by rw [hU], ⟨by rw [hU]; exact hPM, va_K.moved hW.alike hK2⟩, hDM.weaken (fun _ _ _ _ => trivial)⟩⟩ rfl rfl hl.1 rfl (lv_room (Nat.le_of_ble_eq_true rfl)) dL_law_232 ⟨(show _ ≤ 601024 by omega), (show _ ≤ 7293034 by omega)⟩) hS (fun q _ h => hF q h) hF (fun r7 u7 t H locs ht hvm hw7 hB hz9 hk9 hS9 => ?_)
      obtain ⟨hP1, hK1, hD1⟩ := hB
      rw [ht] at hP1
      obtain ⟨hP, hD⟩ := wj_r hP hD hk9 hF hP1 hD1
      have hP : va_P D vwCl (oW o cJ g (xW z a lv lk pu fa he n nv du ta w mp mi k nt fu re) ++ mW z2 a2 2 n w gn lk pu fa he nv of mp mi k nt fu re) H := hP
      have hD : va_D (nw s) (oW o cJ g (xW z a lv lk pu fa he n nv du ta w mp mi k nt fu re) ++ mW z2 a2 2 n w gn lk pu fa he nv of mp mi k nt fu re) := hD
      have hS := hS9
      rw [show r7 = 0 from hw7]
      refine lv_istore (lv' := [(6, .int 0), (5, .int 2), (0, .ref b), (1, .ref (a 0)), (2, .ref (a2 0)), (3, .ref o), (4, .int (nI r))]) hx hb dL_law_235 hl (by decide) rfl (fun ls hl => ?_)
      refine lv_aload_n hx hb dL_law_237 rfl (lv_at hl 4 rfl) ?_
      refine vp_callSi (W.runV (As := []) (rest := []) hC (c_X1_thrown l) (cwV 0 hC.2.2.2.2 (gi_V mM_L_106 mV_X1_thrown mS_X1_thrown mI_MissRegistryModel mC_X1_thrown) rfl rfl rfl (by decide +kernel) ⟨Nat.le_of_ble_eq_true rfl, Nat.le_of_ble_eq_true rfl⟩) (mpre hK2 (wj_Pr hP)) rfl rfl hl.1 rfl (lv_room (Nat.le_of_ble_eq_true rfl)) dL_law_238 ⟨(show _ ≤ 601024 by omega), (show _ ≤ 7293034 by omega)⟩) (fun r8 hr8 => ?_)
      rw [show r8 = 2 from hr8]
      refine lv_iload hx hb dL_law_241 (lv_at hl 1 rfl) ?_
      refine lv_icmp_eq (tgt := 248) hx hb dL_law_243 (by decide) (fun c_243 => ?_) (fun c_243 => ?_)
      · refine lv_iload hx hb dL_law_248 (lv_at hl 1 rfl) ?_
        refine lv_if_ne (tgt := 265) hx hb dL_law_250 (by decide) (fun c_250 => ?_) (fun c_250 => ?_)
        · refine lv_goto (tgt := 1948) hx hb dL_law_265 (by decide) ?_
          exact kk _ _ _ _ _ ⟨lv, lk, pu, fa, he, n, nv, du, ta, w, mp, mi, k, nt, fu, re, gn, of, 2, g, hI, hP, hD, hS⟩ (by omega) (by omega) (lv_sub hl [2, 3, 4, 5, 6] rfl)
        · exact absurd c_250 (by decide)
      · exact absurd rfl c_243

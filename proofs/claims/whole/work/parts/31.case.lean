set_option maxHeartbeats 8000000 in
set_option maxRecDepth 100000 in
theorem lc_0 {p : Program} {l : Launch} {e : Env} {s : State} {m : MethodId} {below : List Frame} {meth : Method} {c : Code} {H : Heap} {locs : List Loc} {cells slots : Nat} {Q : State → Prop} {ls : Array Slot} {b L : Nat} {xs : Nat → Int32} {D : va_G} {z z2 : ClassId × ClassId} {cJ : ClassId} {q9 t9 a a2 : Nat → Nat} {o : Nat} {lv lk pu fa he : Nat → Int32} {n : Nat} {nv du ta : Nat → Int32} {w : Nat} {mp mi : Nat → Int32} {k : Nat} {nt fu re : Int32} {gn of : Nat → Int32} {th : Int32} {g : Nat → Int64} {r : Nat} (X : LX p l s m c b L xs D z z2 cJ q9 t9) (hI : IV lv lk fa he n nv du w k gn of) (hP : va_P D vwCl (oW o cJ g (xW z a lv lk pu fa he n nv du ta w mp mi k nt fu re) ++ mW z2 a2 th n w gn lk pu fa he nv of mp mi k nt fu re) H) (hD : va_D (nw s) (oW o cJ g (xW z a lv lk pu fa he n nv du ta w mp mi k nt fu re) ++ mW z2 a2 th n w gn lk pu fa he nv of mp mi k nt fu re)) (hS : va_S (nw s) s.heap H locs) (hcl : cells + 12 ≤ 601024) (hsl : slots + 100 ≤ 7293034) (hr : r + 2 < L) (hl : lv_has ls 9 [(0, .ref b), (1, .ref (a 0)), (2, .ref (a2 0)), (3, .ref o), (4, .int (nI r))]) (kk : ∀ (H1 : Heap) (locs1 : List Loc) (c1 s1 : Nat) (ls1 : Array Slot), Jn D z z2 cJ a a2 o s H1 locs1 → c1 ≤ cells + 11 → s1 ≤ slots + 94 → lv_has ls1 9 [(0, .ref b), (1, .ref (a 0)), (2, .ref (a2 0)), (3, .ref o), (4, .int (nI r))] → W p l e room_1 s m #[.ref b] below meth c H1 locs1 c1 s1 Q (F0 m 1948 ls1 [])) : W p l e room_1 s m #[.ref b] below meth c H locs cells slots Q (F0 m 212 ls []) := by
  obtain ⟨hC, hst, ⟨hX, hbl, hL⟩, ⟨hK, hK2, hJ⟩, hT, hN, hE⟩ := X
  have hx := hC.1
  have hb := hC.2.1
  have hA : ∀ q : Nat, s.heap.size ≤ q → nw s q := fun q h => h
  have hbA : ¬ nw s b := Nat.not_le.mpr hbl
  have hn := hI.1.1
  have hw := hI.1.2.1
  have hk := hI.1.2.2
  obtain ⟨x, hx1⟩ : ∃ x : Int32, xs (r + 1) = x := ⟨_, rfl⟩
  obtain ⟨y, hx2⟩ : ∃ y : Int32, xs (r + 2) = y := ⟨_, rfl⟩
  by_cases hbad : x < 0 ∨ ¬ x ≤ 99
  · refine lv_aload_n hx hb dL_law_212 rfl (lv_at hl 1 rfl) ?_
    refine lv_aload_n hx hb dL_law_213 rfl (lv_at hl 0 rfl) ?_
    refine lv_iload hx hb dL_law_214 (lv_at hl 4 rfl) ?_
    refine lv_iconst (v := 1) hx hb dL_law_216 (by decide) ?_
    refine lv_iadd hx hb dL_law_217 ?_
    refine w_sld hx hb hX hbl hbA hS hL (r + 1) (nI_1 r) (by omega) hx1 dL_law_218 ?_
    refine lv_aload_n hx hb dL_law_219 rfl (lv_at hl 3 rfl) ?_
    have hPO := wj_Pl hP
    have hDO := wj_Dl hD
    have hF := wj_Fl hD hS hA
    refine va_calli (vx_runSW (As := [.ref (a 0), .int x, .ref o]) (rest := []) hC (w_addPerson_a l hst H.size x hbad) (vx_cwSW 3 hC.2.2.2.2 (gi_S mM_L_100 mT_L_addPerson mI_MissRegistryLaw mC_L_addPerson) rfl rfl rfl (by decide +kernel) ⟨Nat.le_of_ble_eq_true rfl, Nat.le_of_ble_eq_true rfl⟩) ⟨fun a1 U g mk q => ⟨q.1, q.2.1, q.2.2.1, va_K.moved (u := U) (U := U.calling g mk a1) (Vm.Alike.refl U.vm) q.2.2.2.1, va_K.moved (u := U) (U := U.calling g mk a1) (Vm.Alike.refl U.vm) q.2.2.2.2.1, ⟨q.2.2.2.2.2.1, tH.same (u := U) (U := U.calling g mk a1) rfl q.2.2.2.2.2.2.1, tN.moved (u := U) (U := U.calling g mk a1) (Vm.Alike.refl U.vm) q.2.2.2.2.2.2.2⟩⟩, fun U hU hW => ⟨rfl, by rw [hU], by rw [hU]; exact hPO, va_K.moved hW.alike hK, va_K.moved hW.alike hJ, hDO.weaken (fun _ _ _ _ => trivial), by rw [hU]; exact (hT.at hS).warm hW, hN.moved hW.alike⟩⟩ rfl rfl hl.1 rfl (lv_room (Nat.le_of_ble_eq_true rfl)) dL_law_220 ⟨(show _ ≤ 601024 by omega), (show _ ≤ 7293034 by omega)⟩) hS (fun q _ h => hF q h) hF (fun r9 u9 t H locs ht hvm hw9 hB hz9 hk9 hS9 => ?_)
    obtain ⟨hP1, hD1⟩ := hB
    rw [ht] at hP1
    obtain ⟨hP, hD⟩ := wj_l hP hD hk9 hF hP1 hD1
    rw [show r9 = 1 from hw9]
    have hP : va_P D vwCl (oW o cJ g (xW z a lv lk pu fa he n nv du ta w mp mi k nt fu re) ++ mW z2 a2 th n w gn lk pu fa he nv of mp mi k nt fu re) H := hP
    have hD : va_D (nw s) (oW o cJ g (xW z a lv lk pu fa he n nv du ta w mp mi k nt fu re) ++ mW z2 a2 th n w gn lk pu fa he nv of mp mi k nt fu re) := hD
    have hS := hS9
    refine lv_istore (lv' := [(5, .int 1), (0, .ref b), (1, .ref (a 0)), (2, .ref (a2 0)), (3, .ref o), (4, .int (nI r))]) hx hb dL_law_223 hl (by decide) rfl (fun ls hl => ?_)
    refine lv_aload_n hx hb dL_law_225 rfl (lv_at hl 3 rfl) ?_
    refine lv_aload_n hx hb dL_law_226 rfl (lv_at hl 1 rfl) ?_
    refine lv_iload hx hb dL_law_227 (lv_at hl 5 rfl) ?_
    refine lv_iconst (v := 1) hx hb dL_law_229 (by decide) ?_
    refine lv_iadd hx hb dL_law_230 ?_
    refine w_sld hx hb hX hbl hbA hS hL (r + 1) (nI_1 r) (by omega) hx1 dL_law_231 ?_
    have hPM := wj_Pr hP
    have hDM := wj_Dr hD
    have hF := wj_Fr hD hS hA
    refine va_calli (va_runV (As := [.int x]) (rest := []) hC (c_X1_addPerson_a l H.size x hbad) (cwV 1 hC.2.2.2.2 (gi_V mM_L_105 mV_X1_addPerson mS_X1_addPerson mI_MissRegistryModel mC_X1_addPerson) rfl rfl rfl (by decide +kernel) ⟨Nat.le_of_ble_eq_true rfl, Nat.le_of_ble_eq_true rfl⟩) ⟨fun a1 U g mk q => ⟨q.1, q.2.1, ⟨q.2.2.1.1, va_K.moved (u := U) (U := U.calling g mk a1) (Vm.Alike.refl U.vm) q.2.2.1.2⟩, q.2.2.2⟩, va_recv hK2 hPM (ci := 1) (q0 := 0) rfl rfl, fun U hU hW => ⟨rfl, by rw [hU], ⟨by rw [hU]; exact hPM, va_K.moved hW.alike hK2⟩, hDM.weaken (fun _ _ _ _ => trivial)⟩⟩ rfl rfl hl.1 rfl (lv_room (Nat.le_of_ble_eq_true rfl)) dL_law_232 ⟨(show _ ≤ 601024 by omega), (show _ ≤ 7293034 by omega)⟩) hS (fun q _ h => hF q h) hF (fun r7 u7 t H locs ht hvm hw7 hB hz9 hk9 hS9 => ?_)
    obtain ⟨hP1, hK1, hD1⟩ := hB
    rw [ht] at hP1
    obtain ⟨hP, hD⟩ := wj_r hP hD hk9 hF hP1 hD1
    have hP : va_P D vwCl (oW o cJ g (xW z a lv lk pu fa he n nv du ta w mp mi k nt fu re) ++ mW z2 a2 1 n w gn lk pu fa he nv of mp mi k nt fu re) H := hP
    have hD : va_D (nw s) (oW o cJ g (xW z a lv lk pu fa he n nv du ta w mp mi k nt fu re) ++ mW z2 a2 1 n w gn lk pu fa he nv of mp mi k nt fu re) := hD
    have hS := hS9
    rw [show r7 = 0 from hw7]
    refine lv_istore (lv' := [(6, .int 0), (5, .int 1), (0, .ref b), (1, .ref (a 0)), (2, .ref (a2 0)), (3, .ref o), (4, .int (nI r))]) hx hb dL_law_235 hl (by decide) rfl (fun ls hl => ?_)
    refine lv_aload_n hx hb dL_law_237 rfl (lv_at hl 4 rfl) ?_
    refine vp_callSi (W.runV (As := []) (rest := []) hC (c_X1_thrown l) (cwV 0 hC.2.2.2.2 (gi_V mM_L_106 mV_X1_thrown mS_X1_thrown mI_MissRegistryModel mC_X1_thrown) rfl rfl rfl (by decide +kernel) ⟨Nat.le_of_ble_eq_true rfl, Nat.le_of_ble_eq_true rfl⟩) (mpre hK2 (wj_Pr hP)) rfl rfl hl.1 rfl (lv_room (Nat.le_of_ble_eq_true rfl)) dL_law_238 ⟨(show _ ≤ 601024 by omega), (show _ ≤ 7293034 by omega)⟩) (fun r8 hr8 => ?_)
    rw [show r8 = 1 from hr8]
    refine lv_iload hx hb dL_law_241 (lv_at hl 1 rfl) ?_
    refine lv_icmp_eq (tgt := 248) hx hb dL_law_243 (by decide) (fun c_243 => ?_) (fun c_243 => ?_)
    · refine lv_iload hx hb dL_law_248 (lv_at hl 1 rfl) ?_
      refine lv_if_ne (tgt := 265) hx hb dL_law_250 (by decide) (fun c_250 => ?_) (fun c_250 => ?_)
      · refine lv_goto (tgt := 1948) hx hb dL_law_265 (by decide) ?_
        exact kk _ _ _ _ _ ⟨lv, lk, pu, fa, he, n, nv, du, ta, w, mp, mi, k, nt, fu, re, gn, of, 1, g, hI, hP, hD, hS⟩ (by omega) (by omega) (lv_sub hl [2, 3, 4, 5, 6] rfl)
      · exact absurd c_250 (by decide)
    · exact absurd rfl c_243
  · have h1 : ¬ x < 0 := fun q => hbad (Or.inl q)
    have h2 : x ≤ 99 := Classical.not_not.mp (fun q => hbad (Or.inr q))
    by_cases hn9 : n < 10
    · obtain ⟨v, hv, ev⟩ := nI_of2 (x := x) (M := 99) (n := 99) rfl h1 h2
      subst ev
      refine lv_aload_n hx hb dL_law_212 rfl (lv_at hl 1 rfl) ?_
      refine lv_aload_n hx hb dL_law_213 rfl (lv_at hl 0 rfl) ?_
      refine lv_iload hx hb dL_law_214 (lv_at hl 4 rfl) ?_
      refine lv_iconst (v := 1) hx hb dL_law_216 (by decide) ?_
      refine lv_iadd hx hb dL_law_217 ?_
      refine w_sld hx hb hX hbl hbA hS hL (r + 1) (nI_1 r) (by omega) hx1 dL_law_218 ?_
      refine lv_aload_n hx hb dL_law_219 rfl (lv_at hl 3 rfl) ?_
      have hPO := wj_Pl hP
      have hDO := wj_Dl hD
      have hF := wj_Fl hD hS hA
      refine va_calli (vx_runSW (As := [.ref (a 0), .int (nI v), .ref o]) (rest := []) hC (w_addPerson l H.size (nI v) h1 h2 hn9) (vx_cwSW 3 hC.2.2.2.2 (gi_S mM_L_100 mT_L_addPerson mI_MissRegistryLaw mC_L_addPerson) rfl rfl rfl (by decide +kernel) ⟨Nat.le_of_ble_eq_true rfl, Nat.le_of_ble_eq_true rfl⟩) ⟨fun a1 U g mk q => ⟨q.1, q.2.1, q.2.2.1, va_K.moved (u := U) (U := U.calling g mk a1) (Vm.Alike.refl U.vm) q.2.2.2.1, va_K.moved (u := U) (U := U.calling g mk a1) (Vm.Alike.refl U.vm) q.2.2.2.2.1, q.2.2.2.2.2⟩, fun U hU hW => ⟨rfl, by rw [hU], by rw [hU]; exact hPO, va_K.moved hW.alike hK, va_K.moved hW.alike hJ, hDO.weaken (fun _ _ _ _ => trivial)⟩⟩ rfl rfl hl.1 rfl (lv_room (Nat.le_of_ble_eq_true rfl)) dL_law_220 ⟨(show _ ≤ 601024 by omega), (show _ ≤ 7293034 by omega)⟩) hS (fun q _ h => hF q h) hF (fun r9 u9 t H locs ht hvm hw9 hB hz9 hk9 hS9 => ?_)
      obtain ⟨hP1, hD1⟩ := hB
      rw [ht] at hP1
      obtain ⟨hP, hD⟩ := wj_l hP hD hk9 hF hP1 hD1
      obtain ⟨hr9, hu9⟩ := hw9
      rw [hr9]
      have hP : va_P D vwCl (oW o cJ u9 (xW z a (upd lv n 1) (upd lk n (nI v)) (upd pu n 100) (upd fa n 0) (upd he n (-1)) (n + 1) nv du ta w mp mi k nt fu re) ++ mW z2 a2 th n w gn lk pu fa he nv of mp mi k nt fu re) H := hP
      have hD : va_D (nw s) (oW o cJ u9 (xW z a (upd lv n 1) (upd lk n (nI v)) (upd pu n 100) (upd fa n 0) (upd he n (-1)) (n + 1) nv du ta w mp mi k nt fu re) ++ mW z2 a2 th n w gn lk pu fa he nv of mp mi k nt fu re) := hD
      have hS := hS9
      refine lv_istore (lv' := [(5, .int 0), (0, .ref b), (1, .ref (a 0)), (2, .ref (a2 0)), (3, .ref o), (4, .int (nI r))]) hx hb dL_law_223 hl (by decide) rfl (fun ls hl => ?_)
      refine lv_aload_n hx hb dL_law_225 rfl (lv_at hl 3 rfl) ?_
      refine lv_aload_n hx hb dL_law_226 rfl (lv_at hl 1 rfl) ?_
      refine lv_iload hx hb dL_law_227 (lv_at hl 5 rfl) ?_
      refine lv_iconst (v := 1) hx hb dL_law_229 (by decide) ?_
      refine lv_iadd hx hb dL_law_230 ?_
      refine w_sld hx hb hX hbl hbA hS hL (r + 1) (nI_1 r) (by omega) hx1 dL_law_231 ?_
      have hPM := wj_Pr hP
      have hDM := wj_Dr hD
      have hF := wj_Fr hD hS hA
      refine va_calli (va_runV (As := [.int (nI v)]) (rest := []) hC (c_X1_addPerson l H.size (nI v) h1 h2 hn9) (cwV 1 hC.2.2.2.2 (gi_V mM_L_105 mV_X1_addPerson mS_X1_addPerson mI_MissRegistryModel mC_X1_addPerson) rfl rfl rfl (by decide +kernel) ⟨Nat.le_of_ble_eq_true rfl, Nat.le_of_ble_eq_true rfl⟩) ⟨fun a1 U g mk q => ⟨q.1, q.2.1, ⟨q.2.2.1.1, va_K.moved (u := U) (U := U.calling g mk a1) (Vm.Alike.refl U.vm) q.2.2.1.2⟩, q.2.2.2⟩, va_recv hK2 hPM (ci := 1) (q0 := 0) rfl rfl, fun U hU hW => ⟨rfl, by rw [hU], ⟨by rw [hU]; exact hPM, va_K.moved hW.alike hK2⟩, hDM.weaken (fun _ _ _ _ => trivial)⟩⟩ rfl rfl hl.1 rfl (lv_room (Nat.le_of_ble_eq_true rfl)) dL_law_232 ⟨(show _ ≤ 601024 by omega), (show _ ≤ 7293034 by omega)⟩) hS (fun q _ h => hF q h) hF (fun r7 u7 t H locs ht hvm hw7 hB hz9 hk9 hS9 => ?_)
      obtain ⟨hP1, hK1, hD1⟩ := hB
      rw [ht] at hP1
      obtain ⟨hP, hD⟩ := wj_r hP hD hk9 hF hP1 hD1
      have hP : va_P D vwCl (oW o cJ u9 (xW z a (upd lv n 1) (upd lk n (nI v)) (upd pu n 100) (upd fa n 0) (upd he n (-1)) (n + 1) nv du ta w mp mi k nt fu re) ++ mW z2 a2 0 (n + 1) w gn (upd lk n (nI v)) (upd pu n 100) fa (upd he n (-1)) nv of mp mi k nt fu re) H := hP
      have hD : va_D (nw s) (oW o cJ u9 (xW z a (upd lv n 1) (upd lk n (nI v)) (upd pu n 100) (upd fa n 0) (upd he n (-1)) (n + 1) nv du ta w mp mi k nt fu re) ++ mW z2 a2 0 (n + 1) w gn (upd lk n (nI v)) (upd pu n 100) fa (upd he n (-1)) nv of mp mi k nt fu re) := hD
      have hS := hS9
      have eM : (mW z2 a2 0 (n + 1) w gn (upd lk n (nI v)) (upd pu n 100) fa (upd he n (-1)) nv of mp mi k nt fu re) = mW z2 a2 0 (n + 1) w gn (upd lk n (nI v)) (upd pu n 100) (upd fa n 0) (upd he n (-1)) nv of mp mi k nt fu re := by rw [← (iv_addPerson hI hv rfl hn9).2]
      rw [eM] at hP hD
      rw [show r7 = nI n from hw7]
      refine lv_istore (lv' := [(6, .int (nI n)), (5, .int 0), (0, .ref b), (1, .ref (a 0)), (2, .ref (a2 0)), (3, .ref o), (4, .int (nI r))]) hx hb dL_law_235 hl (by decide) rfl (fun ls hl => ?_)
      refine lv_aload_n hx hb dL_law_237 rfl (lv_at hl 4 rfl) ?_
      refine vp_callSi (W.runV (As := []) (rest := []) hC (c_X1_thrown l) (cwV 0 hC.2.2.2.2 (gi_V mM_L_106 mV_X1_thrown mS_X1_thrown mI_MissRegistryModel mC_X1_thrown) rfl rfl rfl (by decide +kernel) ⟨Nat.le_of_ble_eq_true rfl, Nat.le_of_ble_eq_true rfl⟩) (mpre hK2 (wj_Pr hP)) rfl rfl hl.1 rfl (lv_room (Nat.le_of_ble_eq_true rfl)) dL_law_238 ⟨(show _ ≤ 601024 by omega), (show _ ≤ 7293034 by omega)⟩) (fun r8 hr8 => ?_)
      rw [show r8 = 0 from hr8]
      refine lv_iload hx hb dL_law_241 (lv_at hl 1 rfl) ?_
      refine lv_icmp_eq (tgt := 248) hx hb dL_law_243 (by decide) (fun c_243 => ?_) (fun c_243 => ?_)
      · refine lv_iload hx hb dL_law_248 (lv_at hl 1 rfl) ?_
        refine lv_if_ne (tgt := 265) hx hb dL_law_250 (by decide) (fun c_250 => ?_) (fun c_250 => ?_)
        · exact absurd rfl c_250
        · refine lv_aload_n hx hb dL_law_253 rfl (lv_at hl 5 rfl) ?_
          refine lv_iconst (v := 0) hx hb dL_law_254 (by decide) ?_
          refine w_lald hC hJ (wj_Pl hP) dL_law_255 ?_
          refine lv_iload hx hb dL_law_256 (lv_at hl 0 rfl) ?_
          refine lv_i2l hx hb dL_law_258 rfl ?_
          refine w_lcmp hx hb dL_law_259 hu9 ?_
          refine lv_if_eq (tgt := 265) hx hb dL_law_260 (by decide) (fun c_260 => ?_) (fun c_260 => ?_)
          · refine lv_goto (tgt := 1948) hx hb dL_law_265 (by decide) ?_
            exact kk _ _ _ _ _ ⟨(upd lv n 1), (upd lk n (nI v)), (upd pu n 100), (upd fa n 0), (upd he n (-1)), (n + 1), nv, du, ta, w, mp, mi, k, nt, fu, re, gn, of, 0, u9, (iv_addPerson hI hv rfl hn9).1, hP, hD, hS⟩ (by omega) (by omega) (lv_sub hl [2, 3, 4, 5, 6] rfl)
          · exact absurd rfl c_260
      · exact absurd rfl c_243
    · refine lv_aload_n hx hb dL_law_212 rfl (lv_at hl 1 rfl) ?_
      refine lv_aload_n hx hb dL_law_213 rfl (lv_at hl 0 rfl) ?_
      refine lv_iload hx hb dL_law_214 (lv_at hl 4 rfl) ?_
      refine lv_iconst (v := 1) hx hb dL_law_216 (by decide) ?_
      refine lv_iadd hx hb dL_law_217 ?_
      refine w_sld hx hb hX hbl hbA hS hL (r + 1) (nI_1 r) (by omega) hx1 dL_law_218 ?_
      refine lv_aload_n hx hb dL_law_219 rfl (lv_at hl 3 rfl) ?_
      have hPO := wj_Pl hP
      have hDO := wj_Dl hD
      have hF := wj_Fl hD hS hA
      refine va_calli (vx_runSW (As := [.ref (a 0), .int x, .ref o]) (rest := []) hC (w_addPerson_b l hst H.size x h1 h2 (by omega)) (vx_cwSW 3 hC.2.2.2.2 (gi_S mM_L_100 mT_L_addPerson mI_MissRegistryLaw mC_L_addPerson) rfl rfl rfl (by decide +kernel) ⟨Nat.le_of_ble_eq_true rfl, Nat.le_of_ble_eq_true rfl⟩) ⟨fun a1 U g mk q => ⟨q.1, q.2.1, q.2.2.1, va_K.moved (u := U) (U := U.calling g mk a1) (Vm.Alike.refl U.vm) q.2.2.2.1, va_K.moved (u := U) (U := U.calling g mk a1) (Vm.Alike.refl U.vm) q.2.2.2.2.1, ⟨q.2.2.2.2.2.1, tH.same (u := U) (U := U.calling g mk a1) rfl q.2.2.2.2.2.2.1, tN.moved (u := U) (U := U.calling g mk a1) (Vm.Alike.refl U.vm) q.2.2.2.2.2.2.2⟩⟩, fun U hU hW => ⟨rfl, by rw [hU], by rw [hU]; exact hPO, va_K.moved hW.alike hK, va_K.moved hW.alike hJ, hDO.weaken (fun _ _ _ _ => trivial), by rw [hU]; exact (hT.at hS).warm hW, hN.moved hW.alike⟩⟩ rfl rfl hl.1 rfl (lv_room (Nat.le_of_ble_eq_true rfl)) dL_law_220 ⟨(show _ ≤ 601024 by omega), (show _ ≤ 7293034 by omega)⟩) hS (fun q _ h => hF q h) hF (fun r9 u9 t H locs ht hvm hw9 hB hz9 hk9 hS9 => ?_)
      obtain ⟨hP1, hD1⟩ := hB
      rw [ht] at hP1
      obtain ⟨hP, hD⟩ := wj_l hP hD hk9 hF hP1 hD1
      rw [show r9 = 2 from hw9]
      have hP : va_P D vwCl (oW o cJ g (xW z a lv lk pu fa he n nv du ta w mp mi k nt fu re) ++ mW z2 a2 th n w gn lk pu fa he nv of mp mi k nt fu re) H := hP
      have hD : va_D (nw s) (oW o cJ g (xW z a lv lk pu fa he n nv du ta w mp mi k nt fu re) ++ mW z2 a2 th n w gn lk pu fa he nv of mp mi k nt fu re) := hD
      have hS := hS9
      refine lv_istore (lv' := [(5, .int 2), (0, .ref b), (1, .ref (a 0)), (2, .ref (a2 0)), (3, .ref o), (4, .int (nI r))]) hx hb dL_law_223 hl (by decide) rfl (fun ls hl => ?_)
      refine lv_aload_n hx hb dL_law_225 rfl (lv_at hl 3 rfl) ?_
      refine lv_aload_n hx hb dL_law_226 rfl (lv_at hl 1 rfl) ?_
      refine lv_iload hx hb dL_law_227 (lv_at hl 5 rfl) ?_
      refine lv_iconst (v := 1) hx hb dL_law_229 (by decide) ?_
      refine lv_iadd hx hb dL_law_230 ?_
      refine w_sld hx hb hX hbl hbA hS hL (r + 1) (nI_1 r) (by omega) hx1 dL_law_231 ?_
      have hPM := wj_Pr hP
      have hDM := wj_Dr hD
      have hF := wj_Fr hD hS hA
      refine va_calli (va_runV (As := [.int x]) (rest := []) hC (c_X1_addPerson_b l H.size x h1 h2 (by omega)) (cwV 1 hC.2.2.2.2 (gi_V mM_L_105 mV_X1_addPerson mS_X1_addPerson mI_MissRegistryModel mC_X1_addPerson) rfl rfl rfl (by decide +kernel) ⟨Nat.le_of_ble_eq_true rfl, Nat.le_of_ble_eq_true rfl⟩) ⟨fun a1 U g mk q => ⟨q.1, q.2.1, ⟨q.2.2.1.1, va_K.moved (u := U) (U := U.calling g mk a1) (Vm.Alike.refl U.vm) q.2.2.1.2⟩, q.2.2.2⟩, va_recv hK2 hPM (ci := 1) (q0 := 0) rfl rfl, fun U hU hW => ⟨rfl, by rw [hU], ⟨by rw [hU]; exact hPM, va_K.moved hW.alike hK2⟩, hDM.weaken (fun _ _ _ _ => trivial)⟩⟩ rfl rfl hl.1 rfl (lv_room (Nat.le_of_ble_eq_true rfl)) dL_law_232 ⟨(show _ ≤ 601024 by omega), (show _ ≤ 7293034 by omega)⟩) hS (fun q _ h => hF q h) hF (fun r7 u7 t H locs ht hvm hw7 hB hz9 hk9 hS9 => ?_)
      obtain ⟨hP1, hK1, hD1⟩ := hB
      rw [ht] at hP1
      obtain ⟨hP, hD⟩ := wj_r hP hD hk9 hF hP1 hD1
      have hP : va_P D vwCl (oW o cJ g (xW z a lv lk pu fa he n nv du ta w mp mi k nt fu re) ++ mW z2 a2 2 n w gn lk pu fa he nv of mp mi k nt fu re) H := hP
      have hD : va_D (nw s) (oW o cJ g (xW z a lv lk pu fa he n nv du ta w mp mi k nt fu re) ++ mW z2 a2 2 n w gn lk pu fa he nv of mp mi k nt fu re) := hD
      have hS := hS9
      rw [show r7 = 0 from hw7]
      refine lv_istore (lv' := [(6, .int 0), (5, .int 2), (0, .ref b), (1, .ref (a 0)), (2, .ref (a2 0)), (3, .ref o), (4, .int (nI r))]) hx hb dL_law_235 hl (by decide) rfl (fun ls hl => ?_)
      refine lv_aload_n hx hb dL_law_237 rfl (lv_at hl 4 rfl) ?_
      refine vp_callSi (W.runV (As := []) (rest := []) hC (c_X1_thrown l) (cwV 0 hC.2.2.2.2 (gi_V mM_L_106 mV_X1_thrown mS_X1_thrown mI_MissRegistryModel mC_X1_thrown) rfl rfl rfl (by decide +kernel) ⟨Nat.le_of_ble_eq_true rfl, Nat.le_of_ble_eq_true rfl⟩) (mpre hK2 (wj_Pr hP)) rfl rfl hl.1 rfl (lv_room (Nat.le_of_ble_eq_true rfl)) dL_law_238 ⟨(show _ ≤ 601024 by omega), (show _ ≤ 7293034 by omega)⟩) (fun r8 hr8 => ?_)
      rw [show r8 = 2 from hr8]
      refine lv_iload hx hb dL_law_241 (lv_at hl 1 rfl) ?_
      refine lv_icmp_eq (tgt := 248) hx hb dL_law_243 (by decide) (fun c_243 => ?_) (fun c_243 => ?_)
      · refine lv_iload hx hb dL_law_248 (lv_at hl 1 rfl) ?_
        refine lv_if_ne (tgt := 265) hx hb dL_law_250 (by decide) (fun c_250 => ?_) (fun c_250 => ?_)
        · refine lv_goto (tgt := 1948) hx hb dL_law_265 (by decide) ?_
          exact kk _ _ _ _ _ ⟨lv, lk, pu, fa, he, n, nv, du, ta, w, mp, mi, k, nt, fu, re, gn, of, 2, g, hI, hP, hD, hS⟩ (by omega) (by omega) (lv_sub hl [2, 3, 4, 5, 6] rfl)
        · exact absurd c_250 (by decide)
      · exact absurd rfl c_243
set_option maxHeartbeats 8000000 in
set_option maxRecDepth 100000 in
theorem lc_1 {p : Program} {l : Launch} {e : Env} {s : State} {m : MethodId} {below : List Frame} {meth : Method} {c : Code} {H : Heap} {locs : List Loc} {cells slots : Nat} {Q : State → Prop} {ls : Array Slot} {b L : Nat} {xs : Nat → Int32} {D : va_G} {z z2 : ClassId × ClassId} {cJ : ClassId} {q9 t9 a a2 : Nat → Nat} {o : Nat} {lv lk pu fa he : Nat → Int32} {n : Nat} {nv du ta : Nat → Int32} {w : Nat} {mp mi : Nat → Int32} {k : Nat} {nt fu re : Int32} {gn of : Nat → Int32} {th : Int32} {g : Nat → Int64} {r : Nat} (X : LX p l s m c b L xs D z z2 cJ q9 t9) (hI : IV lv lk fa he n nv du w k gn of) (hP : va_P D vwCl (oW o cJ g (xW z a lv lk pu fa he n nv du ta w mp mi k nt fu re) ++ mW z2 a2 th n w gn lk pu fa he nv of mp mi k nt fu re) H) (hD : va_D (nw s) (oW o cJ g (xW z a lv lk pu fa he n nv du ta w mp mi k nt fu re) ++ mW z2 a2 th n w gn lk pu fa he nv of mp mi k nt fu re)) (hS : va_S (nw s) s.heap H locs) (hcl : cells + 12 ≤ 601024) (hsl : slots + 100 ≤ 7293034) (hr : r + 2 < L) (hl : lv_has ls 9 [(0, .ref b), (1, .ref (a 0)), (2, .ref (a2 0)), (3, .ref o), (4, .int (nI r))]) (kk : ∀ (H1 : Heap) (locs1 : List Loc) (c1 s1 : Nat) (ls1 : Array Slot), Jn D z z2 cJ a a2 o s H1 locs1 → c1 ≤ cells + 11 → s1 ≤ slots + 94 → lv_has ls1 9 [(0, .ref b), (1, .ref (a 0)), (2, .ref (a2 0)), (3, .ref o), (4, .int (nI r))] → W p l e room_1 s m #[.ref b] below meth c H1 locs1 c1 s1 Q (F0 m 1948 ls1 [])) : W p l e room_1 s m #[.ref b] below meth c H locs cells slots Q (F0 m 268 ls []) := by
  obtain ⟨hC, hst, ⟨hX, hbl, hL⟩, ⟨hK, hK2, hJ⟩, hT, hN, hE⟩ := X
  have hx := hC.1
  have hb := hC.2.1
  have hA : ∀ q : Nat, s.heap.size ≤ q → nw s q := fun q h => h
  have hbA : ¬ nw s b := Nat.not_le.mpr hbl
  have hn := hI.1.1
  have hw := hI.1.2.1
  have hk := hI.1.2.2
  obtain ⟨x, hx1⟩ : ∃ x : Int32, xs (r + 1) = x := ⟨_, rfl⟩
  obtain ⟨y, hx2⟩ : ∃ y : Int32, xs (r + 2) = y := ⟨_, rfl⟩
  by_cases hbad : x < 0 ∨ ¬ x ≤ 9
  · refine lv_aload_n hx hb dL_law_268 rfl (lv_at hl 1 rfl) ?_
    refine lv_aload_n hx hb dL_law_269 rfl (lv_at hl 0 rfl) ?_
    refine lv_iload hx hb dL_law_270 (lv_at hl 4 rfl) ?_
    refine lv_iconst (v := 1) hx hb dL_law_272 (by decide) ?_
    refine lv_iadd hx hb dL_law_273 ?_
    refine w_sld hx hb hX hbl hbA hS hL (r + 1) (nI_1 r) (by omega) hx1 dL_law_274 ?_
    refine lv_aload_n hx hb dL_law_275 rfl (lv_at hl 3 rfl) ?_
    have hPO := wj_Pl hP
    have hDO := wj_Dl hD
    have hF := wj_Fl hD hS hA
    refine va_calli (vx_runSW (As := [.ref (a 0), .int x, .ref o]) (rest := []) hC (w_addWitness_a l hst H.size x hbad) (vx_cwSW 3 hC.2.2.2.2 (gi_S mM_L_110 mT_L_addWitness mI_MissRegistryLaw mC_L_addWitness) rfl rfl rfl (by decide +kernel) ⟨Nat.le_of_ble_eq_true rfl, Nat.le_of_ble_eq_true rfl⟩) ⟨fun a1 U g mk q => ⟨q.1, q.2.1, q.2.2.1, va_K.moved (u := U) (U := U.calling g mk a1) (Vm.Alike.refl U.vm) q.2.2.2.1, va_K.moved (u := U) (U := U.calling g mk a1) (Vm.Alike.refl U.vm) q.2.2.2.2.1, ⟨q.2.2.2.2.2.1, tH.same (u := U) (U := U.calling g mk a1) rfl q.2.2.2.2.2.2.1, tN.moved (u := U) (U := U.calling g mk a1) (Vm.Alike.refl U.vm) q.2.2.2.2.2.2.2⟩⟩, fun U hU hW => ⟨rfl, by rw [hU], by rw [hU]; exact hPO, va_K.moved hW.alike hK, va_K.moved hW.alike hJ, hDO.weaken (fun _ _ _ _ => trivial), by rw [hU]; exact (hT.at hS).warm hW, hN.moved hW.alike⟩⟩ rfl rfl hl.1 rfl (lv_room (Nat.le_of_ble_eq_true rfl)) dL_law_276 ⟨(show _ ≤ 601024 by omega), (show _ ≤ 7293034 by omega)⟩) hS (fun q _ h => hF q h) hF (fun r9 u9 t H locs ht hvm hw9 hB hz9 hk9 hS9 => ?_)
    obtain ⟨hP1, hD1⟩ := hB
    rw [ht] at hP1
    obtain ⟨hP, hD⟩ := wj_l hP hD hk9 hF hP1 hD1
    rw [show r9 = 1 from hw9]
    have hP : va_P D vwCl (oW o cJ g (xW z a lv lk pu fa he n nv du ta w mp mi k nt fu re) ++ mW z2 a2 th n w gn lk pu fa he nv of mp mi k nt fu re) H := hP
    have hD : va_D (nw s) (oW o cJ g (xW z a lv lk pu fa he n nv du ta w mp mi k nt fu re) ++ mW z2 a2 th n w gn lk pu fa he nv of mp mi k nt fu re) := hD
    have hS := hS9
    refine lv_istore (lv' := [(5, .int 1), (0, .ref b), (1, .ref (a 0)), (2, .ref (a2 0)), (3, .ref o), (4, .int (nI r))]) hx hb dL_law_279 hl (by decide) rfl (fun ls hl => ?_)
    refine lv_aload_n hx hb dL_law_281 rfl (lv_at hl 3 rfl) ?_
    refine lv_aload_n hx hb dL_law_282 rfl (lv_at hl 1 rfl) ?_
    refine lv_iload hx hb dL_law_283 (lv_at hl 5 rfl) ?_
    refine lv_iconst (v := 1) hx hb dL_law_285 (by decide) ?_
    refine lv_iadd hx hb dL_law_286 ?_
    refine w_sld hx hb hX hbl hbA hS hL (r + 1) (nI_1 r) (by omega) hx1 dL_law_287 ?_
    have hPM := wj_Pr hP
    have hDM := wj_Dr hD
    have hF := wj_Fr hD hS hA
    refine va_calli (va_runV (As := [.int x]) (rest := []) hC (c_X1_addWitness_a l H.size x hbad) (cwV 1 hC.2.2.2.2 (gi_V mM_L_112 mV_X1_addWitness mS_X1_addWitness mI_MissRegistryModel mC_X1_addWitness) rfl rfl rfl (by decide +kernel) ⟨Nat.le_of_ble_eq_true rfl, Nat.le_of_ble_eq_true rfl⟩) ⟨fun a1 U g mk q => ⟨q.1, q.2.1, ⟨q.2.2.1.1, va_K.moved (u := U) (U := U.calling g mk a1) (Vm.Alike.refl U.vm) q.2.2.1.2⟩, q.2.2.2⟩, va_recv hK2 hPM (ci := 1) (q0 := 0) rfl rfl, fun U hU hW => ⟨rfl, by rw [hU], ⟨by rw [hU]; exact hPM, va_K.moved hW.alike hK2⟩, hDM.weaken (fun _ _ _ _ => trivial)⟩⟩ rfl rfl hl.1 rfl (lv_room (Nat.le_of_ble_eq_true rfl)) dL_law_288 ⟨(show _ ≤ 601024 by omega), (show _ ≤ 7293034 by omega)⟩) hS (fun q _ h => hF q h) hF (fun r7 u7 t H locs ht hvm hw7 hB hz9 hk9 hS9 => ?_)
    obtain ⟨hP1, hK1, hD1⟩ := hB
    rw [ht] at hP1
    obtain ⟨hP, hD⟩ := wj_r hP hD hk9 hF hP1 hD1
    have hP : va_P D vwCl (oW o cJ g (xW z a lv lk pu fa he n nv du ta w mp mi k nt fu re) ++ mW z2 a2 1 n w gn lk pu fa he nv of mp mi k nt fu re) H := hP
    have hD : va_D (nw s) (oW o cJ g (xW z a lv lk pu fa he n nv du ta w mp mi k nt fu re) ++ mW z2 a2 1 n w gn lk pu fa he nv of mp mi k nt fu re) := hD
    have hS := hS9
    rw [show r7 = 0 from hw7]
    refine lv_istore (lv' := [(6, .int 0), (5, .int 1), (0, .ref b), (1, .ref (a 0)), (2, .ref (a2 0)), (3, .ref o), (4, .int (nI r))]) hx hb dL_law_291 hl (by decide) rfl (fun ls hl => ?_)
    refine lv_aload_n hx hb dL_law_293 rfl (lv_at hl 4 rfl) ?_
    refine vp_callSi (W.runV (As := []) (rest := []) hC (c_X1_thrown l) (cwV 0 hC.2.2.2.2 (gi_V mM_L_106 mV_X1_thrown mS_X1_thrown mI_MissRegistryModel mC_X1_thrown) rfl rfl rfl (by decide +kernel) ⟨Nat.le_of_ble_eq_true rfl, Nat.le_of_ble_eq_true rfl⟩) (mpre hK2 (wj_Pr hP)) rfl rfl hl.1 rfl (lv_room (Nat.le_of_ble_eq_true rfl)) dL_law_294 ⟨(show _ ≤ 601024 by omega), (show _ ≤ 7293034 by omega)⟩) (fun r8 hr8 => ?_)
    rw [show r8 = 1 from hr8]
    refine lv_iload hx hb dL_law_297 (lv_at hl 1 rfl) ?_
    refine lv_icmp_eq (tgt := 304) hx hb dL_law_299 (by decide) (fun c_299 => ?_) (fun c_299 => ?_)
    · refine lv_iload hx hb dL_law_304 (lv_at hl 1 rfl) ?_
      refine lv_if_ne (tgt := 321) hx hb dL_law_306 (by decide) (fun c_306 => ?_) (fun c_306 => ?_)
      · refine lv_goto (tgt := 1948) hx hb dL_law_321 (by decide) ?_
        exact kk _ _ _ _ _ ⟨lv, lk, pu, fa, he, n, nv, du, ta, w, mp, mi, k, nt, fu, re, gn, of, 1, g, hI, hP, hD, hS⟩ (by omega) (by omega) (lv_sub hl [2, 3, 4, 5, 6] rfl)
      · exact absurd c_306 (by decide)
    · exact absurd rfl c_299
  · have h1 : ¬ x < 0 := fun q => hbad (Or.inl q)
    have h2 : x ≤ 9 := Classical.not_not.mp (fun q => hbad (Or.inr q))
    by_cases hn9 : w < 6
    · obtain ⟨v, hv, ev⟩ := nI_of2 (x := x) (M := 9) (n := 9) rfl h1 h2
      subst ev
      refine lv_aload_n hx hb dL_law_268 rfl (lv_at hl 1 rfl) ?_
      refine lv_aload_n hx hb dL_law_269 rfl (lv_at hl 0 rfl) ?_
      refine lv_iload hx hb dL_law_270 (lv_at hl 4 rfl) ?_
      refine lv_iconst (v := 1) hx hb dL_law_272 (by decide) ?_
      refine lv_iadd hx hb dL_law_273 ?_
      refine w_sld hx hb hX hbl hbA hS hL (r + 1) (nI_1 r) (by omega) hx1 dL_law_274 ?_
      refine lv_aload_n hx hb dL_law_275 rfl (lv_at hl 3 rfl) ?_
      have hPO := wj_Pl hP
      have hDO := wj_Dl hD
      have hF := wj_Fl hD hS hA
      refine va_calli (vx_runSW (As := [.ref (a 0), .int (nI v), .ref o]) (rest := []) hC (w_addWitness l H.size (nI v) h1 h2 hn9) (vx_cwSW 3 hC.2.2.2.2 (gi_S mM_L_110 mT_L_addWitness mI_MissRegistryLaw mC_L_addWitness) rfl rfl rfl (by decide +kernel) ⟨Nat.le_of_ble_eq_true rfl, Nat.le_of_ble_eq_true rfl⟩) ⟨fun a1 U g mk q => ⟨q.1, q.2.1, q.2.2.1, va_K.moved (u := U) (U := U.calling g mk a1) (Vm.Alike.refl U.vm) q.2.2.2.1, va_K.moved (u := U) (U := U.calling g mk a1) (Vm.Alike.refl U.vm) q.2.2.2.2.1, q.2.2.2.2.2⟩, fun U hU hW => ⟨rfl, by rw [hU], by rw [hU]; exact hPO, va_K.moved hW.alike hK, va_K.moved hW.alike hJ, hDO.weaken (fun _ _ _ _ => trivial)⟩⟩ rfl rfl hl.1 rfl (lv_room (Nat.le_of_ble_eq_true rfl)) dL_law_276 ⟨(show _ ≤ 601024 by omega), (show _ ≤ 7293034 by omega)⟩) hS (fun q _ h => hF q h) hF (fun r9 u9 t H locs ht hvm hw9 hB hz9 hk9 hS9 => ?_)
      obtain ⟨hP1, hD1⟩ := hB
      rw [ht] at hP1
      obtain ⟨hP, hD⟩ := wj_l hP hD hk9 hF hP1 hD1
      obtain ⟨hr9, hu9⟩ := hw9
      rw [hr9]
      have hP : va_P D vwCl (oW o cJ u9 (xW z a lv lk pu fa he n (upd nv w (nI v)) (upd du w 1) ta (w + 1) mp mi k nt fu re) ++ mW z2 a2 th n w gn lk pu fa he nv of mp mi k nt fu re) H := hP
      have hD : va_D (nw s) (oW o cJ u9 (xW z a lv lk pu fa he n (upd nv w (nI v)) (upd du w 1) ta (w + 1) mp mi k nt fu re) ++ mW z2 a2 th n w gn lk pu fa he nv of mp mi k nt fu re) := hD
      have hS := hS9
      refine lv_istore (lv' := [(5, .int 0), (0, .ref b), (1, .ref (a 0)), (2, .ref (a2 0)), (3, .ref o), (4, .int (nI r))]) hx hb dL_law_279 hl (by decide) rfl (fun ls hl => ?_)
      refine lv_aload_n hx hb dL_law_281 rfl (lv_at hl 3 rfl) ?_
      refine lv_aload_n hx hb dL_law_282 rfl (lv_at hl 1 rfl) ?_
      refine lv_iload hx hb dL_law_283 (lv_at hl 5 rfl) ?_
      refine lv_iconst (v := 1) hx hb dL_law_285 (by decide) ?_
      refine lv_iadd hx hb dL_law_286 ?_
      refine w_sld hx hb hX hbl hbA hS hL (r + 1) (nI_1 r) (by omega) hx1 dL_law_287 ?_
      have hPM := wj_Pr hP
      have hDM := wj_Dr hD
      have hF := wj_Fr hD hS hA
      refine va_calli (va_runV (As := [.int (nI v)]) (rest := []) hC (c_X1_addWitness l H.size (nI v) h1 h2 hn9) (cwV 1 hC.2.2.2.2 (gi_V mM_L_112 mV_X1_addWitness mS_X1_addWitness mI_MissRegistryModel mC_X1_addWitness) rfl rfl rfl (by decide +kernel) ⟨Nat.le_of_ble_eq_true rfl, Nat.le_of_ble_eq_true rfl⟩) ⟨fun a1 U g mk q => ⟨q.1, q.2.1, ⟨q.2.2.1.1, va_K.moved (u := U) (U := U.calling g mk a1) (Vm.Alike.refl U.vm) q.2.2.1.2⟩, q.2.2.2⟩, va_recv hK2 hPM (ci := 1) (q0 := 0) rfl rfl, fun U hU hW => ⟨rfl, by rw [hU], ⟨by rw [hU]; exact hPM, va_K.moved hW.alike hK2⟩, hDM.weaken (fun _ _ _ _ => trivial)⟩⟩ rfl rfl hl.1 rfl (lv_room (Nat.le_of_ble_eq_true rfl)) dL_law_288 ⟨(show _ ≤ 601024 by omega), (show _ ≤ 7293034 by omega)⟩) hS (fun q _ h => hF q h) hF (fun r7 u7 t H locs ht hvm hw7 hB hz9 hk9 hS9 => ?_)
      obtain ⟨hP1, hK1, hD1⟩ := hB
      rw [ht] at hP1
      obtain ⟨hP, hD⟩ := wj_r hP hD hk9 hF hP1 hD1
      have hP : va_P D vwCl (oW o cJ u9 (xW z a lv lk pu fa he n (upd nv w (nI v)) (upd du w 1) ta (w + 1) mp mi k nt fu re) ++ mW z2 a2 0 n (w + 1) gn lk pu fa he (upd nv w (nI v)) of mp mi k nt fu re) H := hP
      have hD : va_D (nw s) (oW o cJ u9 (xW z a lv lk pu fa he n (upd nv w (nI v)) (upd du w 1) ta (w + 1) mp mi k nt fu re) ++ mW z2 a2 0 n (w + 1) gn lk pu fa he (upd nv w (nI v)) of mp mi k nt fu re) := hD
      have hS := hS9
      rw [show r7 = nI w from hw7]
      refine lv_istore (lv' := [(6, .int (nI w)), (5, .int 0), (0, .ref b), (1, .ref (a 0)), (2, .ref (a2 0)), (3, .ref o), (4, .int (nI r))]) hx hb dL_law_291 hl (by decide) rfl (fun ls hl => ?_)
      refine lv_aload_n hx hb dL_law_293 rfl (lv_at hl 4 rfl) ?_
      refine vp_callSi (W.runV (As := []) (rest := []) hC (c_X1_thrown l) (cwV 0 hC.2.2.2.2 (gi_V mM_L_106 mV_X1_thrown mS_X1_thrown mI_MissRegistryModel mC_X1_thrown) rfl rfl rfl (by decide +kernel) ⟨Nat.le_of_ble_eq_true rfl, Nat.le_of_ble_eq_true rfl⟩) (mpre hK2 (wj_Pr hP)) rfl rfl hl.1 rfl (lv_room (Nat.le_of_ble_eq_true rfl)) dL_law_294 ⟨(show _ ≤ 601024 by omega), (show _ ≤ 7293034 by omega)⟩) (fun r8 hr8 => ?_)
      rw [show r8 = 0 from hr8]
      refine lv_iload hx hb dL_law_297 (lv_at hl 1 rfl) ?_
      refine lv_icmp_eq (tgt := 304) hx hb dL_law_299 (by decide) (fun c_299 => ?_) (fun c_299 => ?_)
      · refine lv_iload hx hb dL_law_304 (lv_at hl 1 rfl) ?_
        refine lv_if_ne (tgt := 321) hx hb dL_law_306 (by decide) (fun c_306 => ?_) (fun c_306 => ?_)
        · exact absurd rfl c_306
        · refine lv_aload_n hx hb dL_law_309 rfl (lv_at hl 5 rfl) ?_
          refine lv_iconst (v := 0) hx hb dL_law_310 (by decide) ?_
          refine w_lald hC hJ (wj_Pl hP) dL_law_311 ?_
          refine lv_iload hx hb dL_law_312 (lv_at hl 0 rfl) ?_
          refine lv_i2l hx hb dL_law_314 rfl ?_
          refine w_lcmp hx hb dL_law_315 hu9 ?_
          refine lv_if_eq (tgt := 321) hx hb dL_law_316 (by decide) (fun c_316 => ?_) (fun c_316 => ?_)
          · refine lv_goto (tgt := 1948) hx hb dL_law_321 (by decide) ?_
            exact kk _ _ _ _ _ ⟨lv, lk, pu, fa, he, n, (upd nv w (nI v)), (upd du w 1), ta, (w + 1), mp, mi, k, nt, fu, re, gn, of, 0, u9, (iv_addWitness hI hv rfl hn9), hP, hD, hS⟩ (by omega) (by omega) (lv_sub hl [2, 3, 4, 5, 6] rfl)
          · exact absurd rfl c_316
      · exact absurd rfl c_299
    · refine lv_aload_n hx hb dL_law_268 rfl (lv_at hl 1 rfl) ?_
      refine lv_aload_n hx hb dL_law_269 rfl (lv_at hl 0 rfl) ?_
      refine lv_iload hx hb dL_law_270 (lv_at hl 4 rfl) ?_
      refine lv_iconst (v := 1) hx hb dL_law_272 (by decide) ?_
      refine lv_iadd hx hb dL_law_273 ?_
      refine w_sld hx hb hX hbl hbA hS hL (r + 1) (nI_1 r) (by omega) hx1 dL_law_274 ?_
      refine lv_aload_n hx hb dL_law_275 rfl (lv_at hl 3 rfl) ?_
      have hPO := wj_Pl hP
      have hDO := wj_Dl hD
      have hF := wj_Fl hD hS hA
      refine va_calli (vx_runSW (As := [.ref (a 0), .int x, .ref o]) (rest := []) hC (w_addWitness_b l hst H.size x h1 h2 (by omega)) (vx_cwSW 3 hC.2.2.2.2 (gi_S mM_L_110 mT_L_addWitness mI_MissRegistryLaw mC_L_addWitness) rfl rfl rfl (by decide +kernel) ⟨Nat.le_of_ble_eq_true rfl, Nat.le_of_ble_eq_true rfl⟩) ⟨fun a1 U g mk q => ⟨q.1, q.2.1, q.2.2.1, va_K.moved (u := U) (U := U.calling g mk a1) (Vm.Alike.refl U.vm) q.2.2.2.1, va_K.moved (u := U) (U := U.calling g mk a1) (Vm.Alike.refl U.vm) q.2.2.2.2.1, ⟨q.2.2.2.2.2.1, tH.same (u := U) (U := U.calling g mk a1) rfl q.2.2.2.2.2.2.1, tN.moved (u := U) (U := U.calling g mk a1) (Vm.Alike.refl U.vm) q.2.2.2.2.2.2.2⟩⟩, fun U hU hW => ⟨rfl, by rw [hU], by rw [hU]; exact hPO, va_K.moved hW.alike hK, va_K.moved hW.alike hJ, hDO.weaken (fun _ _ _ _ => trivial), by rw [hU]; exact (hT.at hS).warm hW, hN.moved hW.alike⟩⟩ rfl rfl hl.1 rfl (lv_room (Nat.le_of_ble_eq_true rfl)) dL_law_276 ⟨(show _ ≤ 601024 by omega), (show _ ≤ 7293034 by omega)⟩) hS (fun q _ h => hF q h) hF (fun r9 u9 t H locs ht hvm hw9 hB hz9 hk9 hS9 => ?_)
      obtain ⟨hP1, hD1⟩ := hB
      rw [ht] at hP1
      obtain ⟨hP, hD⟩ := wj_l hP hD hk9 hF hP1 hD1
      rw [show r9 = 2 from hw9]
      have hP : va_P D vwCl (oW o cJ g (xW z a lv lk pu fa he n nv du ta w mp mi k nt fu re) ++ mW z2 a2 th n w gn lk pu fa he nv of mp mi k nt fu re) H := hP
      have hD : va_D (nw s) (oW o cJ g (xW z a lv lk pu fa he n nv du ta w mp mi k nt fu re) ++ mW z2 a2 th n w gn lk pu fa he nv of mp mi k nt fu re) := hD
      have hS := hS9
      refine lv_istore (lv' := [(5, .int 2), (0, .ref b), (1, .ref (a 0)), (2, .ref (a2 0)), (3, .ref o), (4, .int (nI r))]) hx hb dL_law_279 hl (by decide) rfl (fun ls hl => ?_)
      refine lv_aload_n hx hb dL_law_281 rfl (lv_at hl 3 rfl) ?_
      refine lv_aload_n hx hb dL_law_282 rfl (lv_at hl 1 rfl) ?_
      refine lv_iload hx hb dL_law_283 (lv_at hl 5 rfl) ?_
      refine lv_iconst (v := 1) hx hb dL_law_285 (by decide) ?_
      refine lv_iadd hx hb dL_law_286 ?_
      refine w_sld hx hb hX hbl hbA hS hL (r + 1) (nI_1 r) (by omega) hx1 dL_law_287 ?_
      have hPM := wj_Pr hP
      have hDM := wj_Dr hD
      have hF := wj_Fr hD hS hA
      refine va_calli (va_runV (As := [.int x]) (rest := []) hC (c_X1_addWitness_b l H.size x h1 h2 (by omega)) (cwV 1 hC.2.2.2.2 (gi_V mM_L_112 mV_X1_addWitness mS_X1_addWitness mI_MissRegistryModel mC_X1_addWitness) rfl rfl rfl (by decide +kernel) ⟨Nat.le_of_ble_eq_true rfl, Nat.le_of_ble_eq_true rfl⟩) ⟨fun a1 U g mk q => ⟨q.1, q.2.1, ⟨q.2.2.1.1, va_K.moved (u := U) (U := U.calling g mk a1) (Vm.Alike.refl U.vm) q.2.2.1.2⟩, q.2.2.2⟩, va_recv hK2 hPM (ci := 1) (q0 := 0) rfl rfl, fun U hU hW => ⟨rfl, by rw [hU], ⟨by rw [hU]; exact hPM, va_K.moved hW.alike hK2⟩, hDM.weaken (fun _ _ _ _ => trivial)⟩⟩ rfl rfl hl.1 rfl (lv_room (Nat.le_of_ble_eq_true rfl)) dL_law_288 ⟨(show _ ≤ 601024 by omega), (show _ ≤ 7293034 by omega)⟩) hS (fun q _ h => hF q h) hF (fun r7 u7 t H locs ht hvm hw7 hB hz9 hk9 hS9 => ?_)
      obtain ⟨hP1, hK1, hD1⟩ := hB
      rw [ht] at hP1
      obtain ⟨hP, hD⟩ := wj_r hP hD hk9 hF hP1 hD1
      have hP : va_P D vwCl (oW o cJ g (xW z a lv lk pu fa he n nv du ta w mp mi k nt fu re) ++ mW z2 a2 2 n w gn lk pu fa he nv of mp mi k nt fu re) H := hP
      have hD : va_D (nw s) (oW o cJ g (xW z a lv lk pu fa he n nv du ta w mp mi k nt fu re) ++ mW z2 a2 2 n w gn lk pu fa he nv of mp mi k nt fu re) := hD
      have hS := hS9
      rw [show r7 = 0 from hw7]
      refine lv_istore (lv' := [(6, .int 0), (5, .int 2), (0, .ref b), (1, .ref (a 0)), (2, .ref (a2 0)), (3, .ref o), (4, .int (nI r))]) hx hb dL_law_291 hl (by decide) rfl (fun ls hl => ?_)
      refine lv_aload_n hx hb dL_law_293 rfl (lv_at hl 4 rfl) ?_
      refine vp_callSi (W.runV (As := []) (rest := []) hC (c_X1_thrown l) (cwV 0 hC.2.2.2.2 (gi_V mM_L_106 mV_X1_thrown mS_X1_thrown mI_MissRegistryModel mC_X1_thrown) rfl rfl rfl (by decide +kernel) ⟨Nat.le_of_ble_eq_true rfl, Nat.le_of_ble_eq_true rfl⟩) (mpre hK2 (wj_Pr hP)) rfl rfl hl.1 rfl (lv_room (Nat.le_of_ble_eq_true rfl)) dL_law_294 ⟨(show _ ≤ 601024 by omega), (show _ ≤ 7293034 by omega)⟩) (fun r8 hr8 => ?_)
      rw [show r8 = 2 from hr8]
      refine lv_iload hx hb dL_law_297 (lv_at hl 1 rfl) ?_
      refine lv_icmp_eq (tgt := 304) hx hb dL_law_299 (by decide) (fun c_299 => ?_) (fun c_299 => ?_)
      · refine lv_iload hx hb dL_law_304 (lv_at hl 1 rfl) ?_
        refine lv_if_ne (tgt := 321) hx hb dL_law_306 (by decide) (fun c_306 => ?_) (fun c_306 => ?_)
        · refine lv_goto (tgt := 1948) hx hb dL_law_321 (by decide) ?_
          exact kk _ _ _ _ _ ⟨lv, lk, pu, fa, he, n, nv, du, ta, w, mp, mi, k, nt, fu, re, gn, of, 2, g, hI, hP, hD, hS⟩ (by omega) (by omega) (lv_sub hl [2, 3, 4, 5, 6] rfl)
        · exact absurd c_306 (by decide)
      · exact absurd rfl c_299
set_option maxHeartbeats 8000000 in
set_option maxRecDepth 100000 in
theorem lc_2 {p : Program} {l : Launch} {e : Env} {s : State} {m : MethodId} {below : List Frame} {meth : Method} {c : Code} {H : Heap} {locs : List Loc} {cells slots : Nat} {Q : State → Prop} {ls : Array Slot} {b L : Nat} {xs : Nat → Int32} {D : va_G} {z z2 : ClassId × ClassId} {cJ : ClassId} {q9 t9 a a2 : Nat → Nat} {o : Nat} {lv lk pu fa he : Nat → Int32} {n : Nat} {nv du ta : Nat → Int32} {w : Nat} {mp mi : Nat → Int32} {k : Nat} {nt fu re : Int32} {gn of : Nat → Int32} {th : Int32} {g : Nat → Int64} {r : Nat} (X : LX p l s m c b L xs D z z2 cJ q9 t9) (hI : IV lv lk fa he n nv du w k gn of) (hP : va_P D vwCl (oW o cJ g (xW z a lv lk pu fa he n nv du ta w mp mi k nt fu re) ++ mW z2 a2 th n w gn lk pu fa he nv of mp mi k nt fu re) H) (hD : va_D (nw s) (oW o cJ g (xW z a lv lk pu fa he n nv du ta w mp mi k nt fu re) ++ mW z2 a2 th n w gn lk pu fa he nv of mp mi k nt fu re)) (hS : va_S (nw s) s.heap H locs) (hcl : cells + 12 ≤ 601024) (hsl : slots + 100 ≤ 7293034) (hr : r + 2 < L) (hl : lv_has ls 9 [(0, .ref b), (1, .ref (a 0)), (2, .ref (a2 0)), (3, .ref o), (4, .int (nI r))]) (kk : ∀ (H1 : Heap) (locs1 : List Loc) (c1 s1 : Nat) (ls1 : Array Slot), Jn D z z2 cJ a a2 o s H1 locs1 → c1 ≤ cells + 11 → s1 ≤ slots + 94 → lv_has ls1 9 [(0, .ref b), (1, .ref (a 0)), (2, .ref (a2 0)), (3, .ref o), (4, .int (nI r))] → W p l e room_1 s m #[.ref b] below meth c H1 locs1 c1 s1 Q (F0 m 1948 ls1 [])) : W p l e room_1 s m #[.ref b] below meth c H locs cells slots Q (F0 m 324 ls []) := by
  obtain ⟨hC, hst, ⟨hX, hbl, hL⟩, ⟨hK, hK2, hJ⟩, hT, hN, hE⟩ := X
  have hx := hC.1
  have hb := hC.2.1
  have hA : ∀ q : Nat, s.heap.size ≤ q → nw s q := fun q h => h
  have hbA : ¬ nw s b := Nat.not_le.mpr hbl
  have hn := hI.1.1
  have hw := hI.1.2.1
  have hk := hI.1.2.2
  obtain ⟨x, hx1⟩ : ∃ x : Int32, xs (r + 1) = x := ⟨_, rfl⟩
  obtain ⟨y, hx2⟩ : ∃ y : Int32, xs (r + 2) = y := ⟨_, rfl⟩
  by_cases hp : sp_isP n x = 0
  · refine lv_aload_n hx hb dL_law_324 rfl (lv_at hl 1 rfl) ?_
    refine lv_aload_n hx hb dL_law_325 rfl (lv_at hl 0 rfl) ?_
    refine lv_iload hx hb dL_law_326 (lv_at hl 4 rfl) ?_
    refine lv_iconst (v := 1) hx hb dL_law_328 (by decide) ?_
    refine lv_iadd hx hb dL_law_329 ?_
    refine w_sld hx hb hX hbl hbA hS hL (r + 1) (nI_1 r) (by omega) hx1 dL_law_330 ?_
    refine lv_aload_n hx hb dL_law_331 rfl (lv_at hl 0 rfl) ?_
    refine lv_iload hx hb dL_law_332 (lv_at hl 4 rfl) ?_
    refine lv_iconst (v := 2) hx hb dL_law_334 (by decide) ?_
    refine lv_iadd hx hb dL_law_335 ?_
    refine w_sld hx hb hX hbl hbA hS hL (r + 2) (nI_add r 2) (by omega) hx2 dL_law_336 ?_
    refine lv_aload_n hx hb dL_law_337 rfl (lv_at hl 3 rfl) ?_
    have hPO := wj_Pl hP
    have hDO := wj_Dl hD
    have hF := wj_Fl hD hS hA
    refine va_calli (vx_runSW (As := [.ref (a 0), .int x, .int y, .ref o]) (rest := []) hC (w_setHeir_a l hst H.size x y hp) (vx_cwSW 4 hC.2.2.2.2 (gi_S mM_L_113 mT_L_setHeir mI_MissRegistryLaw mC_L_setHeir) rfl rfl rfl (by decide +kernel) ⟨Nat.le_of_ble_eq_true rfl, Nat.le_of_ble_eq_true rfl⟩) ⟨fun a1 U g mk q => ⟨q.1, q.2.1, q.2.2.1, va_K.moved (u := U) (U := U.calling g mk a1) (Vm.Alike.refl U.vm) q.2.2.2.1, va_K.moved (u := U) (U := U.calling g mk a1) (Vm.Alike.refl U.vm) q.2.2.2.2.1, ⟨q.2.2.2.2.2.1, tH.same (u := U) (U := U.calling g mk a1) rfl q.2.2.2.2.2.2.1, tN.moved (u := U) (U := U.calling g mk a1) (Vm.Alike.refl U.vm) q.2.2.2.2.2.2.2⟩⟩, fun U hU hW => ⟨rfl, by rw [hU], by rw [hU]; exact hPO, va_K.moved hW.alike hK, va_K.moved hW.alike hJ, hDO.weaken (fun _ _ _ _ => trivial), by rw [hU]; exact (hT.at hS).warm hW, hN.moved hW.alike⟩⟩ rfl rfl hl.1 rfl (lv_room (Nat.le_of_ble_eq_true rfl)) dL_law_338 ⟨(show _ ≤ 601024 by omega), (show _ ≤ 7293034 by omega)⟩) hS (fun q _ h => hF q h) hF (fun r9 u9 t H locs ht hvm hw9 hB hz9 hk9 hS9 => ?_)
    obtain ⟨hP1, hD1⟩ := hB
    rw [ht] at hP1
    obtain ⟨hP, hD⟩ := wj_l hP hD hk9 hF hP1 hD1
    rw [show r9 = 1 from hw9]
    have hP : va_P D vwCl (oW o cJ g (xW z a lv lk pu fa he n nv du ta w mp mi k nt fu re) ++ mW z2 a2 th n w gn lk pu fa he nv of mp mi k nt fu re) H := hP
    have hD : va_D (nw s) (oW o cJ g (xW z a lv lk pu fa he n nv du ta w mp mi k nt fu re) ++ mW z2 a2 th n w gn lk pu fa he nv of mp mi k nt fu re) := hD
    have hS := hS9
    refine lv_istore (lv' := [(5, .int 1), (0, .ref b), (1, .ref (a 0)), (2, .ref (a2 0)), (3, .ref o), (4, .int (nI r))]) hx hb dL_law_341 hl (by decide) rfl (fun ls hl => ?_)
    refine lv_aload_n hx hb dL_law_343 rfl (lv_at hl 3 rfl) ?_
    refine lv_aload_n hx hb dL_law_344 rfl (lv_at hl 1 rfl) ?_
    refine lv_iload hx hb dL_law_345 (lv_at hl 5 rfl) ?_
    refine lv_iconst (v := 1) hx hb dL_law_347 (by decide) ?_
    refine lv_iadd hx hb dL_law_348 ?_
    refine w_sld hx hb hX hbl hbA hS hL (r + 1) (nI_1 r) (by omega) hx1 dL_law_349 ?_
    refine lv_aload_n hx hb dL_law_350 rfl (lv_at hl 1 rfl) ?_
    refine lv_iload hx hb dL_law_351 (lv_at hl 5 rfl) ?_
    refine lv_iconst (v := 2) hx hb dL_law_353 (by decide) ?_
    refine lv_iadd hx hb dL_law_354 ?_
    refine w_sld hx hb hX hbl hbA hS hL (r + 2) (nI_add r 2) (by omega) hx2 dL_law_355 ?_
    have hPM := wj_Pr hP
    have hDM := wj_Dr hD
    have hF := wj_Fr hD hS hA
    refine va_calli (va_runV (As := [.int x, .int y]) (rest := []) hC (c_X1_setHeir_a l H.size x y hn hp) (cwV 2 hC.2.2.2.2 (gi_V mM_L_116 mV_X1_setHeir mS_X1_setHeir mI_MissRegistryModel mC_X1_setHeir) rfl rfl rfl (by decide +kernel) ⟨Nat.le_of_ble_eq_true rfl, Nat.le_of_ble_eq_true rfl⟩) ⟨fun a1 U g mk q => ⟨q.1, q.2.1, ⟨q.2.2.1.1, va_K.moved (u := U) (U := U.calling g mk a1) (Vm.Alike.refl U.vm) q.2.2.1.2⟩, q.2.2.2⟩, va_recv hK2 hPM (ci := 1) (q0 := 0) rfl rfl, fun U hU hW => ⟨rfl, by rw [hU], ⟨by rw [hU]; exact hPM, va_K.moved hW.alike hK2⟩, hDM.weaken (fun _ _ _ _ => trivial)⟩⟩ rfl rfl hl.1 rfl (lv_room (Nat.le_of_ble_eq_true rfl)) dL_law_356 ⟨(show _ ≤ 601024 by omega), (show _ ≤ 7293034 by omega)⟩) hS (fun q _ h => hF q h) hF (fun r7 u7 t H locs ht hvm hw7 hB hz9 hk9 hS9 => ?_)
    obtain ⟨hP1, hK1, hD1⟩ := hB
    rw [ht] at hP1
    obtain ⟨hP, hD⟩ := wj_r hP hD hk9 hF hP1 hD1
    have hP : va_P D vwCl (oW o cJ g (xW z a lv lk pu fa he n nv du ta w mp mi k nt fu re) ++ mW z2 a2 1 n w gn lk pu fa he nv of mp mi k nt fu re) H := hP
    have hD : va_D (nw s) (oW o cJ g (xW z a lv lk pu fa he n nv du ta w mp mi k nt fu re) ++ mW z2 a2 1 n w gn lk pu fa he nv of mp mi k nt fu re) := hD
    have hS := hS9
    rw [show r7 = 0 from hw7]
    refine lv_istore (lv' := [(6, .int 0), (5, .int 1), (0, .ref b), (1, .ref (a 0)), (2, .ref (a2 0)), (3, .ref o), (4, .int (nI r))]) hx hb dL_law_359 hl (by decide) rfl (fun ls hl => ?_)
    refine lv_aload_n hx hb dL_law_361 rfl (lv_at hl 4 rfl) ?_
    refine vp_callSi (W.runV (As := []) (rest := []) hC (c_X1_thrown l) (cwV 0 hC.2.2.2.2 (gi_V mM_L_106 mV_X1_thrown mS_X1_thrown mI_MissRegistryModel mC_X1_thrown) rfl rfl rfl (by decide +kernel) ⟨Nat.le_of_ble_eq_true rfl, Nat.le_of_ble_eq_true rfl⟩) (mpre hK2 (wj_Pr hP)) rfl rfl hl.1 rfl (lv_room (Nat.le_of_ble_eq_true rfl)) dL_law_362 ⟨(show _ ≤ 601024 by omega), (show _ ≤ 7293034 by omega)⟩) (fun r8 hr8 => ?_)
    rw [show r8 = 1 from hr8]
    refine lv_iload hx hb dL_law_365 (lv_at hl 1 rfl) ?_
    refine lv_icmp_eq (tgt := 372) hx hb dL_law_367 (by decide) (fun c_367 => ?_) (fun c_367 => ?_)
    · refine lv_iload hx hb dL_law_372 (lv_at hl 1 rfl) ?_
      refine lv_if_ne (tgt := 389) hx hb dL_law_374 (by decide) (fun c_374 => ?_) (fun c_374 => ?_)
      · refine lv_goto (tgt := 1948) hx hb dL_law_389 (by decide) ?_
        exact kk _ _ _ _ _ ⟨lv, lk, pu, fa, he, n, nv, du, ta, w, mp, mi, k, nt, fu, re, gn, of, 1, g, hI, hP, hD, hS⟩ (by omega) (by omega) (lv_sub hl [2, 3, 4, 5, 6] rfl)
      · exact absurd c_374 (by decide)
    · exact absurd rfl c_367
  · obtain ⟨i, hi, exi⟩ := isP_ex (by omega) hp
    subst exi
    by_cases hy : y = -1
    · subst hy
      have hg := hI.2.1.1.iff i hi
      by_cases ha : lv i = 0
      · refine lv_aload_n hx hb dL_law_324 rfl (lv_at hl 1 rfl) ?_
        refine lv_aload_n hx hb dL_law_325 rfl (lv_at hl 0 rfl) ?_
        refine lv_iload hx hb dL_law_326 (lv_at hl 4 rfl) ?_
        refine lv_iconst (v := 1) hx hb dL_law_328 (by decide) ?_
        refine lv_iadd hx hb dL_law_329 ?_
        refine w_sld hx hb hX hbl hbA hS hL (r + 1) (nI_1 r) (by omega) hx1 dL_law_330 ?_
        refine lv_aload_n hx hb dL_law_331 rfl (lv_at hl 0 rfl) ?_
        refine lv_iload hx hb dL_law_332 (lv_at hl 4 rfl) ?_
        refine lv_iconst (v := 2) hx hb dL_law_334 (by decide) ?_
        refine lv_iadd hx hb dL_law_335 ?_
        refine w_sld hx hb hX hbl hbA hS hL (r + 2) (nI_add r 2) (by omega) hx2 dL_law_336 ?_
        refine lv_aload_n hx hb dL_law_337 rfl (lv_at hl 3 rfl) ?_
        have hPO := wj_Pl hP
        have hDO := wj_Dl hD
        have hF := wj_Fl hD hS hA
        refine va_calli (vx_runSW (As := [.ref (a 0), .int (nI i), .int (-1), .ref o]) (rest := []) hC (w_setHeir_d l hst H.size i hi hn ha) (vx_cwSW 4 hC.2.2.2.2 (gi_S mM_L_113 mT_L_setHeir mI_MissRegistryLaw mC_L_setHeir) rfl rfl rfl (by decide +kernel) ⟨Nat.le_of_ble_eq_true rfl, Nat.le_of_ble_eq_true rfl⟩) ⟨fun a1 U g mk q => ⟨q.1, q.2.1, q.2.2.1, va_K.moved (u := U) (U := U.calling g mk a1) (Vm.Alike.refl U.vm) q.2.2.2.1, va_K.moved (u := U) (U := U.calling g mk a1) (Vm.Alike.refl U.vm) q.2.2.2.2.1, ⟨q.2.2.2.2.2.1, tH.same (u := U) (U := U.calling g mk a1) rfl q.2.2.2.2.2.2.1, tN.moved (u := U) (U := U.calling g mk a1) (Vm.Alike.refl U.vm) q.2.2.2.2.2.2.2⟩⟩, fun U hU hW => ⟨rfl, by rw [hU], by rw [hU]; exact hPO, va_K.moved hW.alike hK, va_K.moved hW.alike hJ, hDO.weaken (fun _ _ _ _ => trivial), by rw [hU]; exact (hT.at hS).warm hW, hN.moved hW.alike⟩⟩ rfl rfl hl.1 rfl (lv_room (Nat.le_of_ble_eq_true rfl)) dL_law_338 ⟨(show _ ≤ 601024 by omega), (show _ ≤ 7293034 by omega)⟩) hS (fun q _ h => hF q h) hF (fun r9 u9 t H locs ht hvm hw9 hB hz9 hk9 hS9 => ?_)
        obtain ⟨hP1, hD1⟩ := hB
        rw [ht] at hP1
        obtain ⟨hP, hD⟩ := wj_l hP hD hk9 hF hP1 hD1
        rw [show r9 = 3 from hw9]
        have hP : va_P D vwCl (oW o cJ g (xW z a lv lk pu fa he n nv du ta w mp mi k nt fu re) ++ mW z2 a2 th n w gn lk pu fa he nv of mp mi k nt fu re) H := hP
        have hD : va_D (nw s) (oW o cJ g (xW z a lv lk pu fa he n nv du ta w mp mi k nt fu re) ++ mW z2 a2 th n w gn lk pu fa he nv of mp mi k nt fu re) := hD
        have hS := hS9
        refine lv_istore (lv' := [(5, .int 3), (0, .ref b), (1, .ref (a 0)), (2, .ref (a2 0)), (3, .ref o), (4, .int (nI r))]) hx hb dL_law_341 hl (by decide) rfl (fun ls hl => ?_)
        refine lv_aload_n hx hb dL_law_343 rfl (lv_at hl 3 rfl) ?_
        refine lv_aload_n hx hb dL_law_344 rfl (lv_at hl 1 rfl) ?_
        refine lv_iload hx hb dL_law_345 (lv_at hl 5 rfl) ?_
        refine lv_iconst (v := 1) hx hb dL_law_347 (by decide) ?_
        refine lv_iadd hx hb dL_law_348 ?_
        refine w_sld hx hb hX hbl hbA hS hL (r + 1) (nI_1 r) (by omega) hx1 dL_law_349 ?_
        refine lv_aload_n hx hb dL_law_350 rfl (lv_at hl 1 rfl) ?_
        refine lv_iload hx hb dL_law_351 (lv_at hl 5 rfl) ?_
        refine lv_iconst (v := 2) hx hb dL_law_353 (by decide) ?_
        refine lv_iadd hx hb dL_law_354 ?_
        refine w_sld hx hb hX hbl hbA hS hL (r + 2) (nI_add r 2) (by omega) hx2 dL_law_355 ?_
        have hPM := wj_Pr hP
        have hDM := wj_Dr hD
        have hF := wj_Fr hD hS hA
        refine va_calli (va_runV (As := [.int (nI i), .int (-1)]) (rest := []) hC (c_X1_setHeir_d l H.size i hi hn (fun q => hg.mp q ha)) (cwV 2 hC.2.2.2.2 (gi_V mM_L_116 mV_X1_setHeir mS_X1_setHeir mI_MissRegistryModel mC_X1_setHeir) rfl rfl rfl (by decide +kernel) ⟨Nat.le_of_ble_eq_true rfl, Nat.le_of_ble_eq_true rfl⟩) ⟨fun a1 U g mk q => ⟨q.1, q.2.1, ⟨q.2.2.1.1, va_K.moved (u := U) (U := U.calling g mk a1) (Vm.Alike.refl U.vm) q.2.2.1.2⟩, q.2.2.2⟩, va_recv hK2 hPM (ci := 1) (q0 := 0) rfl rfl, fun U hU hW => ⟨rfl, by rw [hU], ⟨by rw [hU]; exact hPM, va_K.moved hW.alike hK2⟩, hDM.weaken (fun _ _ _ _ => trivial)⟩⟩ rfl rfl hl.1 rfl (lv_room (Nat.le_of_ble_eq_true rfl)) dL_law_356 ⟨(show _ ≤ 601024 by omega), (show _ ≤ 7293034 by omega)⟩) hS (fun q _ h => hF q h) hF (fun r7 u7 t H locs ht hvm hw7 hB hz9 hk9 hS9 => ?_)
        obtain ⟨hP1, hK1, hD1⟩ := hB
        rw [ht] at hP1
        obtain ⟨hP, hD⟩ := wj_r hP hD hk9 hF hP1 hD1
        have hP : va_P D vwCl (oW o cJ g (xW z a lv lk pu fa he n nv du ta w mp mi k nt fu re) ++ mW z2 a2 3 n w gn lk pu fa he nv of mp mi k nt fu re) H := hP
        have hD : va_D (nw s) (oW o cJ g (xW z a lv lk pu fa he n nv du ta w mp mi k nt fu re) ++ mW z2 a2 3 n w gn lk pu fa he nv of mp mi k nt fu re) := hD
        have hS := hS9
        rw [show r7 = 0 from hw7]
        refine lv_istore (lv' := [(6, .int 0), (5, .int 3), (0, .ref b), (1, .ref (a 0)), (2, .ref (a2 0)), (3, .ref o), (4, .int (nI r))]) hx hb dL_law_359 hl (by decide) rfl (fun ls hl => ?_)
        refine lv_aload_n hx hb dL_law_361 rfl (lv_at hl 4 rfl) ?_
        refine vp_callSi (W.runV (As := []) (rest := []) hC (c_X1_thrown l) (cwV 0 hC.2.2.2.2 (gi_V mM_L_106 mV_X1_thrown mS_X1_thrown mI_MissRegistryModel mC_X1_thrown) rfl rfl rfl (by decide +kernel) ⟨Nat.le_of_ble_eq_true rfl, Nat.le_of_ble_eq_true rfl⟩) (mpre hK2 (wj_Pr hP)) rfl rfl hl.1 rfl (lv_room (Nat.le_of_ble_eq_true rfl)) dL_law_362 ⟨(show _ ≤ 601024 by omega), (show _ ≤ 7293034 by omega)⟩) (fun r8 hr8 => ?_)
        rw [show r8 = 3 from hr8]
        refine lv_iload hx hb dL_law_365 (lv_at hl 1 rfl) ?_
        refine lv_icmp_eq (tgt := 372) hx hb dL_law_367 (by decide) (fun c_367 => ?_) (fun c_367 => ?_)
        · refine lv_iload hx hb dL_law_372 (lv_at hl 1 rfl) ?_
          refine lv_if_ne (tgt := 389) hx hb dL_law_374 (by decide) (fun c_374 => ?_) (fun c_374 => ?_)
          · refine lv_goto (tgt := 1948) hx hb dL_law_389 (by decide) ?_
            exact kk _ _ _ _ _ ⟨lv, lk, pu, fa, he, n, nv, du, ta, w, mp, mi, k, nt, fu, re, gn, of, 3, g, hI, hP, hD, hS⟩ (by omega) (by omega) (lv_sub hl [2, 3, 4, 5, 6] rfl)
          · exact absurd c_374 (by decide)
        · exact absurd rfl c_367
      · refine lv_aload_n hx hb dL_law_324 rfl (lv_at hl 1 rfl) ?_
        refine lv_aload_n hx hb dL_law_325 rfl (lv_at hl 0 rfl) ?_
        refine lv_iload hx hb dL_law_326 (lv_at hl 4 rfl) ?_
        refine lv_iconst (v := 1) hx hb dL_law_328 (by decide) ?_
        refine lv_iadd hx hb dL_law_329 ?_
        refine w_sld hx hb hX hbl hbA hS hL (r + 1) (nI_1 r) (by omega) hx1 dL_law_330 ?_
        refine lv_aload_n hx hb dL_law_331 rfl (lv_at hl 0 rfl) ?_
        refine lv_iload hx hb dL_law_332 (lv_at hl 4 rfl) ?_
        refine lv_iconst (v := 2) hx hb dL_law_334 (by decide) ?_
        refine lv_iadd hx hb dL_law_335 ?_
        refine w_sld hx hb hX hbl hbA hS hL (r + 2) (nI_add r 2) (by omega) hx2 dL_law_336 ?_
        refine lv_aload_n hx hb dL_law_337 rfl (lv_at hl 3 rfl) ?_
        have hPO := wj_Pl hP
        have hDO := wj_Dl hD
        have hF := wj_Fl hD hS hA
        refine va_calli (vx_runSW (As := [.ref (a 0), .int (nI i), .int (-1), .ref o]) (rest := []) hC (w_setHeir_0 l H.size i hi hn ha) (vx_cwSW 4 hC.2.2.2.2 (gi_S mM_L_113 mT_L_setHeir mI_MissRegistryLaw mC_L_setHeir) rfl rfl rfl (by decide +kernel) ⟨Nat.le_of_ble_eq_true rfl, Nat.le_of_ble_eq_true rfl⟩) ⟨fun a1 U g mk q => ⟨q.1, q.2.1, q.2.2.1, va_K.moved (u := U) (U := U.calling g mk a1) (Vm.Alike.refl U.vm) q.2.2.2.1, va_K.moved (u := U) (U := U.calling g mk a1) (Vm.Alike.refl U.vm) q.2.2.2.2.1, q.2.2.2.2.2⟩, fun U hU hW => ⟨rfl, by rw [hU], by rw [hU]; exact hPO, va_K.moved hW.alike hK, va_K.moved hW.alike hJ, hDO.weaken (fun _ _ _ _ => trivial)⟩⟩ rfl rfl hl.1 rfl (lv_room (Nat.le_of_ble_eq_true rfl)) dL_law_338 ⟨(show _ ≤ 601024 by omega), (show _ ≤ 7293034 by omega)⟩) hS (fun q _ h => hF q h) hF (fun r9 u9 t H locs ht hvm hw9 hB hz9 hk9 hS9 => ?_)
        obtain ⟨hP1, hD1⟩ := hB
        rw [ht] at hP1
        obtain ⟨hP, hD⟩ := wj_l hP hD hk9 hF hP1 hD1
        obtain ⟨hr9, hu9⟩ := hw9
        rw [hr9]
        have hP : va_P D vwCl (oW o cJ u9 (xW z a lv lk pu fa (upd he i (-1)) n nv du ta w mp mi k nt fu re) ++ mW z2 a2 th n w gn lk pu fa he nv of mp mi k nt fu re) H := hP
        have hD : va_D (nw s) (oW o cJ u9 (xW z a lv lk pu fa (upd he i (-1)) n nv du ta w mp mi k nt fu re) ++ mW z2 a2 th n w gn lk pu fa he nv of mp mi k nt fu re) := hD
        have hS := hS9
        refine lv_istore (lv' := [(5, .int 0), (0, .ref b), (1, .ref (a 0)), (2, .ref (a2 0)), (3, .ref o), (4, .int (nI r))]) hx hb dL_law_341 hl (by decide) rfl (fun ls hl => ?_)
        refine lv_aload_n hx hb dL_law_343 rfl (lv_at hl 3 rfl) ?_
        refine lv_aload_n hx hb dL_law_344 rfl (lv_at hl 1 rfl) ?_
        refine lv_iload hx hb dL_law_345 (lv_at hl 5 rfl) ?_
        refine lv_iconst (v := 1) hx hb dL_law_347 (by decide) ?_
        refine lv_iadd hx hb dL_law_348 ?_
        refine w_sld hx hb hX hbl hbA hS hL (r + 1) (nI_1 r) (by omega) hx1 dL_law_349 ?_
        refine lv_aload_n hx hb dL_law_350 rfl (lv_at hl 1 rfl) ?_
        refine lv_iload hx hb dL_law_351 (lv_at hl 5 rfl) ?_
        refine lv_iconst (v := 2) hx hb dL_law_353 (by decide) ?_
        refine lv_iadd hx hb dL_law_354 ?_
        refine w_sld hx hb hX hbl hbA hS hL (r + 2) (nI_add r 2) (by omega) hx2 dL_law_355 ?_
        have hPM := wj_Pr hP
        have hDM := wj_Dr hD
        have hF := wj_Fr hD hS hA
        refine va_calli (va_runV (As := [.int (nI i), .int (-1)]) (rest := []) hC (c_X1_setHeir_0 l H.size i hi hn (hg.mpr ha)) (cwV 2 hC.2.2.2.2 (gi_V mM_L_116 mV_X1_setHeir mS_X1_setHeir mI_MissRegistryModel mC_X1_setHeir) rfl rfl rfl (by decide +kernel) ⟨Nat.le_of_ble_eq_true rfl, Nat.le_of_ble_eq_true rfl⟩) ⟨fun a1 U g mk q => ⟨q.1, q.2.1, ⟨q.2.2.1.1, va_K.moved (u := U) (U := U.calling g mk a1) (Vm.Alike.refl U.vm) q.2.2.1.2⟩, q.2.2.2⟩, va_recv hK2 hPM (ci := 1) (q0 := 0) rfl rfl, fun U hU hW => ⟨rfl, by rw [hU], ⟨by rw [hU]; exact hPM, va_K.moved hW.alike hK2⟩, hDM.weaken (fun _ _ _ _ => trivial)⟩⟩ rfl rfl hl.1 rfl (lv_room (Nat.le_of_ble_eq_true rfl)) dL_law_356 ⟨(show _ ≤ 601024 by omega), (show _ ≤ 7293034 by omega)⟩) hS (fun q _ h => hF q h) hF (fun r7 u7 t H locs ht hvm hw7 hB hz9 hk9 hS9 => ?_)
        obtain ⟨hP1, hK1, hD1⟩ := hB
        rw [ht] at hP1
        obtain ⟨hP, hD⟩ := wj_r hP hD hk9 hF hP1 hD1
        have hP : va_P D vwCl (oW o cJ u9 (xW z a lv lk pu fa (upd he i (-1)) n nv du ta w mp mi k nt fu re) ++ mW z2 a2 0 n w gn lk pu fa (upd he i (-1)) nv of mp mi k nt fu re) H := hP
        have hD : va_D (nw s) (oW o cJ u9 (xW z a lv lk pu fa (upd he i (-1)) n nv du ta w mp mi k nt fu re) ++ mW z2 a2 0 n w gn lk pu fa (upd he i (-1)) nv of mp mi k nt fu re) := hD
        have hS := hS9
        rw [show r7 = he i from hw7]
        refine lv_istore (lv' := [(6, .int (he i)), (5, .int 0), (0, .ref b), (1, .ref (a 0)), (2, .ref (a2 0)), (3, .ref o), (4, .int (nI r))]) hx hb dL_law_359 hl (by decide) rfl (fun ls hl => ?_)
        refine lv_aload_n hx hb dL_law_361 rfl (lv_at hl 4 rfl) ?_
        refine vp_callSi (W.runV (As := []) (rest := []) hC (c_X1_thrown l) (cwV 0 hC.2.2.2.2 (gi_V mM_L_106 mV_X1_thrown mS_X1_thrown mI_MissRegistryModel mC_X1_thrown) rfl rfl rfl (by decide +kernel) ⟨Nat.le_of_ble_eq_true rfl, Nat.le_of_ble_eq_true rfl⟩) (mpre hK2 (wj_Pr hP)) rfl rfl hl.1 rfl (lv_room (Nat.le_of_ble_eq_true rfl)) dL_law_362 ⟨(show _ ≤ 601024 by omega), (show _ ≤ 7293034 by omega)⟩) (fun r8 hr8 => ?_)
        rw [show r8 = 0 from hr8]
        refine lv_iload hx hb dL_law_365 (lv_at hl 1 rfl) ?_
        refine lv_icmp_eq (tgt := 372) hx hb dL_law_367 (by decide) (fun c_367 => ?_) (fun c_367 => ?_)
        · refine lv_iload hx hb dL_law_372 (lv_at hl 1 rfl) ?_
          refine lv_if_ne (tgt := 389) hx hb dL_law_374 (by decide) (fun c_374 => ?_) (fun c_374 => ?_)
          · exact absurd rfl c_374
          · refine lv_aload_n hx hb dL_law_377 rfl (lv_at hl 5 rfl) ?_
            refine lv_iconst (v := 0) hx hb dL_law_378 (by decide) ?_
            refine w_lald hC hJ (wj_Pl hP) dL_law_379 ?_
            refine lv_iload hx hb dL_law_380 (lv_at hl 0 rfl) ?_
            refine lv_i2l hx hb dL_law_382 rfl ?_
            refine w_lcmp hx hb dL_law_383 hu9 ?_
            refine lv_if_eq (tgt := 389) hx hb dL_law_384 (by decide) (fun c_384 => ?_) (fun c_384 => ?_)
            · refine lv_goto (tgt := 1948) hx hb dL_law_389 (by decide) ?_
              exact kk _ _ _ _ _ ⟨lv, lk, pu, fa, (upd he i (-1)), n, nv, du, ta, w, mp, mi, k, nt, fu, re, gn, of, 0, u9, (iv_setHeir hI (Or.inl rfl)), hP, hD, hS⟩ (by omega) (by omega) (lv_sub hl [2, 3, 4, 5, 6] rfl)
            · exact absurd rfl c_384
        · exact absurd rfl c_367
    · by_cases hq : sp_isP n y = 0
      · refine lv_aload_n hx hb dL_law_324 rfl (lv_at hl 1 rfl) ?_
        refine lv_aload_n hx hb dL_law_325 rfl (lv_at hl 0 rfl) ?_
        refine lv_iload hx hb dL_law_326 (lv_at hl 4 rfl) ?_
        refine lv_iconst (v := 1) hx hb dL_law_328 (by decide) ?_
        refine lv_iadd hx hb dL_law_329 ?_
        refine w_sld hx hb hX hbl hbA hS hL (r + 1) (nI_1 r) (by omega) hx1 dL_law_330 ?_
        refine lv_aload_n hx hb dL_law_331 rfl (lv_at hl 0 rfl) ?_
        refine lv_iload hx hb dL_law_332 (lv_at hl 4 rfl) ?_
        refine lv_iconst (v := 2) hx hb dL_law_334 (by decide) ?_
        refine lv_iadd hx hb dL_law_335 ?_
        refine w_sld hx hb hX hbl hbA hS hL (r + 2) (nI_add r 2) (by omega) hx2 dL_law_336 ?_
        refine lv_aload_n hx hb dL_law_337 rfl (lv_at hl 3 rfl) ?_
        have hPO := wj_Pl hP
        have hDO := wj_Dl hD
        have hF := wj_Fl hD hS hA
        refine va_calli (vx_runSW (As := [.ref (a 0), .int (nI i), .int y, .ref o]) (rest := []) hC (w_setHeir_b l hst H.size i hi hn y hy hq) (vx_cwSW 4 hC.2.2.2.2 (gi_S mM_L_113 mT_L_setHeir mI_MissRegistryLaw mC_L_setHeir) rfl rfl rfl (by decide +kernel) ⟨Nat.le_of_ble_eq_true rfl, Nat.le_of_ble_eq_true rfl⟩) ⟨fun a1 U g mk q => ⟨q.1, q.2.1, q.2.2.1, va_K.moved (u := U) (U := U.calling g mk a1) (Vm.Alike.refl U.vm) q.2.2.2.1, va_K.moved (u := U) (U := U.calling g mk a1) (Vm.Alike.refl U.vm) q.2.2.2.2.1, ⟨q.2.2.2.2.2.1, tH.same (u := U) (U := U.calling g mk a1) rfl q.2.2.2.2.2.2.1, tN.moved (u := U) (U := U.calling g mk a1) (Vm.Alike.refl U.vm) q.2.2.2.2.2.2.2⟩⟩, fun U hU hW => ⟨rfl, by rw [hU], by rw [hU]; exact hPO, va_K.moved hW.alike hK, va_K.moved hW.alike hJ, hDO.weaken (fun _ _ _ _ => trivial), by rw [hU]; exact (hT.at hS).warm hW, hN.moved hW.alike⟩⟩ rfl rfl hl.1 rfl (lv_room (Nat.le_of_ble_eq_true rfl)) dL_law_338 ⟨(show _ ≤ 601024 by omega), (show _ ≤ 7293034 by omega)⟩) hS (fun q _ h => hF q h) hF (fun r9 u9 t H locs ht hvm hw9 hB hz9 hk9 hS9 => ?_)
        obtain ⟨hP1, hD1⟩ := hB
        rw [ht] at hP1
        obtain ⟨hP, hD⟩ := wj_l hP hD hk9 hF hP1 hD1
        rw [show r9 = 1 from hw9]
        have hP : va_P D vwCl (oW o cJ g (xW z a lv lk pu fa he n nv du ta w mp mi k nt fu re) ++ mW z2 a2 th n w gn lk pu fa he nv of mp mi k nt fu re) H := hP
        have hD : va_D (nw s) (oW o cJ g (xW z a lv lk pu fa he n nv du ta w mp mi k nt fu re) ++ mW z2 a2 th n w gn lk pu fa he nv of mp mi k nt fu re) := hD
        have hS := hS9
        refine lv_istore (lv' := [(5, .int 1), (0, .ref b), (1, .ref (a 0)), (2, .ref (a2 0)), (3, .ref o), (4, .int (nI r))]) hx hb dL_law_341 hl (by decide) rfl (fun ls hl => ?_)
        refine lv_aload_n hx hb dL_law_343 rfl (lv_at hl 3 rfl) ?_
        refine lv_aload_n hx hb dL_law_344 rfl (lv_at hl 1 rfl) ?_
        refine lv_iload hx hb dL_law_345 (lv_at hl 5 rfl) ?_
        refine lv_iconst (v := 1) hx hb dL_law_347 (by decide) ?_
        refine lv_iadd hx hb dL_law_348 ?_
        refine w_sld hx hb hX hbl hbA hS hL (r + 1) (nI_1 r) (by omega) hx1 dL_law_349 ?_
        refine lv_aload_n hx hb dL_law_350 rfl (lv_at hl 1 rfl) ?_
        refine lv_iload hx hb dL_law_351 (lv_at hl 5 rfl) ?_
        refine lv_iconst (v := 2) hx hb dL_law_353 (by decide) ?_
        refine lv_iadd hx hb dL_law_354 ?_
        refine w_sld hx hb hX hbl hbA hS hL (r + 2) (nI_add r 2) (by omega) hx2 dL_law_355 ?_
        have hPM := wj_Pr hP
        have hDM := wj_Dr hD
        have hF := wj_Fr hD hS hA
        refine va_calli (va_runV (As := [.int (nI i), .int y]) (rest := []) hC (c_X1_setHeir_b l H.size i hi hn y hy hq) (cwV 2 hC.2.2.2.2 (gi_V mM_L_116 mV_X1_setHeir mS_X1_setHeir mI_MissRegistryModel mC_X1_setHeir) rfl rfl rfl (by decide +kernel) ⟨Nat.le_of_ble_eq_true rfl, Nat.le_of_ble_eq_true rfl⟩) ⟨fun a1 U g mk q => ⟨q.1, q.2.1, ⟨q.2.2.1.1, va_K.moved (u := U) (U := U.calling g mk a1) (Vm.Alike.refl U.vm) q.2.2.1.2⟩, q.2.2.2⟩, va_recv hK2 hPM (ci := 1) (q0 := 0) rfl rfl, fun U hU hW => ⟨rfl, by rw [hU], ⟨by rw [hU]; exact hPM, va_K.moved hW.alike hK2⟩, hDM.weaken (fun _ _ _ _ => trivial)⟩⟩ rfl rfl hl.1 rfl (lv_room (Nat.le_of_ble_eq_true rfl)) dL_law_356 ⟨(show _ ≤ 601024 by omega), (show _ ≤ 7293034 by omega)⟩) hS (fun q _ h => hF q h) hF (fun r7 u7 t H locs ht hvm hw7 hB hz9 hk9 hS9 => ?_)
        obtain ⟨hP1, hK1, hD1⟩ := hB
        rw [ht] at hP1
        obtain ⟨hP, hD⟩ := wj_r hP hD hk9 hF hP1 hD1
        have hP : va_P D vwCl (oW o cJ g (xW z a lv lk pu fa he n nv du ta w mp mi k nt fu re) ++ mW z2 a2 1 n w gn lk pu fa he nv of mp mi k nt fu re) H := hP
        have hD : va_D (nw s) (oW o cJ g (xW z a lv lk pu fa he n nv du ta w mp mi k nt fu re) ++ mW z2 a2 1 n w gn lk pu fa he nv of mp mi k nt fu re) := hD
        have hS := hS9
        rw [show r7 = 0 from hw7]
        refine lv_istore (lv' := [(6, .int 0), (5, .int 1), (0, .ref b), (1, .ref (a 0)), (2, .ref (a2 0)), (3, .ref o), (4, .int (nI r))]) hx hb dL_law_359 hl (by decide) rfl (fun ls hl => ?_)
        refine lv_aload_n hx hb dL_law_361 rfl (lv_at hl 4 rfl) ?_
        refine vp_callSi (W.runV (As := []) (rest := []) hC (c_X1_thrown l) (cwV 0 hC.2.2.2.2 (gi_V mM_L_106 mV_X1_thrown mS_X1_thrown mI_MissRegistryModel mC_X1_thrown) rfl rfl rfl (by decide +kernel) ⟨Nat.le_of_ble_eq_true rfl, Nat.le_of_ble_eq_true rfl⟩) (mpre hK2 (wj_Pr hP)) rfl rfl hl.1 rfl (lv_room (Nat.le_of_ble_eq_true rfl)) dL_law_362 ⟨(show _ ≤ 601024 by omega), (show _ ≤ 7293034 by omega)⟩) (fun r8 hr8 => ?_)
        rw [show r8 = 1 from hr8]
        refine lv_iload hx hb dL_law_365 (lv_at hl 1 rfl) ?_
        refine lv_icmp_eq (tgt := 372) hx hb dL_law_367 (by decide) (fun c_367 => ?_) (fun c_367 => ?_)
        · refine lv_iload hx hb dL_law_372 (lv_at hl 1 rfl) ?_
          refine lv_if_ne (tgt := 389) hx hb dL_law_374 (by decide) (fun c_374 => ?_) (fun c_374 => ?_)
          · refine lv_goto (tgt := 1948) hx hb dL_law_389 (by decide) ?_
            exact kk _ _ _ _ _ ⟨lv, lk, pu, fa, he, n, nv, du, ta, w, mp, mi, k, nt, fu, re, gn, of, 1, g, hI, hP, hD, hS⟩ (by omega) (by omega) (lv_sub hl [2, 3, 4, 5, 6] rfl)
          · exact absurd c_374 (by decide)
        · exact absurd rfl c_367
      · obtain ⟨j, hj, exj⟩ := isP_ex (by omega) hq
        subst exj
        by_cases hij : i = j
        · subst hij
          refine lv_aload_n hx hb dL_law_324 rfl (lv_at hl 1 rfl) ?_
          refine lv_aload_n hx hb dL_law_325 rfl (lv_at hl 0 rfl) ?_
          refine lv_iload hx hb dL_law_326 (lv_at hl 4 rfl) ?_
          refine lv_iconst (v := 1) hx hb dL_law_328 (by decide) ?_
          refine lv_iadd hx hb dL_law_329 ?_
          refine w_sld hx hb hX hbl hbA hS hL (r + 1) (nI_1 r) (by omega) hx1 dL_law_330 ?_
          refine lv_aload_n hx hb dL_law_331 rfl (lv_at hl 0 rfl) ?_
          refine lv_iload hx hb dL_law_332 (lv_at hl 4 rfl) ?_
          refine lv_iconst (v := 2) hx hb dL_law_334 (by decide) ?_
          refine lv_iadd hx hb dL_law_335 ?_
          refine w_sld hx hb hX hbl hbA hS hL (r + 2) (nI_add r 2) (by omega) hx2 dL_law_336 ?_
          refine lv_aload_n hx hb dL_law_337 rfl (lv_at hl 3 rfl) ?_
          have hPO := wj_Pl hP
          have hDO := wj_Dl hD
          have hF := wj_Fl hD hS hA
          refine va_calli (vx_runSW (As := [.ref (a 0), .int (nI i), .int (nI i), .ref o]) (rest := []) hC (w_setHeir_c l hst H.size i hi hn) (vx_cwSW 4 hC.2.2.2.2 (gi_S mM_L_113 mT_L_setHeir mI_MissRegistryLaw mC_L_setHeir) rfl rfl rfl (by decide +kernel) ⟨Nat.le_of_ble_eq_true rfl, Nat.le_of_ble_eq_true rfl⟩) ⟨fun a1 U g mk q => ⟨q.1, q.2.1, q.2.2.1, va_K.moved (u := U) (U := U.calling g mk a1) (Vm.Alike.refl U.vm) q.2.2.2.1, va_K.moved (u := U) (U := U.calling g mk a1) (Vm.Alike.refl U.vm) q.2.2.2.2.1, ⟨q.2.2.2.2.2.1, tH.same (u := U) (U := U.calling g mk a1) rfl q.2.2.2.2.2.2.1, tN.moved (u := U) (U := U.calling g mk a1) (Vm.Alike.refl U.vm) q.2.2.2.2.2.2.2⟩⟩, fun U hU hW => ⟨rfl, by rw [hU], by rw [hU]; exact hPO, va_K.moved hW.alike hK, va_K.moved hW.alike hJ, hDO.weaken (fun _ _ _ _ => trivial), by rw [hU]; exact (hT.at hS).warm hW, hN.moved hW.alike⟩⟩ rfl rfl hl.1 rfl (lv_room (Nat.le_of_ble_eq_true rfl)) dL_law_338 ⟨(show _ ≤ 601024 by omega), (show _ ≤ 7293034 by omega)⟩) hS (fun q _ h => hF q h) hF (fun r9 u9 t H locs ht hvm hw9 hB hz9 hk9 hS9 => ?_)
          obtain ⟨hP1, hD1⟩ := hB
          rw [ht] at hP1
          obtain ⟨hP, hD⟩ := wj_l hP hD hk9 hF hP1 hD1
          rw [show r9 = 2 from hw9]
          have hP : va_P D vwCl (oW o cJ g (xW z a lv lk pu fa he n nv du ta w mp mi k nt fu re) ++ mW z2 a2 th n w gn lk pu fa he nv of mp mi k nt fu re) H := hP
          have hD : va_D (nw s) (oW o cJ g (xW z a lv lk pu fa he n nv du ta w mp mi k nt fu re) ++ mW z2 a2 th n w gn lk pu fa he nv of mp mi k nt fu re) := hD
          have hS := hS9
          refine lv_istore (lv' := [(5, .int 2), (0, .ref b), (1, .ref (a 0)), (2, .ref (a2 0)), (3, .ref o), (4, .int (nI r))]) hx hb dL_law_341 hl (by decide) rfl (fun ls hl => ?_)
          refine lv_aload_n hx hb dL_law_343 rfl (lv_at hl 3 rfl) ?_
          refine lv_aload_n hx hb dL_law_344 rfl (lv_at hl 1 rfl) ?_
          refine lv_iload hx hb dL_law_345 (lv_at hl 5 rfl) ?_
          refine lv_iconst (v := 1) hx hb dL_law_347 (by decide) ?_
          refine lv_iadd hx hb dL_law_348 ?_
          refine w_sld hx hb hX hbl hbA hS hL (r + 1) (nI_1 r) (by omega) hx1 dL_law_349 ?_
          refine lv_aload_n hx hb dL_law_350 rfl (lv_at hl 1 rfl) ?_
          refine lv_iload hx hb dL_law_351 (lv_at hl 5 rfl) ?_
          refine lv_iconst (v := 2) hx hb dL_law_353 (by decide) ?_
          refine lv_iadd hx hb dL_law_354 ?_
          refine w_sld hx hb hX hbl hbA hS hL (r + 2) (nI_add r 2) (by omega) hx2 dL_law_355 ?_
          have hPM := wj_Pr hP
          have hDM := wj_Dr hD
          have hF := wj_Fr hD hS hA
          refine va_calli (va_runV (As := [.int (nI i), .int (nI i)]) (rest := []) hC (c_X1_setHeir_c l H.size i hi hn) (cwV 2 hC.2.2.2.2 (gi_V mM_L_116 mV_X1_setHeir mS_X1_setHeir mI_MissRegistryModel mC_X1_setHeir) rfl rfl rfl (by decide +kernel) ⟨Nat.le_of_ble_eq_true rfl, Nat.le_of_ble_eq_true rfl⟩) ⟨fun a1 U g mk q => ⟨q.1, q.2.1, ⟨q.2.2.1.1, va_K.moved (u := U) (U := U.calling g mk a1) (Vm.Alike.refl U.vm) q.2.2.1.2⟩, q.2.2.2⟩, va_recv hK2 hPM (ci := 1) (q0 := 0) rfl rfl, fun U hU hW => ⟨rfl, by rw [hU], ⟨by rw [hU]; exact hPM, va_K.moved hW.alike hK2⟩, hDM.weaken (fun _ _ _ _ => trivial)⟩⟩ rfl rfl hl.1 rfl (lv_room (Nat.le_of_ble_eq_true rfl)) dL_law_356 ⟨(show _ ≤ 601024 by omega), (show _ ≤ 7293034 by omega)⟩) hS (fun q _ h => hF q h) hF (fun r7 u7 t H locs ht hvm hw7 hB hz9 hk9 hS9 => ?_)
          obtain ⟨hP1, hK1, hD1⟩ := hB
          rw [ht] at hP1
          obtain ⟨hP, hD⟩ := wj_r hP hD hk9 hF hP1 hD1
          have hP : va_P D vwCl (oW o cJ g (xW z a lv lk pu fa he n nv du ta w mp mi k nt fu re) ++ mW z2 a2 2 n w gn lk pu fa he nv of mp mi k nt fu re) H := hP
          have hD : va_D (nw s) (oW o cJ g (xW z a lv lk pu fa he n nv du ta w mp mi k nt fu re) ++ mW z2 a2 2 n w gn lk pu fa he nv of mp mi k nt fu re) := hD
          have hS := hS9
          rw [show r7 = 0 from hw7]
          refine lv_istore (lv' := [(6, .int 0), (5, .int 2), (0, .ref b), (1, .ref (a 0)), (2, .ref (a2 0)), (3, .ref o), (4, .int (nI r))]) hx hb dL_law_359 hl (by decide) rfl (fun ls hl => ?_)
          refine lv_aload_n hx hb dL_law_361 rfl (lv_at hl 4 rfl) ?_
          refine vp_callSi (W.runV (As := []) (rest := []) hC (c_X1_thrown l) (cwV 0 hC.2.2.2.2 (gi_V mM_L_106 mV_X1_thrown mS_X1_thrown mI_MissRegistryModel mC_X1_thrown) rfl rfl rfl (by decide +kernel) ⟨Nat.le_of_ble_eq_true rfl, Nat.le_of_ble_eq_true rfl⟩) (mpre hK2 (wj_Pr hP)) rfl rfl hl.1 rfl (lv_room (Nat.le_of_ble_eq_true rfl)) dL_law_362 ⟨(show _ ≤ 601024 by omega), (show _ ≤ 7293034 by omega)⟩) (fun r8 hr8 => ?_)
          rw [show r8 = 2 from hr8]
          refine lv_iload hx hb dL_law_365 (lv_at hl 1 rfl) ?_
          refine lv_icmp_eq (tgt := 372) hx hb dL_law_367 (by decide) (fun c_367 => ?_) (fun c_367 => ?_)
          · refine lv_iload hx hb dL_law_372 (lv_at hl 1 rfl) ?_
            refine lv_if_ne (tgt := 389) hx hb dL_law_374 (by decide) (fun c_374 => ?_) (fun c_374 => ?_)
            · refine lv_goto (tgt := 1948) hx hb dL_law_389 (by decide) ?_
              exact kk _ _ _ _ _ ⟨lv, lk, pu, fa, he, n, nv, du, ta, w, mp, mi, k, nt, fu, re, gn, of, 2, g, hI, hP, hD, hS⟩ (by omega) (by omega) (lv_sub hl [2, 3, 4, 5, 6] rfl)
            · exact absurd c_374 (by decide)
          · exact absurd rfl c_367
        · have hg := hI.2.1.1.iff i hi
          by_cases ha : lv i = 0
          · refine lv_aload_n hx hb dL_law_324 rfl (lv_at hl 1 rfl) ?_
            refine lv_aload_n hx hb dL_law_325 rfl (lv_at hl 0 rfl) ?_
            refine lv_iload hx hb dL_law_326 (lv_at hl 4 rfl) ?_
            refine lv_iconst (v := 1) hx hb dL_law_328 (by decide) ?_
            refine lv_iadd hx hb dL_law_329 ?_
            refine w_sld hx hb hX hbl hbA hS hL (r + 1) (nI_1 r) (by omega) hx1 dL_law_330 ?_
            refine lv_aload_n hx hb dL_law_331 rfl (lv_at hl 0 rfl) ?_
            refine lv_iload hx hb dL_law_332 (lv_at hl 4 rfl) ?_
            refine lv_iconst (v := 2) hx hb dL_law_334 (by decide) ?_
            refine lv_iadd hx hb dL_law_335 ?_
            refine w_sld hx hb hX hbl hbA hS hL (r + 2) (nI_add r 2) (by omega) hx2 dL_law_336 ?_
            refine lv_aload_n hx hb dL_law_337 rfl (lv_at hl 3 rfl) ?_
            have hPO := wj_Pl hP
            have hDO := wj_Dl hD
            have hF := wj_Fl hD hS hA
            refine va_calli (vx_runSW (As := [.ref (a 0), .int (nI i), .int (nI j), .ref o]) (rest := []) hC (w_setHeir_e l hst H.size i j hi hj hn hij ha) (vx_cwSW 4 hC.2.2.2.2 (gi_S mM_L_113 mT_L_setHeir mI_MissRegistryLaw mC_L_setHeir) rfl rfl rfl (by decide +kernel) ⟨Nat.le_of_ble_eq_true rfl, Nat.le_of_ble_eq_true rfl⟩) ⟨fun a1 U g mk q => ⟨q.1, q.2.1, q.2.2.1, va_K.moved (u := U) (U := U.calling g mk a1) (Vm.Alike.refl U.vm) q.2.2.2.1, va_K.moved (u := U) (U := U.calling g mk a1) (Vm.Alike.refl U.vm) q.2.2.2.2.1, ⟨q.2.2.2.2.2.1, tH.same (u := U) (U := U.calling g mk a1) rfl q.2.2.2.2.2.2.1, tN.moved (u := U) (U := U.calling g mk a1) (Vm.Alike.refl U.vm) q.2.2.2.2.2.2.2⟩⟩, fun U hU hW => ⟨rfl, by rw [hU], by rw [hU]; exact hPO, va_K.moved hW.alike hK, va_K.moved hW.alike hJ, hDO.weaken (fun _ _ _ _ => trivial), by rw [hU]; exact (hT.at hS).warm hW, hN.moved hW.alike⟩⟩ rfl rfl hl.1 rfl (lv_room (Nat.le_of_ble_eq_true rfl)) dL_law_338 ⟨(show _ ≤ 601024 by omega), (show _ ≤ 7293034 by omega)⟩) hS (fun q _ h => hF q h) hF (fun r9 u9 t H locs ht hvm hw9 hB hz9 hk9 hS9 => ?_)
            obtain ⟨hP1, hD1⟩ := hB
            rw [ht] at hP1
            obtain ⟨hP, hD⟩ := wj_l hP hD hk9 hF hP1 hD1
            rw [show r9 = 3 from hw9]
            have hP : va_P D vwCl (oW o cJ g (xW z a lv lk pu fa he n nv du ta w mp mi k nt fu re) ++ mW z2 a2 th n w gn lk pu fa he nv of mp mi k nt fu re) H := hP
            have hD : va_D (nw s) (oW o cJ g (xW z a lv lk pu fa he n nv du ta w mp mi k nt fu re) ++ mW z2 a2 th n w gn lk pu fa he nv of mp mi k nt fu re) := hD
            have hS := hS9
            refine lv_istore (lv' := [(5, .int 3), (0, .ref b), (1, .ref (a 0)), (2, .ref (a2 0)), (3, .ref o), (4, .int (nI r))]) hx hb dL_law_341 hl (by decide) rfl (fun ls hl => ?_)
            refine lv_aload_n hx hb dL_law_343 rfl (lv_at hl 3 rfl) ?_
            refine lv_aload_n hx hb dL_law_344 rfl (lv_at hl 1 rfl) ?_
            refine lv_iload hx hb dL_law_345 (lv_at hl 5 rfl) ?_
            refine lv_iconst (v := 1) hx hb dL_law_347 (by decide) ?_
            refine lv_iadd hx hb dL_law_348 ?_
            refine w_sld hx hb hX hbl hbA hS hL (r + 1) (nI_1 r) (by omega) hx1 dL_law_349 ?_
            refine lv_aload_n hx hb dL_law_350 rfl (lv_at hl 1 rfl) ?_
            refine lv_iload hx hb dL_law_351 (lv_at hl 5 rfl) ?_
            refine lv_iconst (v := 2) hx hb dL_law_353 (by decide) ?_
            refine lv_iadd hx hb dL_law_354 ?_
            refine w_sld hx hb hX hbl hbA hS hL (r + 2) (nI_add r 2) (by omega) hx2 dL_law_355 ?_
            have hPM := wj_Pr hP
            have hDM := wj_Dr hD
            have hF := wj_Fr hD hS hA
            refine va_calli (va_runV (As := [.int (nI i), .int (nI j)]) (rest := []) hC (c_X1_setHeir_e l H.size i j hi hj hn hij (fun q => hg.mp q ha)) (cwV 2 hC.2.2.2.2 (gi_V mM_L_116 mV_X1_setHeir mS_X1_setHeir mI_MissRegistryModel mC_X1_setHeir) rfl rfl rfl (by decide +kernel) ⟨Nat.le_of_ble_eq_true rfl, Nat.le_of_ble_eq_true rfl⟩) ⟨fun a1 U g mk q => ⟨q.1, q.2.1, ⟨q.2.2.1.1, va_K.moved (u := U) (U := U.calling g mk a1) (Vm.Alike.refl U.vm) q.2.2.1.2⟩, q.2.2.2⟩, va_recv hK2 hPM (ci := 1) (q0 := 0) rfl rfl, fun U hU hW => ⟨rfl, by rw [hU], ⟨by rw [hU]; exact hPM, va_K.moved hW.alike hK2⟩, hDM.weaken (fun _ _ _ _ => trivial)⟩⟩ rfl rfl hl.1 rfl (lv_room (Nat.le_of_ble_eq_true rfl)) dL_law_356 ⟨(show _ ≤ 601024 by omega), (show _ ≤ 7293034 by omega)⟩) hS (fun q _ h => hF q h) hF (fun r7 u7 t H locs ht hvm hw7 hB hz9 hk9 hS9 => ?_)
            obtain ⟨hP1, hK1, hD1⟩ := hB
            rw [ht] at hP1
            obtain ⟨hP, hD⟩ := wj_r hP hD hk9 hF hP1 hD1
            have hP : va_P D vwCl (oW o cJ g (xW z a lv lk pu fa he n nv du ta w mp mi k nt fu re) ++ mW z2 a2 3 n w gn lk pu fa he nv of mp mi k nt fu re) H := hP
            have hD : va_D (nw s) (oW o cJ g (xW z a lv lk pu fa he n nv du ta w mp mi k nt fu re) ++ mW z2 a2 3 n w gn lk pu fa he nv of mp mi k nt fu re) := hD
            have hS := hS9
            rw [show r7 = 0 from hw7]
            refine lv_istore (lv' := [(6, .int 0), (5, .int 3), (0, .ref b), (1, .ref (a 0)), (2, .ref (a2 0)), (3, .ref o), (4, .int (nI r))]) hx hb dL_law_359 hl (by decide) rfl (fun ls hl => ?_)
            refine lv_aload_n hx hb dL_law_361 rfl (lv_at hl 4 rfl) ?_
            refine vp_callSi (W.runV (As := []) (rest := []) hC (c_X1_thrown l) (cwV 0 hC.2.2.2.2 (gi_V mM_L_106 mV_X1_thrown mS_X1_thrown mI_MissRegistryModel mC_X1_thrown) rfl rfl rfl (by decide +kernel) ⟨Nat.le_of_ble_eq_true rfl, Nat.le_of_ble_eq_true rfl⟩) (mpre hK2 (wj_Pr hP)) rfl rfl hl.1 rfl (lv_room (Nat.le_of_ble_eq_true rfl)) dL_law_362 ⟨(show _ ≤ 601024 by omega), (show _ ≤ 7293034 by omega)⟩) (fun r8 hr8 => ?_)
            rw [show r8 = 3 from hr8]
            refine lv_iload hx hb dL_law_365 (lv_at hl 1 rfl) ?_
            refine lv_icmp_eq (tgt := 372) hx hb dL_law_367 (by decide) (fun c_367 => ?_) (fun c_367 => ?_)
            · refine lv_iload hx hb dL_law_372 (lv_at hl 1 rfl) ?_
              refine lv_if_ne (tgt := 389) hx hb dL_law_374 (by decide) (fun c_374 => ?_) (fun c_374 => ?_)
              · refine lv_goto (tgt := 1948) hx hb dL_law_389 (by decide) ?_
                exact kk _ _ _ _ _ ⟨lv, lk, pu, fa, he, n, nv, du, ta, w, mp, mi, k, nt, fu, re, gn, of, 3, g, hI, hP, hD, hS⟩ (by omega) (by omega) (lv_sub hl [2, 3, 4, 5, 6] rfl)
              · exact absurd c_374 (by decide)
            · exact absurd rfl c_367
          · refine lv_aload_n hx hb dL_law_324 rfl (lv_at hl 1 rfl) ?_
            refine lv_aload_n hx hb dL_law_325 rfl (lv_at hl 0 rfl) ?_
            refine lv_iload hx hb dL_law_326 (lv_at hl 4 rfl) ?_
            refine lv_iconst (v := 1) hx hb dL_law_328 (by decide) ?_
            refine lv_iadd hx hb dL_law_329 ?_
            refine w_sld hx hb hX hbl hbA hS hL (r + 1) (nI_1 r) (by omega) hx1 dL_law_330 ?_
            refine lv_aload_n hx hb dL_law_331 rfl (lv_at hl 0 rfl) ?_
            refine lv_iload hx hb dL_law_332 (lv_at hl 4 rfl) ?_
            refine lv_iconst (v := 2) hx hb dL_law_334 (by decide) ?_
            refine lv_iadd hx hb dL_law_335 ?_
            refine w_sld hx hb hX hbl hbA hS hL (r + 2) (nI_add r 2) (by omega) hx2 dL_law_336 ?_
            refine lv_aload_n hx hb dL_law_337 rfl (lv_at hl 3 rfl) ?_
            have hPO := wj_Pl hP
            have hDO := wj_Dl hD
            have hF := wj_Fl hD hS hA
            refine va_calli (vx_runSW (As := [.ref (a 0), .int (nI i), .int (nI j), .ref o]) (rest := []) hC (w_setHeir_1 l H.size i j hi hj hn hij ha) (vx_cwSW 4 hC.2.2.2.2 (gi_S mM_L_113 mT_L_setHeir mI_MissRegistryLaw mC_L_setHeir) rfl rfl rfl (by decide +kernel) ⟨Nat.le_of_ble_eq_true rfl, Nat.le_of_ble_eq_true rfl⟩) ⟨fun a1 U g mk q => ⟨q.1, q.2.1, q.2.2.1, va_K.moved (u := U) (U := U.calling g mk a1) (Vm.Alike.refl U.vm) q.2.2.2.1, va_K.moved (u := U) (U := U.calling g mk a1) (Vm.Alike.refl U.vm) q.2.2.2.2.1, q.2.2.2.2.2⟩, fun U hU hW => ⟨rfl, by rw [hU], by rw [hU]; exact hPO, va_K.moved hW.alike hK, va_K.moved hW.alike hJ, hDO.weaken (fun _ _ _ _ => trivial)⟩⟩ rfl rfl hl.1 rfl (lv_room (Nat.le_of_ble_eq_true rfl)) dL_law_338 ⟨(show _ ≤ 601024 by omega), (show _ ≤ 7293034 by omega)⟩) hS (fun q _ h => hF q h) hF (fun r9 u9 t H locs ht hvm hw9 hB hz9 hk9 hS9 => ?_)
            obtain ⟨hP1, hD1⟩ := hB
            rw [ht] at hP1
            obtain ⟨hP, hD⟩ := wj_l hP hD hk9 hF hP1 hD1
            obtain ⟨hr9, hu9⟩ := hw9
            rw [hr9]
            have hP : va_P D vwCl (oW o cJ u9 (xW z a lv lk pu fa (upd he i (nI j)) n nv du ta w mp mi k nt fu re) ++ mW z2 a2 th n w gn lk pu fa he nv of mp mi k nt fu re) H := hP
            have hD : va_D (nw s) (oW o cJ u9 (xW z a lv lk pu fa (upd he i (nI j)) n nv du ta w mp mi k nt fu re) ++ mW z2 a2 th n w gn lk pu fa he nv of mp mi k nt fu re) := hD
            have hS := hS9
            refine lv_istore (lv' := [(5, .int 0), (0, .ref b), (1, .ref (a 0)), (2, .ref (a2 0)), (3, .ref o), (4, .int (nI r))]) hx hb dL_law_341 hl (by decide) rfl (fun ls hl => ?_)
            refine lv_aload_n hx hb dL_law_343 rfl (lv_at hl 3 rfl) ?_
            refine lv_aload_n hx hb dL_law_344 rfl (lv_at hl 1 rfl) ?_
            refine lv_iload hx hb dL_law_345 (lv_at hl 5 rfl) ?_
            refine lv_iconst (v := 1) hx hb dL_law_347 (by decide) ?_
            refine lv_iadd hx hb dL_law_348 ?_
            refine w_sld hx hb hX hbl hbA hS hL (r + 1) (nI_1 r) (by omega) hx1 dL_law_349 ?_
            refine lv_aload_n hx hb dL_law_350 rfl (lv_at hl 1 rfl) ?_
            refine lv_iload hx hb dL_law_351 (lv_at hl 5 rfl) ?_
            refine lv_iconst (v := 2) hx hb dL_law_353 (by decide) ?_
            refine lv_iadd hx hb dL_law_354 ?_
            refine w_sld hx hb hX hbl hbA hS hL (r + 2) (nI_add r 2) (by omega) hx2 dL_law_355 ?_
            have hPM := wj_Pr hP
            have hDM := wj_Dr hD
            have hF := wj_Fr hD hS hA
            refine va_calli (va_runV (As := [.int (nI i), .int (nI j)]) (rest := []) hC (c_X1_setHeir_1 l H.size i j hi hj hn hij (hg.mpr ha)) (cwV 2 hC.2.2.2.2 (gi_V mM_L_116 mV_X1_setHeir mS_X1_setHeir mI_MissRegistryModel mC_X1_setHeir) rfl rfl rfl (by decide +kernel) ⟨Nat.le_of_ble_eq_true rfl, Nat.le_of_ble_eq_true rfl⟩) ⟨fun a1 U g mk q => ⟨q.1, q.2.1, ⟨q.2.2.1.1, va_K.moved (u := U) (U := U.calling g mk a1) (Vm.Alike.refl U.vm) q.2.2.1.2⟩, q.2.2.2⟩, va_recv hK2 hPM (ci := 1) (q0 := 0) rfl rfl, fun U hU hW => ⟨rfl, by rw [hU], ⟨by rw [hU]; exact hPM, va_K.moved hW.alike hK2⟩, hDM.weaken (fun _ _ _ _ => trivial)⟩⟩ rfl rfl hl.1 rfl (lv_room (Nat.le_of_ble_eq_true rfl)) dL_law_356 ⟨(show _ ≤ 601024 by omega), (show _ ≤ 7293034 by omega)⟩) hS (fun q _ h => hF q h) hF (fun r7 u7 t H locs ht hvm hw7 hB hz9 hk9 hS9 => ?_)
            obtain ⟨hP1, hK1, hD1⟩ := hB
            rw [ht] at hP1
            obtain ⟨hP, hD⟩ := wj_r hP hD hk9 hF hP1 hD1
            have hP : va_P D vwCl (oW o cJ u9 (xW z a lv lk pu fa (upd he i (nI j)) n nv du ta w mp mi k nt fu re) ++ mW z2 a2 0 n w gn lk pu fa (upd he i (nI j)) nv of mp mi k nt fu re) H := hP
            have hD : va_D (nw s) (oW o cJ u9 (xW z a lv lk pu fa (upd he i (nI j)) n nv du ta w mp mi k nt fu re) ++ mW z2 a2 0 n w gn lk pu fa (upd he i (nI j)) nv of mp mi k nt fu re) := hD
            have hS := hS9
            rw [show r7 = he i from hw7]
            refine lv_istore (lv' := [(6, .int (he i)), (5, .int 0), (0, .ref b), (1, .ref (a 0)), (2, .ref (a2 0)), (3, .ref o), (4, .int (nI r))]) hx hb dL_law_359 hl (by decide) rfl (fun ls hl => ?_)
            refine lv_aload_n hx hb dL_law_361 rfl (lv_at hl 4 rfl) ?_
            refine vp_callSi (W.runV (As := []) (rest := []) hC (c_X1_thrown l) (cwV 0 hC.2.2.2.2 (gi_V mM_L_106 mV_X1_thrown mS_X1_thrown mI_MissRegistryModel mC_X1_thrown) rfl rfl rfl (by decide +kernel) ⟨Nat.le_of_ble_eq_true rfl, Nat.le_of_ble_eq_true rfl⟩) (mpre hK2 (wj_Pr hP)) rfl rfl hl.1 rfl (lv_room (Nat.le_of_ble_eq_true rfl)) dL_law_362 ⟨(show _ ≤ 601024 by omega), (show _ ≤ 7293034 by omega)⟩) (fun r8 hr8 => ?_)
            rw [show r8 = 0 from hr8]
            refine lv_iload hx hb dL_law_365 (lv_at hl 1 rfl) ?_
            refine lv_icmp_eq (tgt := 372) hx hb dL_law_367 (by decide) (fun c_367 => ?_) (fun c_367 => ?_)
            · refine lv_iload hx hb dL_law_372 (lv_at hl 1 rfl) ?_
              refine lv_if_ne (tgt := 389) hx hb dL_law_374 (by decide) (fun c_374 => ?_) (fun c_374 => ?_)
              · exact absurd rfl c_374
              · refine lv_aload_n hx hb dL_law_377 rfl (lv_at hl 5 rfl) ?_
                refine lv_iconst (v := 0) hx hb dL_law_378 (by decide) ?_
                refine w_lald hC hJ (wj_Pl hP) dL_law_379 ?_
                refine lv_iload hx hb dL_law_380 (lv_at hl 0 rfl) ?_
                refine lv_i2l hx hb dL_law_382 rfl ?_
                refine w_lcmp hx hb dL_law_383 hu9 ?_
                refine lv_if_eq (tgt := 389) hx hb dL_law_384 (by decide) (fun c_384 => ?_) (fun c_384 => ?_)
                · refine lv_goto (tgt := 1948) hx hb dL_law_389 (by decide) ?_
                  exact kk _ _ _ _ _ ⟨lv, lk, pu, fa, (upd he i (nI j)), n, nv, du, ta, w, mp, mi, k, nt, fu, re, gn, of, 0, u9, (iv_setHeir hI (Or.inr ⟨j, hj, rfl⟩)), hP, hD, hS⟩ (by omega) (by omega) (lv_sub hl [2, 3, 4, 5, 6] rfl)
                · exact absurd rfl c_384
            · exact absurd rfl c_367
set_option maxHeartbeats 8000000 in
set_option maxRecDepth 100000 in
theorem lc_3 {p : Program} {l : Launch} {e : Env} {s : State} {m : MethodId} {below : List Frame} {meth : Method} {c : Code} {H : Heap} {locs : List Loc} {cells slots : Nat} {Q : State → Prop} {ls : Array Slot} {b L : Nat} {xs : Nat → Int32} {D : va_G} {z z2 : ClassId × ClassId} {cJ : ClassId} {q9 t9 a a2 : Nat → Nat} {o : Nat} {lv lk pu fa he : Nat → Int32} {n : Nat} {nv du ta : Nat → Int32} {w : Nat} {mp mi : Nat → Int32} {k : Nat} {nt fu re : Int32} {gn of : Nat → Int32} {th : Int32} {g : Nat → Int64} {r : Nat} (X : LX p l s m c b L xs D z z2 cJ q9 t9) (hI : IV lv lk fa he n nv du w k gn of) (hP : va_P D vwCl (oW o cJ g (xW z a lv lk pu fa he n nv du ta w mp mi k nt fu re) ++ mW z2 a2 th n w gn lk pu fa he nv of mp mi k nt fu re) H) (hD : va_D (nw s) (oW o cJ g (xW z a lv lk pu fa he n nv du ta w mp mi k nt fu re) ++ mW z2 a2 th n w gn lk pu fa he nv of mp mi k nt fu re)) (hS : va_S (nw s) s.heap H locs) (hcl : cells + 12 ≤ 601024) (hsl : slots + 100 ≤ 7293034) (hr : r + 2 < L) (hl : lv_has ls 9 [(0, .ref b), (1, .ref (a 0)), (2, .ref (a2 0)), (3, .ref o), (4, .int (nI r))]) (kk : ∀ (H1 : Heap) (locs1 : List Loc) (c1 s1 : Nat) (ls1 : Array Slot), Jn D z z2 cJ a a2 o s H1 locs1 → c1 ≤ cells + 11 → s1 ≤ slots + 94 → lv_has ls1 9 [(0, .ref b), (1, .ref (a 0)), (2, .ref (a2 0)), (3, .ref o), (4, .int (nI r))] → W p l e room_1 s m #[.ref b] below meth c H1 locs1 c1 s1 Q (F0 m 1948 ls1 [])) : W p l e room_1 s m #[.ref b] below meth c H locs cells slots Q (F0 m 392 ls []) := by
  obtain ⟨hC, hst, ⟨hX, hbl, hL⟩, ⟨hK, hK2, hJ⟩, hT, hN, hE⟩ := X
  have hx := hC.1
  have hb := hC.2.1
  have hA : ∀ q : Nat, s.heap.size ≤ q → nw s q := fun q h => h
  have hbA : ¬ nw s b := Nat.not_le.mpr hbl
  have hn := hI.1.1
  have hw := hI.1.2.1
  have hk := hI.1.2.2
  obtain ⟨x, hx1⟩ : ∃ x : Int32, xs (r + 1) = x := ⟨_, rfl⟩
  obtain ⟨y, hx2⟩ : ∃ y : Int32, xs (r + 2) = y := ⟨_, rfl⟩
  by_cases hp : sp_isP n x = 0
  · refine lv_aload_n hx hb dL_law_392 rfl (lv_at hl 1 rfl) ?_
    refine lv_aload_n hx hb dL_law_393 rfl (lv_at hl 0 rfl) ?_
    refine lv_iload hx hb dL_law_394 (lv_at hl 4 rfl) ?_
    refine lv_iconst (v := 1) hx hb dL_law_396 (by decide) ?_
    refine lv_iadd hx hb dL_law_397 ?_
    refine w_sld hx hb hX hbl hbA hS hL (r + 1) (nI_1 r) (by omega) hx1 dL_law_398 ?_
    refine lv_aload_n hx hb dL_law_399 rfl (lv_at hl 3 rfl) ?_
    have hPO := wj_Pl hP
    have hDO := wj_Dl hD
    have hF := wj_Fl hD hS hA
    refine va_calli (vx_runSW (As := [.ref (a 0), .int x, .ref o]) (rest := []) hC (w_buyFate_a l hst H.size x hp) (vx_cwSW 3 hC.2.2.2.2 (gi_S mM_L_117 mT_L_buyFate mI_MissRegistryLaw mC_L_buyFate) rfl rfl rfl (by decide +kernel) ⟨Nat.le_of_ble_eq_true rfl, Nat.le_of_ble_eq_true rfl⟩) ⟨fun a1 U g mk q => ⟨q.1, q.2.1, q.2.2.1, va_K.moved (u := U) (U := U.calling g mk a1) (Vm.Alike.refl U.vm) q.2.2.2.1, va_K.moved (u := U) (U := U.calling g mk a1) (Vm.Alike.refl U.vm) q.2.2.2.2.1, ⟨q.2.2.2.2.2.1, tH.same (u := U) (U := U.calling g mk a1) rfl q.2.2.2.2.2.2.1, tN.moved (u := U) (U := U.calling g mk a1) (Vm.Alike.refl U.vm) q.2.2.2.2.2.2.2⟩⟩, fun U hU hW => ⟨rfl, by rw [hU], by rw [hU]; exact hPO, va_K.moved hW.alike hK, va_K.moved hW.alike hJ, hDO.weaken (fun _ _ _ _ => trivial), by rw [hU]; exact (hT.at hS).warm hW, hN.moved hW.alike⟩⟩ rfl rfl hl.1 rfl (lv_room (Nat.le_of_ble_eq_true rfl)) dL_law_400 ⟨(show _ ≤ 601024 by omega), (show _ ≤ 7293034 by omega)⟩) hS (fun q _ h => hF q h) hF (fun r9 u9 t H locs ht hvm hw9 hB hz9 hk9 hS9 => ?_)
    obtain ⟨hP1, hD1⟩ := hB
    rw [ht] at hP1
    obtain ⟨hP, hD⟩ := wj_l hP hD hk9 hF hP1 hD1
    rw [show r9 = 1 from hw9]
    have hP : va_P D vwCl (oW o cJ g (xW z a lv lk pu fa he n nv du ta w mp mi k nt fu re) ++ mW z2 a2 th n w gn lk pu fa he nv of mp mi k nt fu re) H := hP
    have hD : va_D (nw s) (oW o cJ g (xW z a lv lk pu fa he n nv du ta w mp mi k nt fu re) ++ mW z2 a2 th n w gn lk pu fa he nv of mp mi k nt fu re) := hD
    have hS := hS9
    refine lv_istore (lv' := [(5, .int 1), (0, .ref b), (1, .ref (a 0)), (2, .ref (a2 0)), (3, .ref o), (4, .int (nI r))]) hx hb dL_law_403 hl (by decide) rfl (fun ls hl => ?_)
    refine lv_aload_n hx hb dL_law_405 rfl (lv_at hl 3 rfl) ?_
    refine lv_aload_n hx hb dL_law_406 rfl (lv_at hl 1 rfl) ?_
    refine lv_iload hx hb dL_law_407 (lv_at hl 5 rfl) ?_
    refine lv_iconst (v := 1) hx hb dL_law_409 (by decide) ?_
    refine lv_iadd hx hb dL_law_410 ?_
    refine w_sld hx hb hX hbl hbA hS hL (r + 1) (nI_1 r) (by omega) hx1 dL_law_411 ?_
    have hPM := wj_Pr hP
    have hDM := wj_Dr hD
    have hF := wj_Fr hD hS hA
    refine va_calli (va_runV (As := [.int x]) (rest := []) hC (c_X1_buyFate_a l H.size x hn hp) (cwV 1 hC.2.2.2.2 (gi_V mM_L_119 mV_X1_buyFate mS_X1_buyFate mI_MissRegistryModel mC_X1_buyFate) rfl rfl rfl (by decide +kernel) ⟨Nat.le_of_ble_eq_true rfl, Nat.le_of_ble_eq_true rfl⟩) ⟨fun a1 U g mk q => ⟨q.1, q.2.1, ⟨q.2.2.1.1, va_K.moved (u := U) (U := U.calling g mk a1) (Vm.Alike.refl U.vm) q.2.2.1.2⟩, q.2.2.2⟩, va_recv hK2 hPM (ci := 1) (q0 := 0) rfl rfl, fun U hU hW => ⟨rfl, by rw [hU], ⟨by rw [hU]; exact hPM, va_K.moved hW.alike hK2⟩, hDM.weaken (fun _ _ _ _ => trivial)⟩⟩ rfl rfl hl.1 rfl (lv_room (Nat.le_of_ble_eq_true rfl)) dL_law_412 ⟨(show _ ≤ 601024 by omega), (show _ ≤ 7293034 by omega)⟩) hS (fun q _ h => hF q h) hF (fun r7 u7 t H locs ht hvm hw7 hB hz9 hk9 hS9 => ?_)
    obtain ⟨hP1, hK1, hD1⟩ := hB
    rw [ht] at hP1
    obtain ⟨hP, hD⟩ := wj_r hP hD hk9 hF hP1 hD1
    have hP : va_P D vwCl (oW o cJ g (xW z a lv lk pu fa he n nv du ta w mp mi k nt fu re) ++ mW z2 a2 1 n w gn lk pu fa he nv of mp mi k nt fu re) H := hP
    have hD : va_D (nw s) (oW o cJ g (xW z a lv lk pu fa he n nv du ta w mp mi k nt fu re) ++ mW z2 a2 1 n w gn lk pu fa he nv of mp mi k nt fu re) := hD
    have hS := hS9
    rw [show r7 = 0 from hw7]
    refine lv_istore (lv' := [(6, .int 0), (5, .int 1), (0, .ref b), (1, .ref (a 0)), (2, .ref (a2 0)), (3, .ref o), (4, .int (nI r))]) hx hb dL_law_415 hl (by decide) rfl (fun ls hl => ?_)
    refine lv_aload_n hx hb dL_law_417 rfl (lv_at hl 4 rfl) ?_
    refine vp_callSi (W.runV (As := []) (rest := []) hC (c_X1_thrown l) (cwV 0 hC.2.2.2.2 (gi_V mM_L_106 mV_X1_thrown mS_X1_thrown mI_MissRegistryModel mC_X1_thrown) rfl rfl rfl (by decide +kernel) ⟨Nat.le_of_ble_eq_true rfl, Nat.le_of_ble_eq_true rfl⟩) (mpre hK2 (wj_Pr hP)) rfl rfl hl.1 rfl (lv_room (Nat.le_of_ble_eq_true rfl)) dL_law_418 ⟨(show _ ≤ 601024 by omega), (show _ ≤ 7293034 by omega)⟩) (fun r8 hr8 => ?_)
    rw [show r8 = 1 from hr8]
    refine lv_iload hx hb dL_law_421 (lv_at hl 1 rfl) ?_
    refine lv_icmp_eq (tgt := 428) hx hb dL_law_423 (by decide) (fun c_423 => ?_) (fun c_423 => ?_)
    · refine lv_iload hx hb dL_law_428 (lv_at hl 1 rfl) ?_
      refine lv_if_ne (tgt := 445) hx hb dL_law_430 (by decide) (fun c_430 => ?_) (fun c_430 => ?_)
      · refine lv_goto (tgt := 1948) hx hb dL_law_445 (by decide) ?_
        exact kk _ _ _ _ _ ⟨lv, lk, pu, fa, he, n, nv, du, ta, w, mp, mi, k, nt, fu, re, gn, of, 1, g, hI, hP, hD, hS⟩ (by omega) (by omega) (lv_sub hl [2, 3, 4, 5, 6] rfl)
      · exact absurd c_430 (by decide)
    · exact absurd rfl c_423
  · obtain ⟨i, hi, exi⟩ := isP_ex (by omega) hp
    subst exi
    have hg := hI.2.1.1.iff i hi
    by_cases ha : lv i = 0
    · refine lv_aload_n hx hb dL_law_392 rfl (lv_at hl 1 rfl) ?_
      refine lv_aload_n hx hb dL_law_393 rfl (lv_at hl 0 rfl) ?_
      refine lv_iload hx hb dL_law_394 (lv_at hl 4 rfl) ?_
      refine lv_iconst (v := 1) hx hb dL_law_396 (by decide) ?_
      refine lv_iadd hx hb dL_law_397 ?_
      refine w_sld hx hb hX hbl hbA hS hL (r + 1) (nI_1 r) (by omega) hx1 dL_law_398 ?_
      refine lv_aload_n hx hb dL_law_399 rfl (lv_at hl 3 rfl) ?_
      have hPO := wj_Pl hP
      have hDO := wj_Dl hD
      have hF := wj_Fl hD hS hA
      refine va_calli (vx_runSW (As := [.ref (a 0), .int (nI i), .ref o]) (rest := []) hC (w_buyFate_b l hst H.size i hi hn ha) (vx_cwSW 3 hC.2.2.2.2 (gi_S mM_L_117 mT_L_buyFate mI_MissRegistryLaw mC_L_buyFate) rfl rfl rfl (by decide +kernel) ⟨Nat.le_of_ble_eq_true rfl, Nat.le_of_ble_eq_true rfl⟩) ⟨fun a1 U g mk q => ⟨q.1, q.2.1, q.2.2.1, va_K.moved (u := U) (U := U.calling g mk a1) (Vm.Alike.refl U.vm) q.2.2.2.1, va_K.moved (u := U) (U := U.calling g mk a1) (Vm.Alike.refl U.vm) q.2.2.2.2.1, ⟨q.2.2.2.2.2.1, tH.same (u := U) (U := U.calling g mk a1) rfl q.2.2.2.2.2.2.1, tN.moved (u := U) (U := U.calling g mk a1) (Vm.Alike.refl U.vm) q.2.2.2.2.2.2.2⟩⟩, fun U hU hW => ⟨rfl, by rw [hU], by rw [hU]; exact hPO, va_K.moved hW.alike hK, va_K.moved hW.alike hJ, hDO.weaken (fun _ _ _ _ => trivial), by rw [hU]; exact (hT.at hS).warm hW, hN.moved hW.alike⟩⟩ rfl rfl hl.1 rfl (lv_room (Nat.le_of_ble_eq_true rfl)) dL_law_400 ⟨(show _ ≤ 601024 by omega), (show _ ≤ 7293034 by omega)⟩) hS (fun q _ h => hF q h) hF (fun r9 u9 t H locs ht hvm hw9 hB hz9 hk9 hS9 => ?_)
      obtain ⟨hP1, hD1⟩ := hB
      rw [ht] at hP1
      obtain ⟨hP, hD⟩ := wj_l hP hD hk9 hF hP1 hD1
      rw [show r9 = 2 from hw9]
      have hP : va_P D vwCl (oW o cJ g (xW z a lv lk pu fa he n nv du ta w mp mi k nt fu re) ++ mW z2 a2 th n w gn lk pu fa he nv of mp mi k nt fu re) H := hP
      have hD : va_D (nw s) (oW o cJ g (xW z a lv lk pu fa he n nv du ta w mp mi k nt fu re) ++ mW z2 a2 th n w gn lk pu fa he nv of mp mi k nt fu re) := hD
      have hS := hS9
      refine lv_istore (lv' := [(5, .int 2), (0, .ref b), (1, .ref (a 0)), (2, .ref (a2 0)), (3, .ref o), (4, .int (nI r))]) hx hb dL_law_403 hl (by decide) rfl (fun ls hl => ?_)
      refine lv_aload_n hx hb dL_law_405 rfl (lv_at hl 3 rfl) ?_
      refine lv_aload_n hx hb dL_law_406 rfl (lv_at hl 1 rfl) ?_
      refine lv_iload hx hb dL_law_407 (lv_at hl 5 rfl) ?_
      refine lv_iconst (v := 1) hx hb dL_law_409 (by decide) ?_
      refine lv_iadd hx hb dL_law_410 ?_
      refine w_sld hx hb hX hbl hbA hS hL (r + 1) (nI_1 r) (by omega) hx1 dL_law_411 ?_
      have hPM := wj_Pr hP
      have hDM := wj_Dr hD
      have hF := wj_Fr hD hS hA
      refine va_calli (va_runV (As := [.int (nI i)]) (rest := []) hC (c_X1_buyFate_b l H.size i hi hn (fun q => hg.mp q ha)) (cwV 1 hC.2.2.2.2 (gi_V mM_L_119 mV_X1_buyFate mS_X1_buyFate mI_MissRegistryModel mC_X1_buyFate) rfl rfl rfl (by decide +kernel) ⟨Nat.le_of_ble_eq_true rfl, Nat.le_of_ble_eq_true rfl⟩) ⟨fun a1 U g mk q => ⟨q.1, q.2.1, ⟨q.2.2.1.1, va_K.moved (u := U) (U := U.calling g mk a1) (Vm.Alike.refl U.vm) q.2.2.1.2⟩, q.2.2.2⟩, va_recv hK2 hPM (ci := 1) (q0 := 0) rfl rfl, fun U hU hW => ⟨rfl, by rw [hU], ⟨by rw [hU]; exact hPM, va_K.moved hW.alike hK2⟩, hDM.weaken (fun _ _ _ _ => trivial)⟩⟩ rfl rfl hl.1 rfl (lv_room (Nat.le_of_ble_eq_true rfl)) dL_law_412 ⟨(show _ ≤ 601024 by omega), (show _ ≤ 7293034 by omega)⟩) hS (fun q _ h => hF q h) hF (fun r7 u7 t H locs ht hvm hw7 hB hz9 hk9 hS9 => ?_)
      obtain ⟨hP1, hK1, hD1⟩ := hB
      rw [ht] at hP1
      obtain ⟨hP, hD⟩ := wj_r hP hD hk9 hF hP1 hD1
      have hP : va_P D vwCl (oW o cJ g (xW z a lv lk pu fa he n nv du ta w mp mi k nt fu re) ++ mW z2 a2 2 n w gn lk pu fa he nv of mp mi k nt fu re) H := hP
      have hD : va_D (nw s) (oW o cJ g (xW z a lv lk pu fa he n nv du ta w mp mi k nt fu re) ++ mW z2 a2 2 n w gn lk pu fa he nv of mp mi k nt fu re) := hD
      have hS := hS9
      rw [show r7 = 0 from hw7]
      refine lv_istore (lv' := [(6, .int 0), (5, .int 2), (0, .ref b), (1, .ref (a 0)), (2, .ref (a2 0)), (3, .ref o), (4, .int (nI r))]) hx hb dL_law_415 hl (by decide) rfl (fun ls hl => ?_)
      refine lv_aload_n hx hb dL_law_417 rfl (lv_at hl 4 rfl) ?_
      refine vp_callSi (W.runV (As := []) (rest := []) hC (c_X1_thrown l) (cwV 0 hC.2.2.2.2 (gi_V mM_L_106 mV_X1_thrown mS_X1_thrown mI_MissRegistryModel mC_X1_thrown) rfl rfl rfl (by decide +kernel) ⟨Nat.le_of_ble_eq_true rfl, Nat.le_of_ble_eq_true rfl⟩) (mpre hK2 (wj_Pr hP)) rfl rfl hl.1 rfl (lv_room (Nat.le_of_ble_eq_true rfl)) dL_law_418 ⟨(show _ ≤ 601024 by omega), (show _ ≤ 7293034 by omega)⟩) (fun r8 hr8 => ?_)
      rw [show r8 = 2 from hr8]
      refine lv_iload hx hb dL_law_421 (lv_at hl 1 rfl) ?_
      refine lv_icmp_eq (tgt := 428) hx hb dL_law_423 (by decide) (fun c_423 => ?_) (fun c_423 => ?_)
      · refine lv_iload hx hb dL_law_428 (lv_at hl 1 rfl) ?_
        refine lv_if_ne (tgt := 445) hx hb dL_law_430 (by decide) (fun c_430 => ?_) (fun c_430 => ?_)
        · refine lv_goto (tgt := 1948) hx hb dL_law_445 (by decide) ?_
          exact kk _ _ _ _ _ ⟨lv, lk, pu, fa, he, n, nv, du, ta, w, mp, mi, k, nt, fu, re, gn, of, 2, g, hI, hP, hD, hS⟩ (by omega) (by omega) (lv_sub hl [2, 3, 4, 5, 6] rfl)
        · exact absurd c_430 (by decide)
      · exact absurd rfl c_423
    · by_cases hf : fa i < 9
      · by_cases hpr : sp_price (lk i) ≤ pu i
        · refine lv_aload_n hx hb dL_law_392 rfl (lv_at hl 1 rfl) ?_
          refine lv_aload_n hx hb dL_law_393 rfl (lv_at hl 0 rfl) ?_
          refine lv_iload hx hb dL_law_394 (lv_at hl 4 rfl) ?_
          refine lv_iconst (v := 1) hx hb dL_law_396 (by decide) ?_
          refine lv_iadd hx hb dL_law_397 ?_
          refine w_sld hx hb hX hbl hbA hS hL (r + 1) (nI_1 r) (by omega) hx1 dL_law_398 ?_
          refine lv_aload_n hx hb dL_law_399 rfl (lv_at hl 3 rfl) ?_
          have hPO := wj_Pl hP
          have hDO := wj_Dl hD
          have hF := wj_Fl hD hS hA
          refine va_calli (vx_runSW (As := [.ref (a 0), .int (nI i), .ref o]) (rest := []) hC (w_buyFate l H.size i hi hn ha hf hpr) (vx_cwSW 3 hC.2.2.2.2 (gi_S mM_L_117 mT_L_buyFate mI_MissRegistryLaw mC_L_buyFate) rfl rfl rfl (by decide +kernel) ⟨Nat.le_of_ble_eq_true rfl, Nat.le_of_ble_eq_true rfl⟩) ⟨fun a1 U g mk q => ⟨q.1, q.2.1, q.2.2.1, va_K.moved (u := U) (U := U.calling g mk a1) (Vm.Alike.refl U.vm) q.2.2.2.1, va_K.moved (u := U) (U := U.calling g mk a1) (Vm.Alike.refl U.vm) q.2.2.2.2.1, q.2.2.2.2.2⟩, fun U hU hW => ⟨rfl, by rw [hU], by rw [hU]; exact hPO, va_K.moved hW.alike hK, va_K.moved hW.alike hJ, hDO.weaken (fun _ _ _ _ => trivial)⟩⟩ rfl rfl hl.1 rfl (lv_room (Nat.le_of_ble_eq_true rfl)) dL_law_400 ⟨(show _ ≤ 601024 by omega), (show _ ≤ 7293034 by omega)⟩) hS (fun q _ h => hF q h) hF (fun r9 u9 t H locs ht hvm hw9 hB hz9 hk9 hS9 => ?_)
          obtain ⟨hP1, hD1⟩ := hB
          rw [ht] at hP1
          obtain ⟨hP, hD⟩ := wj_l hP hD hk9 hF hP1 hD1
          obtain ⟨hr9, hu9⟩ := hw9
          rw [hr9]
          have hP : va_P D vwCl (oW o cJ u9 (xW z a lv lk (upd pu i (pu i - sp_price (lk i))) (upd fa i (fa i + 1)) he n nv du ta w mp mi k nt (fu + sp_price (lk i)) re) ++ mW z2 a2 th n w gn lk pu fa he nv of mp mi k nt fu re) H := hP
          have hD : va_D (nw s) (oW o cJ u9 (xW z a lv lk (upd pu i (pu i - sp_price (lk i))) (upd fa i (fa i + 1)) he n nv du ta w mp mi k nt (fu + sp_price (lk i)) re) ++ mW z2 a2 th n w gn lk pu fa he nv of mp mi k nt fu re) := hD
          have hS := hS9
          refine lv_istore (lv' := [(5, .int 0), (0, .ref b), (1, .ref (a 0)), (2, .ref (a2 0)), (3, .ref o), (4, .int (nI r))]) hx hb dL_law_403 hl (by decide) rfl (fun ls hl => ?_)
          refine lv_aload_n hx hb dL_law_405 rfl (lv_at hl 3 rfl) ?_
          refine lv_aload_n hx hb dL_law_406 rfl (lv_at hl 1 rfl) ?_
          refine lv_iload hx hb dL_law_407 (lv_at hl 5 rfl) ?_
          refine lv_iconst (v := 1) hx hb dL_law_409 (by decide) ?_
          refine lv_iadd hx hb dL_law_410 ?_
          refine w_sld hx hb hX hbl hbA hS hL (r + 1) (nI_1 r) (by omega) hx1 dL_law_411 ?_
          have hPM := wj_Pr hP
          have hDM := wj_Dr hD
          have hF := wj_Fr hD hS hA
          refine va_calli (va_runV (As := [.int (nI i)]) (rest := []) hC (c_X1_buyFate l H.size i hi hn (hg.mpr ha) (fa_l hf) hpr) (cwV 1 hC.2.2.2.2 (gi_V mM_L_119 mV_X1_buyFate mS_X1_buyFate mI_MissRegistryModel mC_X1_buyFate) rfl rfl rfl (by decide +kernel) ⟨Nat.le_of_ble_eq_true rfl, Nat.le_of_ble_eq_true rfl⟩) ⟨fun a1 U g mk q => ⟨q.1, q.2.1, ⟨q.2.2.1.1, va_K.moved (u := U) (U := U.calling g mk a1) (Vm.Alike.refl U.vm) q.2.2.1.2⟩, q.2.2.2⟩, va_recv hK2 hPM (ci := 1) (q0 := 0) rfl rfl, fun U hU hW => ⟨rfl, by rw [hU], ⟨by rw [hU]; exact hPM, va_K.moved hW.alike hK2⟩, hDM.weaken (fun _ _ _ _ => trivial)⟩⟩ rfl rfl hl.1 rfl (lv_room (Nat.le_of_ble_eq_true rfl)) dL_law_412 ⟨(show _ ≤ 601024 by omega), (show _ ≤ 7293034 by omega)⟩) hS (fun q _ h => hF q h) hF (fun r7 u7 t H locs ht hvm hw7 hB hz9 hk9 hS9 => ?_)
          obtain ⟨hP1, hK1, hD1⟩ := hB
          rw [ht] at hP1
          obtain ⟨hP, hD⟩ := wj_r hP hD hk9 hF hP1 hD1
          have hP : va_P D vwCl (oW o cJ u9 (xW z a lv lk (upd pu i (pu i - sp_price (lk i))) (upd fa i (fa i + 1)) he n nv du ta w mp mi k nt (fu + sp_price (lk i)) re) ++ mW z2 a2 0 n w gn lk (upd pu i (pu i - sp_price (lk i))) (upd fa i (fa i + 1)) he nv of mp mi k nt (fu + sp_price (lk i)) re) H := hP
          have hD : va_D (nw s) (oW o cJ u9 (xW z a lv lk (upd pu i (pu i - sp_price (lk i))) (upd fa i (fa i + 1)) he n nv du ta w mp mi k nt (fu + sp_price (lk i)) re) ++ mW z2 a2 0 n w gn lk (upd pu i (pu i - sp_price (lk i))) (upd fa i (fa i + 1)) he nv of mp mi k nt (fu + sp_price (lk i)) re) := hD
          have hS := hS9
          rw [show r7 = sp_price (lk i) from hw7]
          refine lv_istore (lv' := [(6, .int (sp_price (lk i))), (5, .int 0), (0, .ref b), (1, .ref (a 0)), (2, .ref (a2 0)), (3, .ref o), (4, .int (nI r))]) hx hb dL_law_415 hl (by decide) rfl (fun ls hl => ?_)
          refine lv_aload_n hx hb dL_law_417 rfl (lv_at hl 4 rfl) ?_
          refine vp_callSi (W.runV (As := []) (rest := []) hC (c_X1_thrown l) (cwV 0 hC.2.2.2.2 (gi_V mM_L_106 mV_X1_thrown mS_X1_thrown mI_MissRegistryModel mC_X1_thrown) rfl rfl rfl (by decide +kernel) ⟨Nat.le_of_ble_eq_true rfl, Nat.le_of_ble_eq_true rfl⟩) (mpre hK2 (wj_Pr hP)) rfl rfl hl.1 rfl (lv_room (Nat.le_of_ble_eq_true rfl)) dL_law_418 ⟨(show _ ≤ 601024 by omega), (show _ ≤ 7293034 by omega)⟩) (fun r8 hr8 => ?_)
          rw [show r8 = 0 from hr8]
          refine lv_iload hx hb dL_law_421 (lv_at hl 1 rfl) ?_
          refine lv_icmp_eq (tgt := 428) hx hb dL_law_423 (by decide) (fun c_423 => ?_) (fun c_423 => ?_)
          · refine lv_iload hx hb dL_law_428 (lv_at hl 1 rfl) ?_
            refine lv_if_ne (tgt := 445) hx hb dL_law_430 (by decide) (fun c_430 => ?_) (fun c_430 => ?_)
            · exact absurd rfl c_430
            · refine lv_aload_n hx hb dL_law_433 rfl (lv_at hl 5 rfl) ?_
              refine lv_iconst (v := 0) hx hb dL_law_434 (by decide) ?_
              refine w_lald hC hJ (wj_Pl hP) dL_law_435 ?_
              refine lv_iload hx hb dL_law_436 (lv_at hl 0 rfl) ?_
              refine lv_i2l hx hb dL_law_438 rfl ?_
              refine w_lcmp hx hb dL_law_439 hu9 ?_
              refine lv_if_eq (tgt := 445) hx hb dL_law_440 (by decide) (fun c_440 => ?_) (fun c_440 => ?_)
              · refine lv_goto (tgt := 1948) hx hb dL_law_445 (by decide) ?_
                exact kk _ _ _ _ _ ⟨lv, lk, (upd pu i (pu i - sp_price (lk i))), (upd fa i (fa i + 1)), he, n, nv, du, ta, w, mp, mi, k, nt, (fu + sp_price (lk i)), re, gn, of, 0, u9, (iv_buyFate hI hi hf), hP, hD, hS⟩ (by omega) (by omega) (lv_sub hl [2, 3, 4, 5, 6] rfl)
              · exact absurd rfl c_440
          · exact absurd rfl c_423
        · refine lv_aload_n hx hb dL_law_392 rfl (lv_at hl 1 rfl) ?_
          refine lv_aload_n hx hb dL_law_393 rfl (lv_at hl 0 rfl) ?_
          refine lv_iload hx hb dL_law_394 (lv_at hl 4 rfl) ?_
          refine lv_iconst (v := 1) hx hb dL_law_396 (by decide) ?_
          refine lv_iadd hx hb dL_law_397 ?_
          refine w_sld hx hb hX hbl hbA hS hL (r + 1) (nI_1 r) (by omega) hx1 dL_law_398 ?_
          refine lv_aload_n hx hb dL_law_399 rfl (lv_at hl 3 rfl) ?_
          have hPO := wj_Pl hP
          have hDO := wj_Dl hD
          have hF := wj_Fl hD hS hA
          refine va_calli (vx_runSW (As := [.ref (a 0), .int (nI i), .ref o]) (rest := []) hC (w_buyFate_d l hst H.size i hi hn ha hf hpr) (vx_cwSW 3 hC.2.2.2.2 (gi_S mM_L_117 mT_L_buyFate mI_MissRegistryLaw mC_L_buyFate) rfl rfl rfl (by decide +kernel) ⟨Nat.le_of_ble_eq_true rfl, Nat.le_of_ble_eq_true rfl⟩) ⟨fun a1 U g mk q => ⟨q.1, q.2.1, q.2.2.1, va_K.moved (u := U) (U := U.calling g mk a1) (Vm.Alike.refl U.vm) q.2.2.2.1, va_K.moved (u := U) (U := U.calling g mk a1) (Vm.Alike.refl U.vm) q.2.2.2.2.1, ⟨q.2.2.2.2.2.1, tH.same (u := U) (U := U.calling g mk a1) rfl q.2.2.2.2.2.2.1, tN.moved (u := U) (U := U.calling g mk a1) (Vm.Alike.refl U.vm) q.2.2.2.2.2.2.2⟩⟩, fun U hU hW => ⟨rfl, by rw [hU], by rw [hU]; exact hPO, va_K.moved hW.alike hK, va_K.moved hW.alike hJ, hDO.weaken (fun _ _ _ _ => trivial), by rw [hU]; exact (hT.at hS).warm hW, hN.moved hW.alike⟩⟩ rfl rfl hl.1 rfl (lv_room (Nat.le_of_ble_eq_true rfl)) dL_law_400 ⟨(show _ ≤ 601024 by omega), (show _ ≤ 7293034 by omega)⟩) hS (fun q _ h => hF q h) hF (fun r9 u9 t H locs ht hvm hw9 hB hz9 hk9 hS9 => ?_)
          obtain ⟨hP1, hD1⟩ := hB
          rw [ht] at hP1
          obtain ⟨hP, hD⟩ := wj_l hP hD hk9 hF hP1 hD1
          rw [show r9 = 2 from hw9]
          have hP : va_P D vwCl (oW o cJ g (xW z a lv lk pu fa he n nv du ta w mp mi k nt fu re) ++ mW z2 a2 th n w gn lk pu fa he nv of mp mi k nt fu re) H := hP
          have hD : va_D (nw s) (oW o cJ g (xW z a lv lk pu fa he n nv du ta w mp mi k nt fu re) ++ mW z2 a2 th n w gn lk pu fa he nv of mp mi k nt fu re) := hD
          have hS := hS9
          refine lv_istore (lv' := [(5, .int 2), (0, .ref b), (1, .ref (a 0)), (2, .ref (a2 0)), (3, .ref o), (4, .int (nI r))]) hx hb dL_law_403 hl (by decide) rfl (fun ls hl => ?_)
          refine lv_aload_n hx hb dL_law_405 rfl (lv_at hl 3 rfl) ?_
          refine lv_aload_n hx hb dL_law_406 rfl (lv_at hl 1 rfl) ?_
          refine lv_iload hx hb dL_law_407 (lv_at hl 5 rfl) ?_
          refine lv_iconst (v := 1) hx hb dL_law_409 (by decide) ?_
          refine lv_iadd hx hb dL_law_410 ?_
          refine w_sld hx hb hX hbl hbA hS hL (r + 1) (nI_1 r) (by omega) hx1 dL_law_411 ?_
          have hPM := wj_Pr hP
          have hDM := wj_Dr hD
          have hF := wj_Fr hD hS hA
          refine va_calli (va_runV (As := [.int (nI i)]) (rest := []) hC (c_X1_buyFate_d l H.size i hi hn (hg.mpr ha) (fa_l hf) hpr) (cwV 1 hC.2.2.2.2 (gi_V mM_L_119 mV_X1_buyFate mS_X1_buyFate mI_MissRegistryModel mC_X1_buyFate) rfl rfl rfl (by decide +kernel) ⟨Nat.le_of_ble_eq_true rfl, Nat.le_of_ble_eq_true rfl⟩) ⟨fun a1 U g mk q => ⟨q.1, q.2.1, ⟨q.2.2.1.1, va_K.moved (u := U) (U := U.calling g mk a1) (Vm.Alike.refl U.vm) q.2.2.1.2⟩, q.2.2.2⟩, va_recv hK2 hPM (ci := 1) (q0 := 0) rfl rfl, fun U hU hW => ⟨rfl, by rw [hU], ⟨by rw [hU]; exact hPM, va_K.moved hW.alike hK2⟩, hDM.weaken (fun _ _ _ _ => trivial)⟩⟩ rfl rfl hl.1 rfl (lv_room (Nat.le_of_ble_eq_true rfl)) dL_law_412 ⟨(show _ ≤ 601024 by omega), (show _ ≤ 7293034 by omega)⟩) hS (fun q _ h => hF q h) hF (fun r7 u7 t H locs ht hvm hw7 hB hz9 hk9 hS9 => ?_)
          obtain ⟨hP1, hK1, hD1⟩ := hB
          rw [ht] at hP1
          obtain ⟨hP, hD⟩ := wj_r hP hD hk9 hF hP1 hD1
          have hP : va_P D vwCl (oW o cJ g (xW z a lv lk pu fa he n nv du ta w mp mi k nt fu re) ++ mW z2 a2 2 n w gn lk pu fa he nv of mp mi k nt fu re) H := hP
          have hD : va_D (nw s) (oW o cJ g (xW z a lv lk pu fa he n nv du ta w mp mi k nt fu re) ++ mW z2 a2 2 n w gn lk pu fa he nv of mp mi k nt fu re) := hD
          have hS := hS9
          rw [show r7 = 0 from hw7]
          refine lv_istore (lv' := [(6, .int 0), (5, .int 2), (0, .ref b), (1, .ref (a 0)), (2, .ref (a2 0)), (3, .ref o), (4, .int (nI r))]) hx hb dL_law_415 hl (by decide) rfl (fun ls hl => ?_)
          refine lv_aload_n hx hb dL_law_417 rfl (lv_at hl 4 rfl) ?_
          refine vp_callSi (W.runV (As := []) (rest := []) hC (c_X1_thrown l) (cwV 0 hC.2.2.2.2 (gi_V mM_L_106 mV_X1_thrown mS_X1_thrown mI_MissRegistryModel mC_X1_thrown) rfl rfl rfl (by decide +kernel) ⟨Nat.le_of_ble_eq_true rfl, Nat.le_of_ble_eq_true rfl⟩) (mpre hK2 (wj_Pr hP)) rfl rfl hl.1 rfl (lv_room (Nat.le_of_ble_eq_true rfl)) dL_law_418 ⟨(show _ ≤ 601024 by omega), (show _ ≤ 7293034 by omega)⟩) (fun r8 hr8 => ?_)
          rw [show r8 = 2 from hr8]
          refine lv_iload hx hb dL_law_421 (lv_at hl 1 rfl) ?_
          refine lv_icmp_eq (tgt := 428) hx hb dL_law_423 (by decide) (fun c_423 => ?_) (fun c_423 => ?_)
          · refine lv_iload hx hb dL_law_428 (lv_at hl 1 rfl) ?_
            refine lv_if_ne (tgt := 445) hx hb dL_law_430 (by decide) (fun c_430 => ?_) (fun c_430 => ?_)
            · refine lv_goto (tgt := 1948) hx hb dL_law_445 (by decide) ?_
              exact kk _ _ _ _ _ ⟨lv, lk, pu, fa, he, n, nv, du, ta, w, mp, mi, k, nt, fu, re, gn, of, 2, g, hI, hP, hD, hS⟩ (by omega) (by omega) (lv_sub hl [2, 3, 4, 5, 6] rfl)
            · exact absurd c_430 (by decide)
          · exact absurd rfl c_423
      · refine lv_aload_n hx hb dL_law_392 rfl (lv_at hl 1 rfl) ?_
        refine lv_aload_n hx hb dL_law_393 rfl (lv_at hl 0 rfl) ?_
        refine lv_iload hx hb dL_law_394 (lv_at hl 4 rfl) ?_
        refine lv_iconst (v := 1) hx hb dL_law_396 (by decide) ?_
        refine lv_iadd hx hb dL_law_397 ?_
        refine w_sld hx hb hX hbl hbA hS hL (r + 1) (nI_1 r) (by omega) hx1 dL_law_398 ?_
        refine lv_aload_n hx hb dL_law_399 rfl (lv_at hl 3 rfl) ?_
        have hPO := wj_Pl hP
        have hDO := wj_Dl hD
        have hF := wj_Fl hD hS hA
        refine va_calli (vx_runSW (As := [.ref (a 0), .int (nI i), .ref o]) (rest := []) hC (w_buyFate_c l hst H.size i hi hn ha hf) (vx_cwSW 3 hC.2.2.2.2 (gi_S mM_L_117 mT_L_buyFate mI_MissRegistryLaw mC_L_buyFate) rfl rfl rfl (by decide +kernel) ⟨Nat.le_of_ble_eq_true rfl, Nat.le_of_ble_eq_true rfl⟩) ⟨fun a1 U g mk q => ⟨q.1, q.2.1, q.2.2.1, va_K.moved (u := U) (U := U.calling g mk a1) (Vm.Alike.refl U.vm) q.2.2.2.1, va_K.moved (u := U) (U := U.calling g mk a1) (Vm.Alike.refl U.vm) q.2.2.2.2.1, ⟨q.2.2.2.2.2.1, tH.same (u := U) (U := U.calling g mk a1) rfl q.2.2.2.2.2.2.1, tN.moved (u := U) (U := U.calling g mk a1) (Vm.Alike.refl U.vm) q.2.2.2.2.2.2.2⟩⟩, fun U hU hW => ⟨rfl, by rw [hU], by rw [hU]; exact hPO, va_K.moved hW.alike hK, va_K.moved hW.alike hJ, hDO.weaken (fun _ _ _ _ => trivial), by rw [hU]; exact (hT.at hS).warm hW, hN.moved hW.alike⟩⟩ rfl rfl hl.1 rfl (lv_room (Nat.le_of_ble_eq_true rfl)) dL_law_400 ⟨(show _ ≤ 601024 by omega), (show _ ≤ 7293034 by omega)⟩) hS (fun q _ h => hF q h) hF (fun r9 u9 t H locs ht hvm hw9 hB hz9 hk9 hS9 => ?_)
        obtain ⟨hP1, hD1⟩ := hB
        rw [ht] at hP1
        obtain ⟨hP, hD⟩ := wj_l hP hD hk9 hF hP1 hD1
        rw [show r9 = 2 from hw9]
        have hP : va_P D vwCl (oW o cJ g (xW z a lv lk pu fa he n nv du ta w mp mi k nt fu re) ++ mW z2 a2 th n w gn lk pu fa he nv of mp mi k nt fu re) H := hP
        have hD : va_D (nw s) (oW o cJ g (xW z a lv lk pu fa he n nv du ta w mp mi k nt fu re) ++ mW z2 a2 th n w gn lk pu fa he nv of mp mi k nt fu re) := hD
        have hS := hS9
        refine lv_istore (lv' := [(5, .int 2), (0, .ref b), (1, .ref (a 0)), (2, .ref (a2 0)), (3, .ref o), (4, .int (nI r))]) hx hb dL_law_403 hl (by decide) rfl (fun ls hl => ?_)
        refine lv_aload_n hx hb dL_law_405 rfl (lv_at hl 3 rfl) ?_
        refine lv_aload_n hx hb dL_law_406 rfl (lv_at hl 1 rfl) ?_
        refine lv_iload hx hb dL_law_407 (lv_at hl 5 rfl) ?_
        refine lv_iconst (v := 1) hx hb dL_law_409 (by decide) ?_
        refine lv_iadd hx hb dL_law_410 ?_
        refine w_sld hx hb hX hbl hbA hS hL (r + 1) (nI_1 r) (by omega) hx1 dL_law_411 ?_
        have hPM := wj_Pr hP
        have hDM := wj_Dr hD
        have hF := wj_Fr hD hS hA
        refine va_calli (va_runV (As := [.int (nI i)]) (rest := []) hC (c_X1_buyFate_c l H.size i hi hn (hg.mpr ha) (fa_9 hI hi hf)) (cwV 1 hC.2.2.2.2 (gi_V mM_L_119 mV_X1_buyFate mS_X1_buyFate mI_MissRegistryModel mC_X1_buyFate) rfl rfl rfl (by decide +kernel) ⟨Nat.le_of_ble_eq_true rfl, Nat.le_of_ble_eq_true rfl⟩) ⟨fun a1 U g mk q => ⟨q.1, q.2.1, ⟨q.2.2.1.1, va_K.moved (u := U) (U := U.calling g mk a1) (Vm.Alike.refl U.vm) q.2.2.1.2⟩, q.2.2.2⟩, va_recv hK2 hPM (ci := 1) (q0 := 0) rfl rfl, fun U hU hW => ⟨rfl, by rw [hU], ⟨by rw [hU]; exact hPM, va_K.moved hW.alike hK2⟩, hDM.weaken (fun _ _ _ _ => trivial)⟩⟩ rfl rfl hl.1 rfl (lv_room (Nat.le_of_ble_eq_true rfl)) dL_law_412 ⟨(show _ ≤ 601024 by omega), (show _ ≤ 7293034 by omega)⟩) hS (fun q _ h => hF q h) hF (fun r7 u7 t H locs ht hvm hw7 hB hz9 hk9 hS9 => ?_)
        obtain ⟨hP1, hK1, hD1⟩ := hB
        rw [ht] at hP1
        obtain ⟨hP, hD⟩ := wj_r hP hD hk9 hF hP1 hD1
        have hP : va_P D vwCl (oW o cJ g (xW z a lv lk pu fa he n nv du ta w mp mi k nt fu re) ++ mW z2 a2 2 n w gn lk pu fa he nv of mp mi k nt fu re) H := hP
        have hD : va_D (nw s) (oW o cJ g (xW z a lv lk pu fa he n nv du ta w mp mi k nt fu re) ++ mW z2 a2 2 n w gn lk pu fa he nv of mp mi k nt fu re) := hD
        have hS := hS9
        rw [show r7 = 0 from hw7]
        refine lv_istore (lv' := [(6, .int 0), (5, .int 2), (0, .ref b), (1, .ref (a 0)), (2, .ref (a2 0)), (3, .ref o), (4, .int (nI r))]) hx hb dL_law_415 hl (by decide) rfl (fun ls hl => ?_)
        refine lv_aload_n hx hb dL_law_417 rfl (lv_at hl 4 rfl) ?_
        refine vp_callSi (W.runV (As := []) (rest := []) hC (c_X1_thrown l) (cwV 0 hC.2.2.2.2 (gi_V mM_L_106 mV_X1_thrown mS_X1_thrown mI_MissRegistryModel mC_X1_thrown) rfl rfl rfl (by decide +kernel) ⟨Nat.le_of_ble_eq_true rfl, Nat.le_of_ble_eq_true rfl⟩) (mpre hK2 (wj_Pr hP)) rfl rfl hl.1 rfl (lv_room (Nat.le_of_ble_eq_true rfl)) dL_law_418 ⟨(show _ ≤ 601024 by omega), (show _ ≤ 7293034 by omega)⟩) (fun r8 hr8 => ?_)
        rw [show r8 = 2 from hr8]
        refine lv_iload hx hb dL_law_421 (lv_at hl 1 rfl) ?_
        refine lv_icmp_eq (tgt := 428) hx hb dL_law_423 (by decide) (fun c_423 => ?_) (fun c_423 => ?_)
        · refine lv_iload hx hb dL_law_428 (lv_at hl 1 rfl) ?_
          refine lv_if_ne (tgt := 445) hx hb dL_law_430 (by decide) (fun c_430 => ?_) (fun c_430 => ?_)
          · refine lv_goto (tgt := 1948) hx hb dL_law_445 (by decide) ?_
            exact kk _ _ _ _ _ ⟨lv, lk, pu, fa, he, n, nv, du, ta, w, mp, mi, k, nt, fu, re, gn, of, 2, g, hI, hP, hD, hS⟩ (by omega) (by omega) (lv_sub hl [2, 3, 4, 5, 6] rfl)
          · exact absurd c_430 (by decide)
        · exact absurd rfl c_423
set_option maxHeartbeats 8000000 in
set_option maxRecDepth 100000 in
theorem lc_4 {p : Program} {l : Launch} {e : Env} {s : State} {m : MethodId} {below : List Frame} {meth : Method} {c : Code} {H : Heap} {locs : List Loc} {cells slots : Nat} {Q : State → Prop} {ls : Array Slot} {b L : Nat} {xs : Nat → Int32} {D : va_G} {z z2 : ClassId × ClassId} {cJ : ClassId} {q9 t9 a a2 : Nat → Nat} {o : Nat} {lv lk pu fa he : Nat → Int32} {n : Nat} {nv du ta : Nat → Int32} {w : Nat} {mp mi : Nat → Int32} {k : Nat} {nt fu re : Int32} {gn of : Nat → Int32} {th : Int32} {g : Nat → Int64} {r : Nat} (X : LX p l s m c b L xs D z z2 cJ q9 t9) (hI : IV lv lk fa he n nv du w k gn of) (hP : va_P D vwCl (oW o cJ g (xW z a lv lk pu fa he n nv du ta w mp mi k nt fu re) ++ mW z2 a2 th n w gn lk pu fa he nv of mp mi k nt fu re) H) (hD : va_D (nw s) (oW o cJ g (xW z a lv lk pu fa he n nv du ta w mp mi k nt fu re) ++ mW z2 a2 th n w gn lk pu fa he nv of mp mi k nt fu re)) (hS : va_S (nw s) s.heap H locs) (hcl : cells + 12 ≤ 601024) (hsl : slots + 100 ≤ 7293034) (hr : r + 2 < L) (hl : lv_has ls 9 [(0, .ref b), (1, .ref (a 0)), (2, .ref (a2 0)), (3, .ref o), (4, .int (nI r))]) (kk : ∀ (H1 : Heap) (locs1 : List Loc) (c1 s1 : Nat) (ls1 : Array Slot), Jn D z z2 cJ a a2 o s H1 locs1 → c1 ≤ cells + 11 → s1 ≤ slots + 94 → lv_has ls1 9 [(0, .ref b), (1, .ref (a 0)), (2, .ref (a2 0)), (3, .ref o), (4, .int (nI r))] → W p l e room_1 s m #[.ref b] below meth c H1 locs1 c1 s1 Q (F0 m 1948 ls1 [])) : W p l e room_1 s m #[.ref b] below meth c H locs cells slots Q (F0 m 448 ls []) := by
  obtain ⟨hC, hst, ⟨hX, hbl, hL⟩, ⟨hK, hK2, hJ⟩, hT, hN, hE⟩ := X
  have hx := hC.1
  have hb := hC.2.1
  have hA : ∀ q : Nat, s.heap.size ≤ q → nw s q := fun q h => h
  have hbA : ¬ nw s b := Nat.not_le.mpr hbl
  have hn := hI.1.1
  have hw := hI.1.2.1
  have hk := hI.1.2.2
  obtain ⟨x, hx1⟩ : ∃ x : Int32, xs (r + 1) = x := ⟨_, rfl⟩
  obtain ⟨y, hx2⟩ : ∃ y : Int32, xs (r + 2) = y := ⟨_, rfl⟩
  by_cases hp : sp_isP w x = 0
  · refine lv_aload_n hx hb dL_law_448 rfl (lv_at hl 1 rfl) ?_
    refine lv_aload_n hx hb dL_law_449 rfl (lv_at hl 0 rfl) ?_
    refine lv_iload hx hb dL_law_450 (lv_at hl 4 rfl) ?_
    refine lv_iconst (v := 1) hx hb dL_law_452 (by decide) ?_
    refine lv_iadd hx hb dL_law_453 ?_
    refine w_sld hx hb hX hbl hbA hS hL (r + 1) (nI_1 r) (by omega) hx1 dL_law_454 ?_
    refine lv_aload_n hx hb dL_law_455 rfl (lv_at hl 3 rfl) ?_
    have hPO := wj_Pl hP
    have hDO := wj_Dl hD
    have hF := wj_Fl hD hS hA
    refine va_calli (vx_runSW (As := [.ref (a 0), .int x, .ref o]) (rest := []) hC (w_turnDuty_a l hst H.size x hp) (vx_cwSW 3 hC.2.2.2.2 (gi_S mM_L_120 mT_L_turnDuty mI_MissRegistryLaw mC_L_turnDuty) rfl rfl rfl (by decide +kernel) ⟨Nat.le_of_ble_eq_true rfl, Nat.le_of_ble_eq_true rfl⟩) ⟨fun a1 U g mk q => ⟨q.1, q.2.1, q.2.2.1, va_K.moved (u := U) (U := U.calling g mk a1) (Vm.Alike.refl U.vm) q.2.2.2.1, va_K.moved (u := U) (U := U.calling g mk a1) (Vm.Alike.refl U.vm) q.2.2.2.2.1, ⟨q.2.2.2.2.2.1, tH.same (u := U) (U := U.calling g mk a1) rfl q.2.2.2.2.2.2.1, tN.moved (u := U) (U := U.calling g mk a1) (Vm.Alike.refl U.vm) q.2.2.2.2.2.2.2⟩⟩, fun U hU hW => ⟨rfl, by rw [hU], by rw [hU]; exact hPO, va_K.moved hW.alike hK, va_K.moved hW.alike hJ, hDO.weaken (fun _ _ _ _ => trivial), by rw [hU]; exact (hT.at hS).warm hW, hN.moved hW.alike⟩⟩ rfl rfl hl.1 rfl (lv_room (Nat.le_of_ble_eq_true rfl)) dL_law_456 ⟨(show _ ≤ 601024 by omega), (show _ ≤ 7293034 by omega)⟩) hS (fun q _ h => hF q h) hF (fun r9 u9 t H locs ht hvm hw9 hB hz9 hk9 hS9 => ?_)
    obtain ⟨hP1, hD1⟩ := hB
    rw [ht] at hP1
    obtain ⟨hP, hD⟩ := wj_l hP hD hk9 hF hP1 hD1
    rw [show r9 = 1 from hw9]
    have hP : va_P D vwCl (oW o cJ g (xW z a lv lk pu fa he n nv du ta w mp mi k nt fu re) ++ mW z2 a2 th n w gn lk pu fa he nv of mp mi k nt fu re) H := hP
    have hD : va_D (nw s) (oW o cJ g (xW z a lv lk pu fa he n nv du ta w mp mi k nt fu re) ++ mW z2 a2 th n w gn lk pu fa he nv of mp mi k nt fu re) := hD
    have hS := hS9
    refine lv_istore (lv' := [(5, .int 1), (0, .ref b), (1, .ref (a 0)), (2, .ref (a2 0)), (3, .ref o), (4, .int (nI r))]) hx hb dL_law_459 hl (by decide) rfl (fun ls hl => ?_)
    refine lv_aload_n hx hb dL_law_461 rfl (lv_at hl 3 rfl) ?_
    refine lv_aload_n hx hb dL_law_462 rfl (lv_at hl 1 rfl) ?_
    refine lv_iload hx hb dL_law_463 (lv_at hl 5 rfl) ?_
    refine lv_iconst (v := 1) hx hb dL_law_465 (by decide) ?_
    refine lv_iadd hx hb dL_law_466 ?_
    refine w_sld hx hb hX hbl hbA hS hL (r + 1) (nI_1 r) (by omega) hx1 dL_law_467 ?_
    have hPM := wj_Pr hP
    have hDM := wj_Dr hD
    have hF := wj_Fr hD hS hA
    refine va_calli (va_runV (As := [.int x]) (rest := []) hC (c_X1_turnDuty_a l H.size x hw hp) (cwV 1 hC.2.2.2.2 (gi_V mM_L_122 mV_X1_turnDuty mS_X1_turnDuty mI_MissRegistryModel mC_X1_turnDuty) rfl rfl rfl (by decide +kernel) ⟨Nat.le_of_ble_eq_true rfl, Nat.le_of_ble_eq_true rfl⟩) ⟨fun a1 U g mk q => ⟨q.1, q.2.1, ⟨q.2.2.1.1, va_K.moved (u := U) (U := U.calling g mk a1) (Vm.Alike.refl U.vm) q.2.2.1.2⟩, q.2.2.2⟩, va_recv hK2 hPM (ci := 1) (q0 := 0) rfl rfl, fun U hU hW => ⟨rfl, by rw [hU], ⟨by rw [hU]; exact hPM, va_K.moved hW.alike hK2⟩, hDM.weaken (fun _ _ _ _ => trivial)⟩⟩ rfl rfl hl.1 rfl (lv_room (Nat.le_of_ble_eq_true rfl)) dL_law_468 ⟨(show _ ≤ 601024 by omega), (show _ ≤ 7293034 by omega)⟩) hS (fun q _ h => hF q h) hF (fun r7 u7 t H locs ht hvm hw7 hB hz9 hk9 hS9 => ?_)
    obtain ⟨hP1, hK1, hD1⟩ := hB
    rw [ht] at hP1
    obtain ⟨hP, hD⟩ := wj_r hP hD hk9 hF hP1 hD1
    have hP : va_P D vwCl (oW o cJ g (xW z a lv lk pu fa he n nv du ta w mp mi k nt fu re) ++ mW z2 a2 1 n w gn lk pu fa he nv of mp mi k nt fu re) H := hP
    have hD : va_D (nw s) (oW o cJ g (xW z a lv lk pu fa he n nv du ta w mp mi k nt fu re) ++ mW z2 a2 1 n w gn lk pu fa he nv of mp mi k nt fu re) := hD
    have hS := hS9
    rw [show r7 = 0 from hw7]
    refine lv_istore (lv' := [(6, .int 0), (5, .int 1), (0, .ref b), (1, .ref (a 0)), (2, .ref (a2 0)), (3, .ref o), (4, .int (nI r))]) hx hb dL_law_471 hl (by decide) rfl (fun ls hl => ?_)
    refine lv_aload_n hx hb dL_law_473 rfl (lv_at hl 4 rfl) ?_
    refine vp_callSi (W.runV (As := []) (rest := []) hC (c_X1_thrown l) (cwV 0 hC.2.2.2.2 (gi_V mM_L_106 mV_X1_thrown mS_X1_thrown mI_MissRegistryModel mC_X1_thrown) rfl rfl rfl (by decide +kernel) ⟨Nat.le_of_ble_eq_true rfl, Nat.le_of_ble_eq_true rfl⟩) (mpre hK2 (wj_Pr hP)) rfl rfl hl.1 rfl (lv_room (Nat.le_of_ble_eq_true rfl)) dL_law_474 ⟨(show _ ≤ 601024 by omega), (show _ ≤ 7293034 by omega)⟩) (fun r8 hr8 => ?_)
    rw [show r8 = 1 from hr8]
    refine lv_iload hx hb dL_law_477 (lv_at hl 1 rfl) ?_
    refine lv_icmp_eq (tgt := 484) hx hb dL_law_479 (by decide) (fun c_479 => ?_) (fun c_479 => ?_)
    · refine lv_iload hx hb dL_law_484 (lv_at hl 1 rfl) ?_
      refine lv_if_ne (tgt := 508) hx hb dL_law_486 (by decide) (fun c_486 => ?_) (fun c_486 => ?_)
      · refine lv_goto (tgt := 1948) hx hb dL_law_508 (by decide) ?_
        exact kk _ _ _ _ _ ⟨lv, lk, pu, fa, he, n, nv, du, ta, w, mp, mi, k, nt, fu, re, gn, of, 1, g, hI, hP, hD, hS⟩ (by omega) (by omega) (lv_sub hl [2, 3, 4, 5, 6] rfl)
      · exact absurd c_486 (by decide)
    · exact absurd rfl c_479
  · obtain ⟨i, hi, exi⟩ := isP_ex (by omega) hp
    subst exi
    have ho := (hI.2.1.2.1 i hi).2
    have h01 : of i = 0 ∨ of i = 1 := by rw [ho]; unfold sp_not; split; exact Or.inr rfl; exact Or.inl rfl
    refine lv_aload_n hx hb dL_law_448 rfl (lv_at hl 1 rfl) ?_
    refine lv_aload_n hx hb dL_law_449 rfl (lv_at hl 0 rfl) ?_
    refine lv_iload hx hb dL_law_450 (lv_at hl 4 rfl) ?_
    refine lv_iconst (v := 1) hx hb dL_law_452 (by decide) ?_
    refine lv_iadd hx hb dL_law_453 ?_
    refine w_sld hx hb hX hbl hbA hS hL (r + 1) (nI_1 r) (by omega) hx1 dL_law_454 ?_
    refine lv_aload_n hx hb dL_law_455 rfl (lv_at hl 3 rfl) ?_
    have hPO := wj_Pl hP
    have hDO := wj_Dl hD
    have hF := wj_Fl hD hS hA
    refine va_calli (vx_runSW (As := [.ref (a 0), .int (nI i), .ref o]) (rest := []) hC (w_turnDuty l H.size i hi hw) (vx_cwSW 3 hC.2.2.2.2 (gi_S mM_L_120 mT_L_turnDuty mI_MissRegistryLaw mC_L_turnDuty) rfl rfl rfl (by decide +kernel) ⟨Nat.le_of_ble_eq_true rfl, Nat.le_of_ble_eq_true rfl⟩) ⟨fun a1 U g mk q => ⟨q.1, q.2.1, q.2.2.1, va_K.moved (u := U) (U := U.calling g mk a1) (Vm.Alike.refl U.vm) q.2.2.2.1, va_K.moved (u := U) (U := U.calling g mk a1) (Vm.Alike.refl U.vm) q.2.2.2.2.1, q.2.2.2.2.2⟩, fun U hU hW => ⟨rfl, by rw [hU], by rw [hU]; exact hPO, va_K.moved hW.alike hK, va_K.moved hW.alike hJ, hDO.weaken (fun _ _ _ _ => trivial)⟩⟩ rfl rfl hl.1 rfl (lv_room (Nat.le_of_ble_eq_true rfl)) dL_law_456 ⟨(show _ ≤ 601024 by omega), (show _ ≤ 7293034 by omega)⟩) hS (fun q _ h => hF q h) hF (fun r9 u9 t H locs ht hvm hw9 hB hz9 hk9 hS9 => ?_)
    obtain ⟨hP1, hD1⟩ := hB
    rw [ht] at hP1
    obtain ⟨hP, hD⟩ := wj_l hP hD hk9 hF hP1 hD1
    obtain ⟨hr9, hu9⟩ := hw9
    rw [hr9]
    have hP : va_P D vwCl (oW o cJ u9 (xW z a lv lk pu fa he n nv (upd du i (sp_not (du i))) ta w mp mi k nt fu re) ++ mW z2 a2 th n w gn lk pu fa he nv of mp mi k nt fu re) H := hP
    have hD : va_D (nw s) (oW o cJ u9 (xW z a lv lk pu fa he n nv (upd du i (sp_not (du i))) ta w mp mi k nt fu re) ++ mW z2 a2 th n w gn lk pu fa he nv of mp mi k nt fu re) := hD
    have hS := hS9
    refine lv_istore (lv' := [(5, .int 0), (0, .ref b), (1, .ref (a 0)), (2, .ref (a2 0)), (3, .ref o), (4, .int (nI r))]) hx hb dL_law_459 hl (by decide) rfl (fun ls hl => ?_)
    refine lv_aload_n hx hb dL_law_461 rfl (lv_at hl 3 rfl) ?_
    refine lv_aload_n hx hb dL_law_462 rfl (lv_at hl 1 rfl) ?_
    refine lv_iload hx hb dL_law_463 (lv_at hl 5 rfl) ?_
    refine lv_iconst (v := 1) hx hb dL_law_465 (by decide) ?_
    refine lv_iadd hx hb dL_law_466 ?_
    refine w_sld hx hb hX hbl hbA hS hL (r + 1) (nI_1 r) (by omega) hx1 dL_law_467 ?_
    have hPM := wj_Pr hP
    have hDM := wj_Dr hD
    have hF := wj_Fr hD hS hA
    refine va_calli (va_runV (As := [.int (nI i)]) (rest := []) hC (c_X1_turnDuty l H.size i hi hw h01) (cwV 1 hC.2.2.2.2 (gi_V mM_L_122 mV_X1_turnDuty mS_X1_turnDuty mI_MissRegistryModel mC_X1_turnDuty) rfl rfl rfl (by decide +kernel) ⟨Nat.le_of_ble_eq_true rfl, Nat.le_of_ble_eq_true rfl⟩) ⟨fun a1 U g mk q => ⟨q.1, q.2.1, ⟨q.2.2.1.1, va_K.moved (u := U) (U := U.calling g mk a1) (Vm.Alike.refl U.vm) q.2.2.1.2⟩, q.2.2.2⟩, va_recv hK2 hPM (ci := 1) (q0 := 0) rfl rfl, fun U hU hW => ⟨rfl, by rw [hU], ⟨by rw [hU]; exact hPM, va_K.moved hW.alike hK2⟩, hDM.weaken (fun _ _ _ _ => trivial)⟩⟩ rfl rfl hl.1 rfl (lv_room (Nat.le_of_ble_eq_true rfl)) dL_law_468 ⟨(show _ ≤ 601024 by omega), (show _ ≤ 7293034 by omega)⟩) hS (fun q _ h => hF q h) hF (fun r7 u7 t H locs ht hvm hw7 hB hz9 hk9 hS9 => ?_)
    obtain ⟨hP1, hK1, hD1⟩ := hB
    rw [ht] at hP1
    obtain ⟨hP, hD⟩ := wj_r hP hD hk9 hF hP1 hD1
    have hP : va_P D vwCl (oW o cJ u9 (xW z a lv lk pu fa he n nv (upd du i (sp_not (du i))) ta w mp mi k nt fu re) ++ mW z2 a2 0 n w gn lk pu fa he nv (upd of i (sp_not (of i))) mp mi k nt fu re) H := hP
    have hD : va_D (nw s) (oW o cJ u9 (xW z a lv lk pu fa he n nv (upd du i (sp_not (du i))) ta w mp mi k nt fu re) ++ mW z2 a2 0 n w gn lk pu fa he nv (upd of i (sp_not (of i))) mp mi k nt fu re) := hD
    have hS := hS9
    rw [show r7 = of i from hw7]
    refine lv_istore (lv' := [(6, .int (of i)), (5, .int 0), (0, .ref b), (1, .ref (a 0)), (2, .ref (a2 0)), (3, .ref o), (4, .int (nI r))]) hx hb dL_law_471 hl (by decide) rfl (fun ls hl => ?_)
    refine lv_aload_n hx hb dL_law_473 rfl (lv_at hl 4 rfl) ?_
    refine vp_callSi (W.runV (As := []) (rest := []) hC (c_X1_thrown l) (cwV 0 hC.2.2.2.2 (gi_V mM_L_106 mV_X1_thrown mS_X1_thrown mI_MissRegistryModel mC_X1_thrown) rfl rfl rfl (by decide +kernel) ⟨Nat.le_of_ble_eq_true rfl, Nat.le_of_ble_eq_true rfl⟩) (mpre hK2 (wj_Pr hP)) rfl rfl hl.1 rfl (lv_room (Nat.le_of_ble_eq_true rfl)) dL_law_474 ⟨(show _ ≤ 601024 by omega), (show _ ≤ 7293034 by omega)⟩) (fun r8 hr8 => ?_)
    rw [show r8 = 0 from hr8]
    refine lv_iload hx hb dL_law_477 (lv_at hl 1 rfl) ?_
    refine lv_icmp_eq (tgt := 484) hx hb dL_law_479 (by decide) (fun c_479 => ?_) (fun c_479 => ?_)
    · refine lv_iload hx hb dL_law_484 (lv_at hl 1 rfl) ?_
      refine lv_if_ne (tgt := 508) hx hb dL_law_486 (by decide) (fun c_486 => ?_) (fun c_486 => ?_)
      · exact absurd rfl c_486
      · refine lv_aload_n hx hb dL_law_489 rfl (lv_at hl 5 rfl) ?_
        refine lv_iconst (v := 0) hx hb dL_law_490 (by decide) ?_
        refine w_lald hC hJ (wj_Pl hP) dL_law_491 ?_
        refine lv_iload hx hb dL_law_492 (lv_at hl 0 rfl) ?_
        refine lv_if_eq (tgt := 501) hx hb dL_law_494 (by decide) (fun c_494 => ?_) (fun c_494 => ?_)
        · refine lv_lconst (v := 0) hx hb dL_law_501 rfl ?_
          refine w_lcmp hx hb dL_law_502 (hu9.trans (by unfold b64; rw [if_pos (show _ from ho ▸ c_494)])) ?_
          refine lv_if_eq (tgt := 508) hx hb dL_law_503 (by decide) (fun c_503 => ?_) (fun c_503 => ?_)
          · refine lv_goto (tgt := 1948) hx hb dL_law_508 (by decide) ?_
            exact kk _ _ _ _ _ ⟨lv, lk, pu, fa, he, n, nv, (upd du i (sp_not (du i))), ta, w, mp, mi, k, nt, fu, re, gn, (upd of i (sp_not (of i))), 0, u9, (iv_turnDuty hI hi), hP, hD, hS⟩ (by omega) (by omega) (lv_sub hl [2, 3, 4, 5, 6] rfl)
          · exact absurd rfl c_503
        · refine lv_lconst (v := 1) hx hb dL_law_497 rfl ?_
          refine lv_goto (tgt := 502) hx hb dL_law_498 (by decide) ?_
          refine w_lcmp hx hb dL_law_502 (hu9.trans (by unfold b64; rw [if_neg (show _ from ho ▸ c_494)])) ?_
          refine lv_if_eq (tgt := 508) hx hb dL_law_503 (by decide) (fun c_503 => ?_) (fun c_503 => ?_)
          · refine lv_goto (tgt := 1948) hx hb dL_law_508 (by decide) ?_
            exact kk _ _ _ _ _ ⟨lv, lk, pu, fa, he, n, nv, (upd du i (sp_not (du i))), ta, w, mp, mi, k, nt, fu, re, gn, (upd of i (sp_not (of i))), 0, u9, (iv_turnDuty hI hi), hP, hD, hS⟩ (by omega) (by omega) (lv_sub hl [2, 3, 4, 5, 6] rfl)
          · exact absurd rfl c_503
    · exact absurd rfl c_479
set_option maxHeartbeats 8000000 in
set_option maxRecDepth 100000 in
theorem lc_5 {p : Program} {l : Launch} {e : Env} {s : State} {m : MethodId} {below : List Frame} {meth : Method} {c : Code} {H : Heap} {locs : List Loc} {cells slots : Nat} {Q : State → Prop} {ls : Array Slot} {b L : Nat} {xs : Nat → Int32} {D : va_G} {z z2 : ClassId × ClassId} {cJ : ClassId} {q9 t9 a a2 : Nat → Nat} {o : Nat} {lv lk pu fa he : Nat → Int32} {n : Nat} {nv du ta : Nat → Int32} {w : Nat} {mp mi : Nat → Int32} {k : Nat} {nt fu re : Int32} {gn of : Nat → Int32} {th : Int32} {g : Nat → Int64} {r : Nat} (X : LX p l s m c b L xs D z z2 cJ q9 t9) (hI : IV lv lk fa he n nv du w k gn of) (hP : va_P D vwCl (oW o cJ g (xW z a lv lk pu fa he n nv du ta w mp mi k nt fu re) ++ mW z2 a2 th n w gn lk pu fa he nv of mp mi k nt fu re) H) (hD : va_D (nw s) (oW o cJ g (xW z a lv lk pu fa he n nv du ta w mp mi k nt fu re) ++ mW z2 a2 th n w gn lk pu fa he nv of mp mi k nt fu re)) (hS : va_S (nw s) s.heap H locs) (hcl : cells + 12 ≤ 601024) (hsl : slots + 100 ≤ 7293034) (hr : r + 2 < L) (hl : lv_has ls 9 [(0, .ref b), (1, .ref (a 0)), (2, .ref (a2 0)), (3, .ref o), (4, .int (nI r))]) (kk : ∀ (H1 : Heap) (locs1 : List Loc) (c1 s1 : Nat) (ls1 : Array Slot), Jn D z z2 cJ a a2 o s H1 locs1 → c1 ≤ cells + 11 → s1 ≤ slots + 94 → lv_has ls1 9 [(0, .ref b), (1, .ref (a 0)), (2, .ref (a2 0)), (3, .ref o), (4, .int (nI r))] → W p l e room_1 s m #[.ref b] below meth c H1 locs1 c1 s1 Q (F0 m 1948 ls1 [])) : W p l e room_1 s m #[.ref b] below meth c H locs cells slots Q (F0 m 511 ls []) := by
  obtain ⟨hC, hst, ⟨hX, hbl, hL⟩, ⟨hK, hK2, hJ⟩, hT, hN, hE⟩ := X
  have hx := hC.1
  have hb := hC.2.1
  have hA : ∀ q : Nat, s.heap.size ≤ q → nw s q := fun q h => h
  have hbA : ¬ nw s b := Nat.not_le.mpr hbl
  have hn := hI.1.1
  have hw := hI.1.2.1
  have hk := hI.1.2.2
  obtain ⟨x, hx1⟩ : ∃ x : Int32, xs (r + 1) = x := ⟨_, rfl⟩
  obtain ⟨y, hx2⟩ : ∃ y : Int32, xs (r + 2) = y := ⟨_, rfl⟩
  by_cases hp : sp_isP n x = 0
  · refine lv_aload_n hx hb dL_law_511 rfl (lv_at hl 1 rfl) ?_
    refine lv_aload_n hx hb dL_law_512 rfl (lv_at hl 0 rfl) ?_
    refine lv_iload hx hb dL_law_513 (lv_at hl 4 rfl) ?_
    refine lv_iconst (v := 1) hx hb dL_law_515 (by decide) ?_
    refine lv_iadd hx hb dL_law_516 ?_
    refine w_sld hx hb hX hbl hbA hS hL (r + 1) (nI_1 r) (by omega) hx1 dL_law_517 ?_
    refine lv_aload_n hx hb dL_law_518 rfl (lv_at hl 0 rfl) ?_
    refine lv_iload hx hb dL_law_519 (lv_at hl 4 rfl) ?_
    refine lv_iconst (v := 2) hx hb dL_law_521 (by decide) ?_
    refine lv_iadd hx hb dL_law_522 ?_
    refine w_sld hx hb hX hbl hbA hS hL (r + 2) (nI_add r 2) (by omega) hx2 dL_law_523 ?_
    refine lv_aload_n hx hb dL_law_524 rfl (lv_at hl 3 rfl) ?_
    have hPO := wj_Pl hP
    have hDO := wj_Dl hD
    have hF := wj_Fl hD hS hA
    refine va_calli (vx_runSW (As := [.ref (a 0), .int x, .int y, .ref o]) (rest := []) hC (w_miss_a l hst H.size x y hp) (vx_cwSW 4 hC.2.2.2.2 (gi_S mM_L_123 mT_L_miss mI_MissRegistryLaw mC_L_miss) rfl rfl rfl (by decide +kernel) ⟨Nat.le_of_ble_eq_true rfl, Nat.le_of_ble_eq_true rfl⟩) ⟨fun a1 U g mk q => ⟨q.1, q.2.1, q.2.2.1, va_K.moved (u := U) (U := U.calling g mk a1) (Vm.Alike.refl U.vm) q.2.2.2.1, va_K.moved (u := U) (U := U.calling g mk a1) (Vm.Alike.refl U.vm) q.2.2.2.2.1, ⟨q.2.2.2.2.2.1, tH.same (u := U) (U := U.calling g mk a1) rfl q.2.2.2.2.2.2.1, tN.moved (u := U) (U := U.calling g mk a1) (Vm.Alike.refl U.vm) q.2.2.2.2.2.2.2⟩⟩, fun U hU hW => ⟨rfl, by rw [hU], by rw [hU]; exact hPO, va_K.moved hW.alike hK, va_K.moved hW.alike hJ, hDO.weaken (fun _ _ _ _ => trivial), by rw [hU]; exact (hT.at hS).warm hW, hN.moved hW.alike⟩⟩ rfl rfl hl.1 rfl (lv_room (Nat.le_of_ble_eq_true rfl)) dL_law_525 ⟨(show _ ≤ 601024 by omega), (show _ ≤ 7293034 by omega)⟩) hS (fun q _ h => hF q h) hF (fun r9 u9 t H locs ht hvm hw9 hB hz9 hk9 hS9 => ?_)
    obtain ⟨hP1, hD1⟩ := hB
    rw [ht] at hP1
    obtain ⟨hP, hD⟩ := wj_l hP hD hk9 hF hP1 hD1
    rw [show r9 = 1 from hw9]
    have hP : va_P D vwCl (oW o cJ g (xW z a lv lk pu fa he n nv du ta w mp mi k nt fu re) ++ mW z2 a2 th n w gn lk pu fa he nv of mp mi k nt fu re) H := hP
    have hD : va_D (nw s) (oW o cJ g (xW z a lv lk pu fa he n nv du ta w mp mi k nt fu re) ++ mW z2 a2 th n w gn lk pu fa he nv of mp mi k nt fu re) := hD
    have hS := hS9
    refine lv_istore (lv' := [(5, .int 1), (0, .ref b), (1, .ref (a 0)), (2, .ref (a2 0)), (3, .ref o), (4, .int (nI r))]) hx hb dL_law_528 hl (by decide) rfl (fun ls hl => ?_)
    refine lv_aload_n hx hb dL_law_530 rfl (lv_at hl 3 rfl) ?_
    refine lv_aload_n hx hb dL_law_531 rfl (lv_at hl 1 rfl) ?_
    refine lv_iload hx hb dL_law_532 (lv_at hl 5 rfl) ?_
    refine lv_iconst (v := 1) hx hb dL_law_534 (by decide) ?_
    refine lv_iadd hx hb dL_law_535 ?_
    refine w_sld hx hb hX hbl hbA hS hL (r + 1) (nI_1 r) (by omega) hx1 dL_law_536 ?_
    refine lv_aload_n hx hb dL_law_537 rfl (lv_at hl 1 rfl) ?_
    refine lv_iload hx hb dL_law_538 (lv_at hl 5 rfl) ?_
    refine lv_iconst (v := 2) hx hb dL_law_540 (by decide) ?_
    refine lv_iadd hx hb dL_law_541 ?_
    refine w_sld hx hb hX hbl hbA hS hL (r + 2) (nI_add r 2) (by omega) hx2 dL_law_542 ?_
    have hPM := wj_Pr hP
    have hDM := wj_Dr hD
    have hF := wj_Fr hD hS hA
    refine va_calli (va_runV (As := [.int x, .int y]) (rest := []) hC (c_X1_miss_a l H.size x y hn hp) (cwV 2 hC.2.2.2.2 (gi_V mM_L_125 mV_X1_miss mS_X1_miss mI_MissRegistryModel mC_X1_miss) rfl rfl rfl (by decide +kernel) ⟨Nat.le_of_ble_eq_true rfl, Nat.le_of_ble_eq_true rfl⟩) ⟨fun a1 U g mk q => ⟨q.1, q.2.1, ⟨q.2.2.1.1, va_K.moved (u := U) (U := U.calling g mk a1) (Vm.Alike.refl U.vm) q.2.2.1.2⟩, q.2.2.2⟩, va_recv hK2 hPM (ci := 1) (q0 := 0) rfl rfl, fun U hU hW => ⟨rfl, by rw [hU], ⟨by rw [hU]; exact hPM, va_K.moved hW.alike hK2⟩, hDM.weaken (fun _ _ _ _ => trivial)⟩⟩ rfl rfl hl.1 rfl (lv_room (Nat.le_of_ble_eq_true rfl)) dL_law_543 ⟨(show _ ≤ 601024 by omega), (show _ ≤ 7293034 by omega)⟩) hS (fun q _ h => hF q h) hF (fun r7 u7 t H locs ht hvm hw7 hB hz9 hk9 hS9 => ?_)
    obtain ⟨hP1, hK1, hD1⟩ := hB
    rw [ht] at hP1
    obtain ⟨hP, hD⟩ := wj_r hP hD hk9 hF hP1 hD1
    have hP : va_P D vwCl (oW o cJ g (xW z a lv lk pu fa he n nv du ta w mp mi k nt fu re) ++ mW z2 a2 1 n w gn lk pu fa he nv of mp mi k nt fu re) H := hP
    have hD : va_D (nw s) (oW o cJ g (xW z a lv lk pu fa he n nv du ta w mp mi k nt fu re) ++ mW z2 a2 1 n w gn lk pu fa he nv of mp mi k nt fu re) := hD
    have hS := hS9
    rw [show r7 = 0 from hw7]
    refine lv_istore (lv' := [(6, .int 0), (5, .int 1), (0, .ref b), (1, .ref (a 0)), (2, .ref (a2 0)), (3, .ref o), (4, .int (nI r))]) hx hb dL_law_546 hl (by decide) rfl (fun ls hl => ?_)
    refine lv_aload_n hx hb dL_law_548 rfl (lv_at hl 4 rfl) ?_
    refine vp_callSi (W.runV (As := []) (rest := []) hC (c_X1_thrown l) (cwV 0 hC.2.2.2.2 (gi_V mM_L_106 mV_X1_thrown mS_X1_thrown mI_MissRegistryModel mC_X1_thrown) rfl rfl rfl (by decide +kernel) ⟨Nat.le_of_ble_eq_true rfl, Nat.le_of_ble_eq_true rfl⟩) (mpre hK2 (wj_Pr hP)) rfl rfl hl.1 rfl (lv_room (Nat.le_of_ble_eq_true rfl)) dL_law_549 ⟨(show _ ≤ 601024 by omega), (show _ ≤ 7293034 by omega)⟩) (fun r8 hr8 => ?_)
    rw [show r8 = 1 from hr8]
    refine lv_iload hx hb dL_law_552 (lv_at hl 1 rfl) ?_
    refine lv_icmp_eq (tgt := 559) hx hb dL_law_554 (by decide) (fun c_554 => ?_) (fun c_554 => ?_)
    · refine lv_iload hx hb dL_law_559 (lv_at hl 1 rfl) ?_
      refine lv_if_ne (tgt := 576) hx hb dL_law_561 (by decide) (fun c_561 => ?_) (fun c_561 => ?_)
      · refine lv_goto (tgt := 1948) hx hb dL_law_576 (by decide) ?_
        exact kk _ _ _ _ _ ⟨lv, lk, pu, fa, he, n, nv, du, ta, w, mp, mi, k, nt, fu, re, gn, of, 1, g, hI, hP, hD, hS⟩ (by omega) (by omega) (lv_sub hl [2, 3, 4, 5, 6] rfl)
      · exact absurd c_561 (by decide)
    · exact absurd rfl c_554
  · obtain ⟨i, hi, exi⟩ := isP_ex (by omega) hp
    subst exi
    by_cases hbad : y < 1 ∨ ¬ y ≤ 60
    · refine lv_aload_n hx hb dL_law_511 rfl (lv_at hl 1 rfl) ?_
      refine lv_aload_n hx hb dL_law_512 rfl (lv_at hl 0 rfl) ?_
      refine lv_iload hx hb dL_law_513 (lv_at hl 4 rfl) ?_
      refine lv_iconst (v := 1) hx hb dL_law_515 (by decide) ?_
      refine lv_iadd hx hb dL_law_516 ?_
      refine w_sld hx hb hX hbl hbA hS hL (r + 1) (nI_1 r) (by omega) hx1 dL_law_517 ?_
      refine lv_aload_n hx hb dL_law_518 rfl (lv_at hl 0 rfl) ?_
      refine lv_iload hx hb dL_law_519 (lv_at hl 4 rfl) ?_
      refine lv_iconst (v := 2) hx hb dL_law_521 (by decide) ?_
      refine lv_iadd hx hb dL_law_522 ?_
      refine w_sld hx hb hX hbl hbA hS hL (r + 2) (nI_add r 2) (by omega) hx2 dL_law_523 ?_
      refine lv_aload_n hx hb dL_law_524 rfl (lv_at hl 3 rfl) ?_
      have hPO := wj_Pl hP
      have hDO := wj_Dl hD
      have hF := wj_Fl hD hS hA
      refine va_calli (vx_runSW (As := [.ref (a 0), .int (nI i), .int y, .ref o]) (rest := []) hC (w_miss_b l hst H.size i hi hn y hbad) (vx_cwSW 4 hC.2.2.2.2 (gi_S mM_L_123 mT_L_miss mI_MissRegistryLaw mC_L_miss) rfl rfl rfl (by decide +kernel) ⟨Nat.le_of_ble_eq_true rfl, Nat.le_of_ble_eq_true rfl⟩) ⟨fun a1 U g mk q => ⟨q.1, q.2.1, q.2.2.1, va_K.moved (u := U) (U := U.calling g mk a1) (Vm.Alike.refl U.vm) q.2.2.2.1, va_K.moved (u := U) (U := U.calling g mk a1) (Vm.Alike.refl U.vm) q.2.2.2.2.1, ⟨q.2.2.2.2.2.1, tH.same (u := U) (U := U.calling g mk a1) rfl q.2.2.2.2.2.2.1, tN.moved (u := U) (U := U.calling g mk a1) (Vm.Alike.refl U.vm) q.2.2.2.2.2.2.2⟩⟩, fun U hU hW => ⟨rfl, by rw [hU], by rw [hU]; exact hPO, va_K.moved hW.alike hK, va_K.moved hW.alike hJ, hDO.weaken (fun _ _ _ _ => trivial), by rw [hU]; exact (hT.at hS).warm hW, hN.moved hW.alike⟩⟩ rfl rfl hl.1 rfl (lv_room (Nat.le_of_ble_eq_true rfl)) dL_law_525 ⟨(show _ ≤ 601024 by omega), (show _ ≤ 7293034 by omega)⟩) hS (fun q _ h => hF q h) hF (fun r9 u9 t H locs ht hvm hw9 hB hz9 hk9 hS9 => ?_)
      obtain ⟨hP1, hD1⟩ := hB
      rw [ht] at hP1
      obtain ⟨hP, hD⟩ := wj_l hP hD hk9 hF hP1 hD1
      rw [show r9 = 2 from hw9]
      have hP : va_P D vwCl (oW o cJ g (xW z a lv lk pu fa he n nv du ta w mp mi k nt fu re) ++ mW z2 a2 th n w gn lk pu fa he nv of mp mi k nt fu re) H := hP
      have hD : va_D (nw s) (oW o cJ g (xW z a lv lk pu fa he n nv du ta w mp mi k nt fu re) ++ mW z2 a2 th n w gn lk pu fa he nv of mp mi k nt fu re) := hD
      have hS := hS9
      refine lv_istore (lv' := [(5, .int 2), (0, .ref b), (1, .ref (a 0)), (2, .ref (a2 0)), (3, .ref o), (4, .int (nI r))]) hx hb dL_law_528 hl (by decide) rfl (fun ls hl => ?_)
      refine lv_aload_n hx hb dL_law_530 rfl (lv_at hl 3 rfl) ?_
      refine lv_aload_n hx hb dL_law_531 rfl (lv_at hl 1 rfl) ?_
      refine lv_iload hx hb dL_law_532 (lv_at hl 5 rfl) ?_
      refine lv_iconst (v := 1) hx hb dL_law_534 (by decide) ?_
      refine lv_iadd hx hb dL_law_535 ?_
      refine w_sld hx hb hX hbl hbA hS hL (r + 1) (nI_1 r) (by omega) hx1 dL_law_536 ?_
      refine lv_aload_n hx hb dL_law_537 rfl (lv_at hl 1 rfl) ?_
      refine lv_iload hx hb dL_law_538 (lv_at hl 5 rfl) ?_
      refine lv_iconst (v := 2) hx hb dL_law_540 (by decide) ?_
      refine lv_iadd hx hb dL_law_541 ?_
      refine w_sld hx hb hX hbl hbA hS hL (r + 2) (nI_add r 2) (by omega) hx2 dL_law_542 ?_
      have hPM := wj_Pr hP
      have hDM := wj_Dr hD
      have hF := wj_Fr hD hS hA
      refine va_calli (va_runV (As := [.int (nI i), .int y]) (rest := []) hC (c_X1_miss_b l H.size i hi hn y hbad) (cwV 2 hC.2.2.2.2 (gi_V mM_L_125 mV_X1_miss mS_X1_miss mI_MissRegistryModel mC_X1_miss) rfl rfl rfl (by decide +kernel) ⟨Nat.le_of_ble_eq_true rfl, Nat.le_of_ble_eq_true rfl⟩) ⟨fun a1 U g mk q => ⟨q.1, q.2.1, ⟨q.2.2.1.1, va_K.moved (u := U) (U := U.calling g mk a1) (Vm.Alike.refl U.vm) q.2.2.1.2⟩, q.2.2.2⟩, va_recv hK2 hPM (ci := 1) (q0 := 0) rfl rfl, fun U hU hW => ⟨rfl, by rw [hU], ⟨by rw [hU]; exact hPM, va_K.moved hW.alike hK2⟩, hDM.weaken (fun _ _ _ _ => trivial)⟩⟩ rfl rfl hl.1 rfl (lv_room (Nat.le_of_ble_eq_true rfl)) dL_law_543 ⟨(show _ ≤ 601024 by omega), (show _ ≤ 7293034 by omega)⟩) hS (fun q _ h => hF q h) hF (fun r7 u7 t H locs ht hvm hw7 hB hz9 hk9 hS9 => ?_)
      obtain ⟨hP1, hK1, hD1⟩ := hB
      rw [ht] at hP1
      obtain ⟨hP, hD⟩ := wj_r hP hD hk9 hF hP1 hD1
      have hP : va_P D vwCl (oW o cJ g (xW z a lv lk pu fa he n nv du ta w mp mi k nt fu re) ++ mW z2 a2 2 n w gn lk pu fa he nv of mp mi k nt fu re) H := hP
      have hD : va_D (nw s) (oW o cJ g (xW z a lv lk pu fa he n nv du ta w mp mi k nt fu re) ++ mW z2 a2 2 n w gn lk pu fa he nv of mp mi k nt fu re) := hD
      have hS := hS9
      rw [show r7 = 0 from hw7]
      refine lv_istore (lv' := [(6, .int 0), (5, .int 2), (0, .ref b), (1, .ref (a 0)), (2, .ref (a2 0)), (3, .ref o), (4, .int (nI r))]) hx hb dL_law_546 hl (by decide) rfl (fun ls hl => ?_)
      refine lv_aload_n hx hb dL_law_548 rfl (lv_at hl 4 rfl) ?_
      refine vp_callSi (W.runV (As := []) (rest := []) hC (c_X1_thrown l) (cwV 0 hC.2.2.2.2 (gi_V mM_L_106 mV_X1_thrown mS_X1_thrown mI_MissRegistryModel mC_X1_thrown) rfl rfl rfl (by decide +kernel) ⟨Nat.le_of_ble_eq_true rfl, Nat.le_of_ble_eq_true rfl⟩) (mpre hK2 (wj_Pr hP)) rfl rfl hl.1 rfl (lv_room (Nat.le_of_ble_eq_true rfl)) dL_law_549 ⟨(show _ ≤ 601024 by omega), (show _ ≤ 7293034 by omega)⟩) (fun r8 hr8 => ?_)
      rw [show r8 = 2 from hr8]
      refine lv_iload hx hb dL_law_552 (lv_at hl 1 rfl) ?_
      refine lv_icmp_eq (tgt := 559) hx hb dL_law_554 (by decide) (fun c_554 => ?_) (fun c_554 => ?_)
      · refine lv_iload hx hb dL_law_559 (lv_at hl 1 rfl) ?_
        refine lv_if_ne (tgt := 576) hx hb dL_law_561 (by decide) (fun c_561 => ?_) (fun c_561 => ?_)
        · refine lv_goto (tgt := 1948) hx hb dL_law_576 (by decide) ?_
          exact kk _ _ _ _ _ ⟨lv, lk, pu, fa, he, n, nv, du, ta, w, mp, mi, k, nt, fu, re, gn, of, 2, g, hI, hP, hD, hS⟩ (by omega) (by omega) (lv_sub hl [2, 3, 4, 5, 6] rfl)
        · exact absurd c_561 (by decide)
      · exact absurd rfl c_554
    · have h1 : ¬ y < 1 := fun q => hbad (Or.inl q)
      have h2 : y ≤ 60 := Classical.not_not.mp (fun q => hbad (Or.inr q))
      have hg := hI.2.1.1.iff i hi
      by_cases ha : lv i = 0
      · refine lv_aload_n hx hb dL_law_511 rfl (lv_at hl 1 rfl) ?_
        refine lv_aload_n hx hb dL_law_512 rfl (lv_at hl 0 rfl) ?_
        refine lv_iload hx hb dL_law_513 (lv_at hl 4 rfl) ?_
        refine lv_iconst (v := 1) hx hb dL_law_515 (by decide) ?_
        refine lv_iadd hx hb dL_law_516 ?_
        refine w_sld hx hb hX hbl hbA hS hL (r + 1) (nI_1 r) (by omega) hx1 dL_law_517 ?_
        refine lv_aload_n hx hb dL_law_518 rfl (lv_at hl 0 rfl) ?_
        refine lv_iload hx hb dL_law_519 (lv_at hl 4 rfl) ?_
        refine lv_iconst (v := 2) hx hb dL_law_521 (by decide) ?_
        refine lv_iadd hx hb dL_law_522 ?_
        refine w_sld hx hb hX hbl hbA hS hL (r + 2) (nI_add r 2) (by omega) hx2 dL_law_523 ?_
        refine lv_aload_n hx hb dL_law_524 rfl (lv_at hl 3 rfl) ?_
        have hPO := wj_Pl hP
        have hDO := wj_Dl hD
        have hF := wj_Fl hD hS hA
        refine va_calli (vx_runSW (As := [.ref (a 0), .int (nI i), .int y, .ref o]) (rest := []) hC (w_miss_c l hst H.size i hi hn y h1 h2 ha) (vx_cwSW 4 hC.2.2.2.2 (gi_S mM_L_123 mT_L_miss mI_MissRegistryLaw mC_L_miss) rfl rfl rfl (by decide +kernel) ⟨Nat.le_of_ble_eq_true rfl, Nat.le_of_ble_eq_true rfl⟩) ⟨fun a1 U g mk q => ⟨q.1, q.2.1, q.2.2.1, va_K.moved (u := U) (U := U.calling g mk a1) (Vm.Alike.refl U.vm) q.2.2.2.1, va_K.moved (u := U) (U := U.calling g mk a1) (Vm.Alike.refl U.vm) q.2.2.2.2.1, ⟨q.2.2.2.2.2.1, tH.same (u := U) (U := U.calling g mk a1) rfl q.2.2.2.2.2.2.1, tN.moved (u := U) (U := U.calling g mk a1) (Vm.Alike.refl U.vm) q.2.2.2.2.2.2.2⟩⟩, fun U hU hW => ⟨rfl, by rw [hU], by rw [hU]; exact hPO, va_K.moved hW.alike hK, va_K.moved hW.alike hJ, hDO.weaken (fun _ _ _ _ => trivial), by rw [hU]; exact (hT.at hS).warm hW, hN.moved hW.alike⟩⟩ rfl rfl hl.1 rfl (lv_room (Nat.le_of_ble_eq_true rfl)) dL_law_525 ⟨(show _ ≤ 601024 by omega), (show _ ≤ 7293034 by omega)⟩) hS (fun q _ h => hF q h) hF (fun r9 u9 t H locs ht hvm hw9 hB hz9 hk9 hS9 => ?_)
        obtain ⟨hP1, hD1⟩ := hB
        rw [ht] at hP1
        obtain ⟨hP, hD⟩ := wj_l hP hD hk9 hF hP1 hD1
        rw [show r9 = 3 from hw9]
        have hP : va_P D vwCl (oW o cJ g (xW z a lv lk pu fa he n nv du ta w mp mi k nt fu re) ++ mW z2 a2 th n w gn lk pu fa he nv of mp mi k nt fu re) H := hP
        have hD : va_D (nw s) (oW o cJ g (xW z a lv lk pu fa he n nv du ta w mp mi k nt fu re) ++ mW z2 a2 th n w gn lk pu fa he nv of mp mi k nt fu re) := hD
        have hS := hS9
        refine lv_istore (lv' := [(5, .int 3), (0, .ref b), (1, .ref (a 0)), (2, .ref (a2 0)), (3, .ref o), (4, .int (nI r))]) hx hb dL_law_528 hl (by decide) rfl (fun ls hl => ?_)
        refine lv_aload_n hx hb dL_law_530 rfl (lv_at hl 3 rfl) ?_
        refine lv_aload_n hx hb dL_law_531 rfl (lv_at hl 1 rfl) ?_
        refine lv_iload hx hb dL_law_532 (lv_at hl 5 rfl) ?_
        refine lv_iconst (v := 1) hx hb dL_law_534 (by decide) ?_
        refine lv_iadd hx hb dL_law_535 ?_
        refine w_sld hx hb hX hbl hbA hS hL (r + 1) (nI_1 r) (by omega) hx1 dL_law_536 ?_
        refine lv_aload_n hx hb dL_law_537 rfl (lv_at hl 1 rfl) ?_
        refine lv_iload hx hb dL_law_538 (lv_at hl 5 rfl) ?_
        refine lv_iconst (v := 2) hx hb dL_law_540 (by decide) ?_
        refine lv_iadd hx hb dL_law_541 ?_
        refine w_sld hx hb hX hbl hbA hS hL (r + 2) (nI_add r 2) (by omega) hx2 dL_law_542 ?_
        have hPM := wj_Pr hP
        have hDM := wj_Dr hD
        have hF := wj_Fr hD hS hA
        refine va_calli (va_runV (As := [.int (nI i), .int y]) (rest := []) hC (c_X1_miss_c l H.size i hi hn y h1 h2 (fun q => hg.mp q ha)) (cwV 2 hC.2.2.2.2 (gi_V mM_L_125 mV_X1_miss mS_X1_miss mI_MissRegistryModel mC_X1_miss) rfl rfl rfl (by decide +kernel) ⟨Nat.le_of_ble_eq_true rfl, Nat.le_of_ble_eq_true rfl⟩) ⟨fun a1 U g mk q => ⟨q.1, q.2.1, ⟨q.2.2.1.1, va_K.moved (u := U) (U := U.calling g mk a1) (Vm.Alike.refl U.vm) q.2.2.1.2⟩, q.2.2.2⟩, va_recv hK2 hPM (ci := 1) (q0 := 0) rfl rfl, fun U hU hW => ⟨rfl, by rw [hU], ⟨by rw [hU]; exact hPM, va_K.moved hW.alike hK2⟩, hDM.weaken (fun _ _ _ _ => trivial)⟩⟩ rfl rfl hl.1 rfl (lv_room (Nat.le_of_ble_eq_true rfl)) dL_law_543 ⟨(show _ ≤ 601024 by omega), (show _ ≤ 7293034 by omega)⟩) hS (fun q _ h => hF q h) hF (fun r7 u7 t H locs ht hvm hw7 hB hz9 hk9 hS9 => ?_)
        obtain ⟨hP1, hK1, hD1⟩ := hB
        rw [ht] at hP1
        obtain ⟨hP, hD⟩ := wj_r hP hD hk9 hF hP1 hD1
        have hP : va_P D vwCl (oW o cJ g (xW z a lv lk pu fa he n nv du ta w mp mi k nt fu re) ++ mW z2 a2 3 n w gn lk pu fa he nv of mp mi k nt fu re) H := hP
        have hD : va_D (nw s) (oW o cJ g (xW z a lv lk pu fa he n nv du ta w mp mi k nt fu re) ++ mW z2 a2 3 n w gn lk pu fa he nv of mp mi k nt fu re) := hD
        have hS := hS9
        rw [show r7 = 0 from hw7]
        refine lv_istore (lv' := [(6, .int 0), (5, .int 3), (0, .ref b), (1, .ref (a 0)), (2, .ref (a2 0)), (3, .ref o), (4, .int (nI r))]) hx hb dL_law_546 hl (by decide) rfl (fun ls hl => ?_)
        refine lv_aload_n hx hb dL_law_548 rfl (lv_at hl 4 rfl) ?_
        refine vp_callSi (W.runV (As := []) (rest := []) hC (c_X1_thrown l) (cwV 0 hC.2.2.2.2 (gi_V mM_L_106 mV_X1_thrown mS_X1_thrown mI_MissRegistryModel mC_X1_thrown) rfl rfl rfl (by decide +kernel) ⟨Nat.le_of_ble_eq_true rfl, Nat.le_of_ble_eq_true rfl⟩) (mpre hK2 (wj_Pr hP)) rfl rfl hl.1 rfl (lv_room (Nat.le_of_ble_eq_true rfl)) dL_law_549 ⟨(show _ ≤ 601024 by omega), (show _ ≤ 7293034 by omega)⟩) (fun r8 hr8 => ?_)
        rw [show r8 = 3 from hr8]
        refine lv_iload hx hb dL_law_552 (lv_at hl 1 rfl) ?_
        refine lv_icmp_eq (tgt := 559) hx hb dL_law_554 (by decide) (fun c_554 => ?_) (fun c_554 => ?_)
        · refine lv_iload hx hb dL_law_559 (lv_at hl 1 rfl) ?_
          refine lv_if_ne (tgt := 576) hx hb dL_law_561 (by decide) (fun c_561 => ?_) (fun c_561 => ?_)
          · refine lv_goto (tgt := 1948) hx hb dL_law_576 (by decide) ?_
            exact kk _ _ _ _ _ ⟨lv, lk, pu, fa, he, n, nv, du, ta, w, mp, mi, k, nt, fu, re, gn, of, 3, g, hI, hP, hD, hS⟩ (by omega) (by omega) (lv_sub hl [2, 3, 4, 5, 6] rfl)
          · exact absurd c_561 (by decide)
        · exact absurd rfl c_554
      · by_cases hkn : k < 60
        · obtain ⟨v, hv, ev⟩ := nI_of2 (x := y) (M := 60) (n := 60) rfl (nlt_0 h1) h2
          subst ev
          have hv1 : 1 ≤ v := nlt_1 (by omega) h1
          obtain ⟨y9, hy9, emx, emm⟩ := e_mid (ta := ta) (k := v) hI.2.1.2.iff hI.2.2.2.2.1 hw hv1 hv
          have emid : mq_mid of nv (nI v) w = sp_mid du nv (nI v) ta w := emm.trans emx.symm
          have el1 : lv i = 1 := hI.2.1.1.one hi ha
          refine lv_aload_n hx hb dL_law_511 rfl (lv_at hl 1 rfl) ?_
          refine lv_aload_n hx hb dL_law_512 rfl (lv_at hl 0 rfl) ?_
          refine lv_iload hx hb dL_law_513 (lv_at hl 4 rfl) ?_
          refine lv_iconst (v := 1) hx hb dL_law_515 (by decide) ?_
          refine lv_iadd hx hb dL_law_516 ?_
          refine w_sld hx hb hX hbl hbA hS hL (r + 1) (nI_1 r) (by omega) hx1 dL_law_517 ?_
          refine lv_aload_n hx hb dL_law_518 rfl (lv_at hl 0 rfl) ?_
          refine lv_iload hx hb dL_law_519 (lv_at hl 4 rfl) ?_
          refine lv_iconst (v := 2) hx hb dL_law_521 (by decide) ?_
          refine lv_iadd hx hb dL_law_522 ?_
          refine w_sld hx hb hX hbl hbA hS hL (r + 2) (nI_add r 2) (by omega) hx2 dL_law_523 ?_
          refine lv_aload_n hx hb dL_law_524 rfl (lv_at hl 3 rfl) ?_
          have hPO := wj_Pl hP
          have hDO := wj_Dl hD
          have hF := wj_Fl hD hS hA
          refine va_calli (vx_runSW (As := [.ref (a 0), .int (nI i), .int (nI v), .ref o]) (rest := []) hC (w_miss l H.size i (nI v) hi hn hw hkn h1 h2 ha) (vx_cwSW 4 hC.2.2.2.2 (gi_S mM_L_123 mT_L_miss mI_MissRegistryLaw mC_L_miss) rfl rfl rfl (by decide +kernel) ⟨Nat.le_of_ble_eq_true rfl, Nat.le_of_ble_eq_true rfl⟩) ⟨fun a1 U g mk q => ⟨q.1, q.2.1, q.2.2.1, va_K.moved (u := U) (U := U.calling g mk a1) (Vm.Alike.refl U.vm) q.2.2.2.1, va_K.moved (u := U) (U := U.calling g mk a1) (Vm.Alike.refl U.vm) q.2.2.2.2.1, q.2.2.2.2.2⟩, fun U hU hW => ⟨rfl, by rw [hU], by rw [hU]; exact hPO, va_K.moved hW.alike hK, va_K.moved hW.alike hJ, hDO.weaken (fun _ _ _ _ => trivial)⟩⟩ rfl rfl hl.1 rfl (lv_room (Nat.le_of_ble_eq_true rfl)) dL_law_525 ⟨(show _ ≤ 601024 by omega), (show _ ≤ 7293034 by omega)⟩) hS (fun q _ h => hF q h) hF (fun r9 u9 t H locs ht hvm hw9 hB hz9 hk9 hS9 => ?_)
          obtain ⟨hP1, hD1⟩ := hB
          rw [ht] at hP1
          obtain ⟨hP, hD⟩ := wj_l hP hD hk9 hF hP1 hD1
          obtain ⟨hr9, hu9⟩ := hw9
          rw [hr9]
          have hP : va_P D vwCl (oW o cJ u9 (xW z a lv (upd lk i (imax 0 (lk i - (60 - (nI v)) / 10))) (if sp_uses (lv i) (fa i) (sp_mid du nv (nI v) ta w) = 0 then pu else upd pu i (pu i + sp_coins (lv i) (fa i) (lk i) fu (sp_mid du nv (nI v) ta w))) (if sp_uses (lv i) (fa i) (sp_mid du nv (nI v) ta w) = 0 then fa else upd fa i (fa i - 1)) he n (sp_fr du (sp_loss (nI v)) nv w) du (sp_tarr du nv (nI v) ta w) w (upd mp k (nI i)) (upd mi k (sp_mid du nv (nI v) ta w)) (k + 1) nt (if sp_uses (lv i) (fa i) (sp_mid du nv (nI v) ta w) = 0 then fu else fu - sp_coins (lv i) (fa i) (lk i) fu (sp_mid du nv (nI v) ta w)) (if sp_uses (lv i) (fa i) (sp_mid du nv (nI v) ta w) = 0 then re else re + sp_coins (lv i) (fa i) (lk i) fu (sp_mid du nv (nI v) ta w))) ++ mW z2 a2 th n w gn lk pu fa he nv of mp mi k nt fu re) H := hP
          have hD : va_D (nw s) (oW o cJ u9 (xW z a lv (upd lk i (imax 0 (lk i - (60 - (nI v)) / 10))) (if sp_uses (lv i) (fa i) (sp_mid du nv (nI v) ta w) = 0 then pu else upd pu i (pu i + sp_coins (lv i) (fa i) (lk i) fu (sp_mid du nv (nI v) ta w))) (if sp_uses (lv i) (fa i) (sp_mid du nv (nI v) ta w) = 0 then fa else upd fa i (fa i - 1)) he n (sp_fr du (sp_loss (nI v)) nv w) du (sp_tarr du nv (nI v) ta w) w (upd mp k (nI i)) (upd mi k (sp_mid du nv (nI v) ta w)) (k + 1) nt (if sp_uses (lv i) (fa i) (sp_mid du nv (nI v) ta w) = 0 then fu else fu - sp_coins (lv i) (fa i) (lk i) fu (sp_mid du nv (nI v) ta w)) (if sp_uses (lv i) (fa i) (sp_mid du nv (nI v) ta w) = 0 then re else re + sp_coins (lv i) (fa i) (lk i) fu (sp_mid du nv (nI v) ta w))) ++ mW z2 a2 th n w gn lk pu fa he nv of mp mi k nt fu re) := hD
          have hS := hS9
          refine lv_istore (lv' := [(5, .int 0), (0, .ref b), (1, .ref (a 0)), (2, .ref (a2 0)), (3, .ref o), (4, .int (nI r))]) hx hb dL_law_528 hl (by decide) rfl (fun ls hl => ?_)
          refine lv_aload_n hx hb dL_law_530 rfl (lv_at hl 3 rfl) ?_
          refine lv_aload_n hx hb dL_law_531 rfl (lv_at hl 1 rfl) ?_
          refine lv_iload hx hb dL_law_532 (lv_at hl 5 rfl) ?_
          refine lv_iconst (v := 1) hx hb dL_law_534 (by decide) ?_
          refine lv_iadd hx hb dL_law_535 ?_
          refine w_sld hx hb hX hbl hbA hS hL (r + 1) (nI_1 r) (by omega) hx1 dL_law_536 ?_
          refine lv_aload_n hx hb dL_law_537 rfl (lv_at hl 1 rfl) ?_
          refine lv_iload hx hb dL_law_538 (lv_at hl 5 rfl) ?_
          refine lv_iconst (v := 2) hx hb dL_law_540 (by decide) ?_
          refine lv_iadd hx hb dL_law_541 ?_
          refine w_sld hx hb hX hbl hbA hS hL (r + 2) (nI_add r 2) (by omega) hx2 dL_law_542 ?_
          have hPM := wj_Pr hP
          have hDM := wj_Dr hD
          have hF := wj_Fr hD hS hA
          refine va_calli (va_runV (As := [.int (nI i), .int (nI v)]) (rest := []) hC (c_X1_miss l H.size i hi hn (nI v) hw hkn h1 h2 (hg.mpr ha)) (cwV 2 hC.2.2.2.2 (gi_V mM_L_125 mV_X1_miss mS_X1_miss mI_MissRegistryModel mC_X1_miss) rfl rfl rfl (by decide +kernel) ⟨Nat.le_of_ble_eq_true rfl, Nat.le_of_ble_eq_true rfl⟩) ⟨fun a1 U g mk q => ⟨q.1, q.2.1, ⟨q.2.2.1.1, va_K.moved (u := U) (U := U.calling g mk a1) (Vm.Alike.refl U.vm) q.2.2.1.2⟩, q.2.2.2⟩, va_recv hK2 hPM (ci := 1) (q0 := 0) rfl rfl, fun U hU hW => ⟨rfl, by rw [hU], ⟨by rw [hU]; exact hPM, va_K.moved hW.alike hK2⟩, hDM.weaken (fun _ _ _ _ => trivial)⟩⟩ rfl rfl hl.1 rfl (lv_room (Nat.le_of_ble_eq_true rfl)) dL_law_543 ⟨(show _ ≤ 601024 by omega), (show _ ≤ 7293034 by omega)⟩) hS (fun q _ h => hF q h) hF (fun r7 u7 t H locs ht hvm hw7 hB hz9 hk9 hS9 => ?_)
          obtain ⟨hP1, hK1, hD1⟩ := hB
          rw [ht] at hP1
          obtain ⟨hP, hD⟩ := wj_r hP hD hk9 hF hP1 hD1
          have hP : va_P D vwCl (oW o cJ u9 (xW z a lv (upd lk i (imax 0 (lk i - (60 - (nI v)) / 10))) (if sp_uses (lv i) (fa i) (sp_mid du nv (nI v) ta w) = 0 then pu else upd pu i (pu i + sp_coins (lv i) (fa i) (lk i) fu (sp_mid du nv (nI v) ta w))) (if sp_uses (lv i) (fa i) (sp_mid du nv (nI v) ta w) = 0 then fa else upd fa i (fa i - 1)) he n (sp_fr du (sp_loss (nI v)) nv w) du (sp_tarr du nv (nI v) ta w) w (upd mp k (nI i)) (upd mi k (sp_mid du nv (nI v) ta w)) (k + 1) nt (if sp_uses (lv i) (fa i) (sp_mid du nv (nI v) ta w) = 0 then fu else fu - sp_coins (lv i) (fa i) (lk i) fu (sp_mid du nv (nI v) ta w)) (if sp_uses (lv i) (fa i) (sp_mid du nv (nI v) ta w) = 0 then re else re + sp_coins (lv i) (fa i) (lk i) fu (sp_mid du nv (nI v) ta w))) ++ mW z2 a2 0 n w gn (upd lk i (imax 0 (lk i - (60 - (nI v)) / 10))) (if sp_uses 1 (fa i) (mq_mid of nv (nI v) w) = 0 then pu else upd pu i (pu i + sp_coins 1 (fa i) (lk i) fu (mq_mid of nv (nI v) w))) (if sp_uses 1 (fa i) (mq_mid of nv (nI v) w) = 0 then fa else upd fa i (fa i - 1)) he (mq_fr of (sp_loss (nI v)) nv w) of (upd mp k (nI i)) (upd mi k (mq_mid of nv (nI v) w)) (k + 1) nt (if sp_uses 1 (fa i) (mq_mid of nv (nI v) w) = 0 then fu else fu - sp_coins 1 (fa i) (lk i) fu (mq_mid of nv (nI v) w)) (if sp_uses 1 (fa i) (mq_mid of nv (nI v) w) = 0 then re else re + sp_coins 1 (fa i) (lk i) fu (mq_mid of nv (nI v) w))) H := hP
          have hD : va_D (nw s) (oW o cJ u9 (xW z a lv (upd lk i (imax 0 (lk i - (60 - (nI v)) / 10))) (if sp_uses (lv i) (fa i) (sp_mid du nv (nI v) ta w) = 0 then pu else upd pu i (pu i + sp_coins (lv i) (fa i) (lk i) fu (sp_mid du nv (nI v) ta w))) (if sp_uses (lv i) (fa i) (sp_mid du nv (nI v) ta w) = 0 then fa else upd fa i (fa i - 1)) he n (sp_fr du (sp_loss (nI v)) nv w) du (sp_tarr du nv (nI v) ta w) w (upd mp k (nI i)) (upd mi k (sp_mid du nv (nI v) ta w)) (k + 1) nt (if sp_uses (lv i) (fa i) (sp_mid du nv (nI v) ta w) = 0 then fu else fu - sp_coins (lv i) (fa i) (lk i) fu (sp_mid du nv (nI v) ta w)) (if sp_uses (lv i) (fa i) (sp_mid du nv (nI v) ta w) = 0 then re else re + sp_coins (lv i) (fa i) (lk i) fu (sp_mid du nv (nI v) ta w))) ++ mW z2 a2 0 n w gn (upd lk i (imax 0 (lk i - (60 - (nI v)) / 10))) (if sp_uses 1 (fa i) (mq_mid of nv (nI v) w) = 0 then pu else upd pu i (pu i + sp_coins 1 (fa i) (lk i) fu (mq_mid of nv (nI v) w))) (if sp_uses 1 (fa i) (mq_mid of nv (nI v) w) = 0 then fa else upd fa i (fa i - 1)) he (mq_fr of (sp_loss (nI v)) nv w) of (upd mp k (nI i)) (upd mi k (mq_mid of nv (nI v) w)) (k + 1) nt (if sp_uses 1 (fa i) (mq_mid of nv (nI v) w) = 0 then fu else fu - sp_coins 1 (fa i) (lk i) fu (mq_mid of nv (nI v) w)) (if sp_uses 1 (fa i) (mq_mid of nv (nI v) w) = 0 then re else re + sp_coins 1 (fa i) (lk i) fu (mq_mid of nv (nI v) w))) := hD
          have hS := hS9
          have eM : (mW z2 a2 0 n w gn (upd lk i (imax 0 (lk i - (60 - (nI v)) / 10))) (if sp_uses 1 (fa i) (mq_mid of nv (nI v) w) = 0 then pu else upd pu i (pu i + sp_coins 1 (fa i) (lk i) fu (mq_mid of nv (nI v) w))) (if sp_uses 1 (fa i) (mq_mid of nv (nI v) w) = 0 then fa else upd fa i (fa i - 1)) he (mq_fr of (sp_loss (nI v)) nv w) of (upd mp k (nI i)) (upd mi k (mq_mid of nv (nI v) w)) (k + 1) nt (if sp_uses 1 (fa i) (mq_mid of nv (nI v) w) = 0 then fu else fu - sp_coins 1 (fa i) (lk i) fu (mq_mid of nv (nI v) w)) (if sp_uses 1 (fa i) (mq_mid of nv (nI v) w) = 0 then re else re + sp_coins 1 (fa i) (lk i) fu (mq_mid of nv (nI v) w))) = mW z2 a2 0 n w gn (upd lk i (imax 0 (lk i - (60 - (nI v)) / 10))) (if sp_uses (lv i) (fa i) (sp_mid du nv (nI v) ta w) = 0 then pu else upd pu i (pu i + sp_coins (lv i) (fa i) (lk i) fu (sp_mid du nv (nI v) ta w))) (if sp_uses (lv i) (fa i) (sp_mid du nv (nI v) ta w) = 0 then fa else upd fa i (fa i - 1)) he (sp_fr du (sp_loss (nI v)) nv w) of (upd mp k (nI i)) (upd mi k (sp_mid du nv (nI v) ta w)) (k + 1) nt (if sp_uses (lv i) (fa i) (sp_mid du nv (nI v) ta w) = 0 then fu else fu - sp_coins (lv i) (fa i) (lk i) fu (sp_mid du nv (nI v) ta w)) (if sp_uses (lv i) (fa i) (sp_mid du nv (nI v) ta w) = 0 then re else re + sp_coins (lv i) (fa i) (lk i) fu (sp_mid du nv (nI v) ta w)) := by rw [emid, e_fr hI.2.1.2.iff, el1]
          rw [eM] at hP hD
          rw [show r7 = mq_mid of nv (nI v) w from hw7]
          refine lv_istore (lv' := [(6, .int (mq_mid of nv (nI v) w)), (5, .int 0), (0, .ref b), (1, .ref (a 0)), (2, .ref (a2 0)), (3, .ref o), (4, .int (nI r))]) hx hb dL_law_546 hl (by decide) rfl (fun ls hl => ?_)
          refine lv_aload_n hx hb dL_law_548 rfl (lv_at hl 4 rfl) ?_
          refine vp_callSi (W.runV (As := []) (rest := []) hC (c_X1_thrown l) (cwV 0 hC.2.2.2.2 (gi_V mM_L_106 mV_X1_thrown mS_X1_thrown mI_MissRegistryModel mC_X1_thrown) rfl rfl rfl (by decide +kernel) ⟨Nat.le_of_ble_eq_true rfl, Nat.le_of_ble_eq_true rfl⟩) (mpre hK2 (wj_Pr hP)) rfl rfl hl.1 rfl (lv_room (Nat.le_of_ble_eq_true rfl)) dL_law_549 ⟨(show _ ≤ 601024 by omega), (show _ ≤ 7293034 by omega)⟩) (fun r8 hr8 => ?_)
          rw [show r8 = 0 from hr8]
          refine lv_iload hx hb dL_law_552 (lv_at hl 1 rfl) ?_
          refine lv_icmp_eq (tgt := 559) hx hb dL_law_554 (by decide) (fun c_554 => ?_) (fun c_554 => ?_)
          · refine lv_iload hx hb dL_law_559 (lv_at hl 1 rfl) ?_
            refine lv_if_ne (tgt := 576) hx hb dL_law_561 (by decide) (fun c_561 => ?_) (fun c_561 => ?_)
            · exact absurd rfl c_561
            · refine lv_aload_n hx hb dL_law_564 rfl (lv_at hl 5 rfl) ?_
              refine lv_iconst (v := 0) hx hb dL_law_565 (by decide) ?_
              refine w_lald hC hJ (wj_Pl hP) dL_law_566 ?_
              refine lv_iload hx hb dL_law_567 (lv_at hl 0 rfl) ?_
              refine lv_i2l hx hb dL_law_569 rfl ?_
              refine w_lcmp hx hb dL_law_570 (hu9.trans (by rw [emid])) ?_
              refine lv_if_eq (tgt := 576) hx hb dL_law_571 (by decide) (fun c_571 => ?_) (fun c_571 => ?_)
              · refine lv_goto (tgt := 1948) hx hb dL_law_576 (by decide) ?_
                exact kk _ _ _ _ _ ⟨lv, (upd lk i (imax 0 (lk i - (60 - (nI v)) / 10))), (if sp_uses (lv i) (fa i) (sp_mid du nv (nI v) ta w) = 0 then pu else upd pu i (pu i + sp_coins (lv i) (fa i) (lk i) fu (sp_mid du nv (nI v) ta w))), (if sp_uses (lv i) (fa i) (sp_mid du nv (nI v) ta w) = 0 then fa else upd fa i (fa i - 1)), he, n, (sp_fr du (sp_loss (nI v)) nv w), du, (sp_tarr du nv (nI v) ta w), w, (upd mp k (nI i)), (upd mi k (sp_mid du nv (nI v) ta w)), (k + 1), nt, (if sp_uses (lv i) (fa i) (sp_mid du nv (nI v) ta w) = 0 then fu else fu - sp_coins (lv i) (fa i) (lk i) fu (sp_mid du nv (nI v) ta w)), (if sp_uses (lv i) (fa i) (sp_mid du nv (nI v) ta w) = 0 then re else re + sp_coins (lv i) (fa i) (lk i) fu (sp_mid du nv (nI v) ta w)), gn, of, 0, u9, (iv_miss hI hi hv1 hv hkn (fun u => uses_pos u)), hP, hD, hS⟩ (by omega) (by omega) (lv_sub hl [2, 3, 4, 5, 6] rfl)
              · exact absurd rfl c_571
          · exact absurd rfl c_554
        · refine lv_aload_n hx hb dL_law_511 rfl (lv_at hl 1 rfl) ?_
          refine lv_aload_n hx hb dL_law_512 rfl (lv_at hl 0 rfl) ?_
          refine lv_iload hx hb dL_law_513 (lv_at hl 4 rfl) ?_
          refine lv_iconst (v := 1) hx hb dL_law_515 (by decide) ?_
          refine lv_iadd hx hb dL_law_516 ?_
          refine w_sld hx hb hX hbl hbA hS hL (r + 1) (nI_1 r) (by omega) hx1 dL_law_517 ?_
          refine lv_aload_n hx hb dL_law_518 rfl (lv_at hl 0 rfl) ?_
          refine lv_iload hx hb dL_law_519 (lv_at hl 4 rfl) ?_
          refine lv_iconst (v := 2) hx hb dL_law_521 (by decide) ?_
          refine lv_iadd hx hb dL_law_522 ?_
          refine w_sld hx hb hX hbl hbA hS hL (r + 2) (nI_add r 2) (by omega) hx2 dL_law_523 ?_
          refine lv_aload_n hx hb dL_law_524 rfl (lv_at hl 3 rfl) ?_
          have hPO := wj_Pl hP
          have hDO := wj_Dl hD
          have hF := wj_Fl hD hS hA
          refine va_calli (vx_runSW (As := [.ref (a 0), .int (nI i), .int y, .ref o]) (rest := []) hC (w_miss_d l hst H.size i hi hn y h1 h2 ha (by omega)) (vx_cwSW 4 hC.2.2.2.2 (gi_S mM_L_123 mT_L_miss mI_MissRegistryLaw mC_L_miss) rfl rfl rfl (by decide +kernel) ⟨Nat.le_of_ble_eq_true rfl, Nat.le_of_ble_eq_true rfl⟩) ⟨fun a1 U g mk q => ⟨q.1, q.2.1, q.2.2.1, va_K.moved (u := U) (U := U.calling g mk a1) (Vm.Alike.refl U.vm) q.2.2.2.1, va_K.moved (u := U) (U := U.calling g mk a1) (Vm.Alike.refl U.vm) q.2.2.2.2.1, ⟨q.2.2.2.2.2.1, tH.same (u := U) (U := U.calling g mk a1) rfl q.2.2.2.2.2.2.1, tN.moved (u := U) (U := U.calling g mk a1) (Vm.Alike.refl U.vm) q.2.2.2.2.2.2.2⟩⟩, fun U hU hW => ⟨rfl, by rw [hU], by rw [hU]; exact hPO, va_K.moved hW.alike hK, va_K.moved hW.alike hJ, hDO.weaken (fun _ _ _ _ => trivial), by rw [hU]; exact (hT.at hS).warm hW, hN.moved hW.alike⟩⟩ rfl rfl hl.1 rfl (lv_room (Nat.le_of_ble_eq_true rfl)) dL_law_525 ⟨(show _ ≤ 601024 by omega), (show _ ≤ 7293034 by omega)⟩) hS (fun q _ h => hF q h) hF (fun r9 u9 t H locs ht hvm hw9 hB hz9 hk9 hS9 => ?_)
          obtain ⟨hP1, hD1⟩ := hB
          rw [ht] at hP1
          obtain ⟨hP, hD⟩ := wj_l hP hD hk9 hF hP1 hD1
          rw [show r9 = 3 from hw9]
          have hP : va_P D vwCl (oW o cJ g (xW z a lv lk pu fa he n nv du ta w mp mi k nt fu re) ++ mW z2 a2 th n w gn lk pu fa he nv of mp mi k nt fu re) H := hP
          have hD : va_D (nw s) (oW o cJ g (xW z a lv lk pu fa he n nv du ta w mp mi k nt fu re) ++ mW z2 a2 th n w gn lk pu fa he nv of mp mi k nt fu re) := hD
          have hS := hS9
          refine lv_istore (lv' := [(5, .int 3), (0, .ref b), (1, .ref (a 0)), (2, .ref (a2 0)), (3, .ref o), (4, .int (nI r))]) hx hb dL_law_528 hl (by decide) rfl (fun ls hl => ?_)
          refine lv_aload_n hx hb dL_law_530 rfl (lv_at hl 3 rfl) ?_
          refine lv_aload_n hx hb dL_law_531 rfl (lv_at hl 1 rfl) ?_
          refine lv_iload hx hb dL_law_532 (lv_at hl 5 rfl) ?_
          refine lv_iconst (v := 1) hx hb dL_law_534 (by decide) ?_
          refine lv_iadd hx hb dL_law_535 ?_
          refine w_sld hx hb hX hbl hbA hS hL (r + 1) (nI_1 r) (by omega) hx1 dL_law_536 ?_
          refine lv_aload_n hx hb dL_law_537 rfl (lv_at hl 1 rfl) ?_
          refine lv_iload hx hb dL_law_538 (lv_at hl 5 rfl) ?_
          refine lv_iconst (v := 2) hx hb dL_law_540 (by decide) ?_
          refine lv_iadd hx hb dL_law_541 ?_
          refine w_sld hx hb hX hbl hbA hS hL (r + 2) (nI_add r 2) (by omega) hx2 dL_law_542 ?_
          have hPM := wj_Pr hP
          have hDM := wj_Dr hD
          have hF := wj_Fr hD hS hA
          refine va_calli (va_runV (As := [.int (nI i), .int y]) (rest := []) hC (c_X1_miss_d l H.size i hi hn y h1 h2 (hg.mpr ha) (by omega)) (cwV 2 hC.2.2.2.2 (gi_V mM_L_125 mV_X1_miss mS_X1_miss mI_MissRegistryModel mC_X1_miss) rfl rfl rfl (by decide +kernel) ⟨Nat.le_of_ble_eq_true rfl, Nat.le_of_ble_eq_true rfl⟩) ⟨fun a1 U g mk q => ⟨q.1, q.2.1, ⟨q.2.2.1.1, va_K.moved (u := U) (U := U.calling g mk a1) (Vm.Alike.refl U.vm) q.2.2.1.2⟩, q.2.2.2⟩, va_recv hK2 hPM (ci := 1) (q0 := 0) rfl rfl, fun U hU hW => ⟨rfl, by rw [hU], ⟨by rw [hU]; exact hPM, va_K.moved hW.alike hK2⟩, hDM.weaken (fun _ _ _ _ => trivial)⟩⟩ rfl rfl hl.1 rfl (lv_room (Nat.le_of_ble_eq_true rfl)) dL_law_543 ⟨(show _ ≤ 601024 by omega), (show _ ≤ 7293034 by omega)⟩) hS (fun q _ h => hF q h) hF (fun r7 u7 t H locs ht hvm hw7 hB hz9 hk9 hS9 => ?_)
          obtain ⟨hP1, hK1, hD1⟩ := hB
          rw [ht] at hP1
          obtain ⟨hP, hD⟩ := wj_r hP hD hk9 hF hP1 hD1
          have hP : va_P D vwCl (oW o cJ g (xW z a lv lk pu fa he n nv du ta w mp mi k nt fu re) ++ mW z2 a2 3 n w gn lk pu fa he nv of mp mi k nt fu re) H := hP
          have hD : va_D (nw s) (oW o cJ g (xW z a lv lk pu fa he n nv du ta w mp mi k nt fu re) ++ mW z2 a2 3 n w gn lk pu fa he nv of mp mi k nt fu re) := hD
          have hS := hS9
          rw [show r7 = 0 from hw7]
          refine lv_istore (lv' := [(6, .int 0), (5, .int 3), (0, .ref b), (1, .ref (a 0)), (2, .ref (a2 0)), (3, .ref o), (4, .int (nI r))]) hx hb dL_law_546 hl (by decide) rfl (fun ls hl => ?_)
          refine lv_aload_n hx hb dL_law_548 rfl (lv_at hl 4 rfl) ?_
          refine vp_callSi (W.runV (As := []) (rest := []) hC (c_X1_thrown l) (cwV 0 hC.2.2.2.2 (gi_V mM_L_106 mV_X1_thrown mS_X1_thrown mI_MissRegistryModel mC_X1_thrown) rfl rfl rfl (by decide +kernel) ⟨Nat.le_of_ble_eq_true rfl, Nat.le_of_ble_eq_true rfl⟩) (mpre hK2 (wj_Pr hP)) rfl rfl hl.1 rfl (lv_room (Nat.le_of_ble_eq_true rfl)) dL_law_549 ⟨(show _ ≤ 601024 by omega), (show _ ≤ 7293034 by omega)⟩) (fun r8 hr8 => ?_)
          rw [show r8 = 3 from hr8]
          refine lv_iload hx hb dL_law_552 (lv_at hl 1 rfl) ?_
          refine lv_icmp_eq (tgt := 559) hx hb dL_law_554 (by decide) (fun c_554 => ?_) (fun c_554 => ?_)
          · refine lv_iload hx hb dL_law_559 (lv_at hl 1 rfl) ?_
            refine lv_if_ne (tgt := 576) hx hb dL_law_561 (by decide) (fun c_561 => ?_) (fun c_561 => ?_)
            · refine lv_goto (tgt := 1948) hx hb dL_law_576 (by decide) ?_
              exact kk _ _ _ _ _ ⟨lv, lk, pu, fa, he, n, nv, du, ta, w, mp, mi, k, nt, fu, re, gn, of, 3, g, hI, hP, hD, hS⟩ (by omega) (by omega) (lv_sub hl [2, 3, 4, 5, 6] rfl)
            · exact absurd c_561 (by decide)
          · exact absurd rfl c_554
set_option maxHeartbeats 8000000 in
set_option maxRecDepth 100000 in
theorem lc_6 {p : Program} {l : Launch} {e : Env} {s : State} {m : MethodId} {below : List Frame} {meth : Method} {c : Code} {H : Heap} {locs : List Loc} {cells slots : Nat} {Q : State → Prop} {ls : Array Slot} {b L : Nat} {xs : Nat → Int32} {D : va_G} {z z2 : ClassId × ClassId} {cJ : ClassId} {q9 t9 a a2 : Nat → Nat} {o : Nat} {lv lk pu fa he : Nat → Int32} {n : Nat} {nv du ta : Nat → Int32} {w : Nat} {mp mi : Nat → Int32} {k : Nat} {nt fu re : Int32} {gn of : Nat → Int32} {th : Int32} {g : Nat → Int64} {r : Nat} (X : LX p l s m c b L xs D z z2 cJ q9 t9) (hI : IV lv lk fa he n nv du w k gn of) (hP : va_P D vwCl (oW o cJ g (xW z a lv lk pu fa he n nv du ta w mp mi k nt fu re) ++ mW z2 a2 th n w gn lk pu fa he nv of mp mi k nt fu re) H) (hD : va_D (nw s) (oW o cJ g (xW z a lv lk pu fa he n nv du ta w mp mi k nt fu re) ++ mW z2 a2 th n w gn lk pu fa he nv of mp mi k nt fu re)) (hS : va_S (nw s) s.heap H locs) (hcl : cells + 12 ≤ 601024) (hsl : slots + 100 ≤ 7293034) (hr : r + 2 < L) (hl : lv_has ls 9 [(0, .ref b), (1, .ref (a 0)), (2, .ref (a2 0)), (3, .ref o), (4, .int (nI r))]) (kk : ∀ (H1 : Heap) (locs1 : List Loc) (c1 s1 : Nat) (ls1 : Array Slot), Jn D z z2 cJ a a2 o s H1 locs1 → c1 ≤ cells + 11 → s1 ≤ slots + 94 → lv_has ls1 9 [(0, .ref b), (1, .ref (a 0)), (2, .ref (a2 0)), (3, .ref o), (4, .int (nI r))] → W p l e room_1 s m #[.ref b] below meth c H1 locs1 c1 s1 Q (F0 m 1948 ls1 [])) : W p l e room_1 s m #[.ref b] below meth c H locs cells slots Q (F0 m 579 ls []) := by
  obtain ⟨hC, hst, ⟨hX, hbl, hL⟩, ⟨hK, hK2, hJ⟩, hT, hN, hE⟩ := X
  have hx := hC.1
  have hb := hC.2.1
  have hA : ∀ q : Nat, s.heap.size ≤ q → nw s q := fun q h => h
  have hbA : ¬ nw s b := Nat.not_le.mpr hbl
  have hn := hI.1.1
  have hw := hI.1.2.1
  have hk := hI.1.2.2
  obtain ⟨x, hx1⟩ : ∃ x : Int32, xs (r + 1) = x := ⟨_, rfl⟩
  obtain ⟨y, hx2⟩ : ∃ y : Int32, xs (r + 2) = y := ⟨_, rfl⟩
  by_cases hp : sp_isP n x = 0
  · refine lv_aload_n hx hb dL_law_579 rfl (lv_at hl 1 rfl) ?_
    refine lv_aload_n hx hb dL_law_580 rfl (lv_at hl 0 rfl) ?_
    refine lv_iload hx hb dL_law_581 (lv_at hl 4 rfl) ?_
    refine lv_iconst (v := 1) hx hb dL_law_583 (by decide) ?_
    refine lv_iadd hx hb dL_law_584 ?_
    refine w_sld hx hb hX hbl hbA hS hL (r + 1) (nI_1 r) (by omega) hx1 dL_law_585 ?_
    refine lv_aload_n hx hb dL_law_586 rfl (lv_at hl 3 rfl) ?_
    have hPO := wj_Pl hP
    have hDO := wj_Dl hD
    have hF := wj_Fl hD hS hA
    refine va_calli (vx_runSW (As := [.ref (a 0), .int x, .ref o]) (rest := []) hC (w_hit_a l hst H.size x hp) (vx_cwSW 3 hC.2.2.2.2 (gi_S mM_L_126 mT_L_hit mI_MissRegistryLaw mC_L_hit) rfl rfl rfl (by decide +kernel) ⟨Nat.le_of_ble_eq_true rfl, Nat.le_of_ble_eq_true rfl⟩) ⟨fun a1 U g mk q => ⟨q.1, q.2.1, q.2.2.1, va_K.moved (u := U) (U := U.calling g mk a1) (Vm.Alike.refl U.vm) q.2.2.2.1, va_K.moved (u := U) (U := U.calling g mk a1) (Vm.Alike.refl U.vm) q.2.2.2.2.1, ⟨q.2.2.2.2.2.1, tH.same (u := U) (U := U.calling g mk a1) rfl q.2.2.2.2.2.2.1, tN.moved (u := U) (U := U.calling g mk a1) (Vm.Alike.refl U.vm) q.2.2.2.2.2.2.2⟩⟩, fun U hU hW => ⟨rfl, by rw [hU], by rw [hU]; exact hPO, va_K.moved hW.alike hK, va_K.moved hW.alike hJ, hDO.weaken (fun _ _ _ _ => trivial), by rw [hU]; exact (hT.at hS).warm hW, hN.moved hW.alike⟩⟩ rfl rfl hl.1 rfl (lv_room (Nat.le_of_ble_eq_true rfl)) dL_law_587 ⟨(show _ ≤ 601024 by omega), (show _ ≤ 7293034 by omega)⟩) hS (fun q _ h => hF q h) hF (fun r9 u9 t H locs ht hvm hw9 hB hz9 hk9 hS9 => ?_)
    obtain ⟨hP1, hD1⟩ := hB
    rw [ht] at hP1
    obtain ⟨hP, hD⟩ := wj_l hP hD hk9 hF hP1 hD1
    rw [show r9 = 1 from hw9]
    have hP : va_P D vwCl (oW o cJ g (xW z a lv lk pu fa he n nv du ta w mp mi k nt fu re) ++ mW z2 a2 th n w gn lk pu fa he nv of mp mi k nt fu re) H := hP
    have hD : va_D (nw s) (oW o cJ g (xW z a lv lk pu fa he n nv du ta w mp mi k nt fu re) ++ mW z2 a2 th n w gn lk pu fa he nv of mp mi k nt fu re) := hD
    have hS := hS9
    refine lv_istore (lv' := [(5, .int 1), (0, .ref b), (1, .ref (a 0)), (2, .ref (a2 0)), (3, .ref o), (4, .int (nI r))]) hx hb dL_law_590 hl (by decide) rfl (fun ls hl => ?_)
    refine lv_aload_n hx hb dL_law_592 rfl (lv_at hl 3 rfl) ?_
    refine lv_aload_n hx hb dL_law_593 rfl (lv_at hl 1 rfl) ?_
    refine lv_iload hx hb dL_law_594 (lv_at hl 5 rfl) ?_
    refine lv_iconst (v := 1) hx hb dL_law_596 (by decide) ?_
    refine lv_iadd hx hb dL_law_597 ?_
    refine w_sld hx hb hX hbl hbA hS hL (r + 1) (nI_1 r) (by omega) hx1 dL_law_598 ?_
    have hPM := wj_Pr hP
    have hDM := wj_Dr hD
    have hF := wj_Fr hD hS hA
    refine va_calli (va_runV (As := [.int x]) (rest := []) hC (c_X1_hit_a l H.size x hn hp) (cwV 1 hC.2.2.2.2 (gi_V mM_L_128 mV_X1_hit mS_X1_hit mI_MissRegistryModel mC_X1_hit) rfl rfl rfl (by decide +kernel) ⟨Nat.le_of_ble_eq_true rfl, Nat.le_of_ble_eq_true rfl⟩) ⟨fun a1 U g mk q => ⟨q.1, q.2.1, ⟨q.2.2.1.1, va_K.moved (u := U) (U := U.calling g mk a1) (Vm.Alike.refl U.vm) q.2.2.1.2⟩, q.2.2.2⟩, va_recv hK2 hPM (ci := 1) (q0 := 0) rfl rfl, fun U hU hW => ⟨rfl, by rw [hU], ⟨by rw [hU]; exact hPM, va_K.moved hW.alike hK2⟩, hDM.weaken (fun _ _ _ _ => trivial)⟩⟩ rfl rfl hl.1 rfl (lv_room (Nat.le_of_ble_eq_true rfl)) dL_law_599 ⟨(show _ ≤ 601024 by omega), (show _ ≤ 7293034 by omega)⟩) hS (fun q _ h => hF q h) hF (fun r7 u7 t H locs ht hvm hw7 hB hz9 hk9 hS9 => ?_)
    obtain ⟨hP1, hK1, hD1⟩ := hB
    rw [ht] at hP1
    obtain ⟨hP, hD⟩ := wj_r hP hD hk9 hF hP1 hD1
    have hP : va_P D vwCl (oW o cJ g (xW z a lv lk pu fa he n nv du ta w mp mi k nt fu re) ++ mW z2 a2 1 n w gn lk pu fa he nv of mp mi k nt fu re) H := hP
    have hD : va_D (nw s) (oW o cJ g (xW z a lv lk pu fa he n nv du ta w mp mi k nt fu re) ++ mW z2 a2 1 n w gn lk pu fa he nv of mp mi k nt fu re) := hD
    have hS := hS9
    rw [show r7 = 0 from hw7]
    refine lv_istore (lv' := [(6, .int 0), (5, .int 1), (0, .ref b), (1, .ref (a 0)), (2, .ref (a2 0)), (3, .ref o), (4, .int (nI r))]) hx hb dL_law_602 hl (by decide) rfl (fun ls hl => ?_)
    refine lv_aload_n hx hb dL_law_604 rfl (lv_at hl 4 rfl) ?_
    refine vp_callSi (W.runV (As := []) (rest := []) hC (c_X1_thrown l) (cwV 0 hC.2.2.2.2 (gi_V mM_L_106 mV_X1_thrown mS_X1_thrown mI_MissRegistryModel mC_X1_thrown) rfl rfl rfl (by decide +kernel) ⟨Nat.le_of_ble_eq_true rfl, Nat.le_of_ble_eq_true rfl⟩) (mpre hK2 (wj_Pr hP)) rfl rfl hl.1 rfl (lv_room (Nat.le_of_ble_eq_true rfl)) dL_law_605 ⟨(show _ ≤ 601024 by omega), (show _ ≤ 7293034 by omega)⟩) (fun r8 hr8 => ?_)
    rw [show r8 = 1 from hr8]
    refine lv_iload hx hb dL_law_608 (lv_at hl 1 rfl) ?_
    refine lv_icmp_eq (tgt := 615) hx hb dL_law_610 (by decide) (fun c_610 => ?_) (fun c_610 => ?_)
    · refine lv_iload hx hb dL_law_615 (lv_at hl 1 rfl) ?_
      refine lv_if_ne (tgt := 632) hx hb dL_law_617 (by decide) (fun c_617 => ?_) (fun c_617 => ?_)
      · refine lv_goto (tgt := 1948) hx hb dL_law_632 (by decide) ?_
        exact kk _ _ _ _ _ ⟨lv, lk, pu, fa, he, n, nv, du, ta, w, mp, mi, k, nt, fu, re, gn, of, 1, g, hI, hP, hD, hS⟩ (by omega) (by omega) (lv_sub hl [2, 3, 4, 5, 6] rfl)
      · exact absurd c_617 (by decide)
    · exact absurd rfl c_610
  · obtain ⟨i, hi, exi⟩ := isP_ex (by omega) hp
    subst exi
    have hg := hI.2.1.1.iff i hi
    by_cases ha : lv i = 0
    · refine lv_aload_n hx hb dL_law_579 rfl (lv_at hl 1 rfl) ?_
      refine lv_aload_n hx hb dL_law_580 rfl (lv_at hl 0 rfl) ?_
      refine lv_iload hx hb dL_law_581 (lv_at hl 4 rfl) ?_
      refine lv_iconst (v := 1) hx hb dL_law_583 (by decide) ?_
      refine lv_iadd hx hb dL_law_584 ?_
      refine w_sld hx hb hX hbl hbA hS hL (r + 1) (nI_1 r) (by omega) hx1 dL_law_585 ?_
      refine lv_aload_n hx hb dL_law_586 rfl (lv_at hl 3 rfl) ?_
      have hPO := wj_Pl hP
      have hDO := wj_Dl hD
      have hF := wj_Fl hD hS hA
      refine va_calli (vx_runSW (As := [.ref (a 0), .int (nI i), .ref o]) (rest := []) hC (w_hit_b l hst H.size i hi hn ha) (vx_cwSW 3 hC.2.2.2.2 (gi_S mM_L_126 mT_L_hit mI_MissRegistryLaw mC_L_hit) rfl rfl rfl (by decide +kernel) ⟨Nat.le_of_ble_eq_true rfl, Nat.le_of_ble_eq_true rfl⟩) ⟨fun a1 U g mk q => ⟨q.1, q.2.1, q.2.2.1, va_K.moved (u := U) (U := U.calling g mk a1) (Vm.Alike.refl U.vm) q.2.2.2.1, va_K.moved (u := U) (U := U.calling g mk a1) (Vm.Alike.refl U.vm) q.2.2.2.2.1, ⟨q.2.2.2.2.2.1, tH.same (u := U) (U := U.calling g mk a1) rfl q.2.2.2.2.2.2.1, tN.moved (u := U) (U := U.calling g mk a1) (Vm.Alike.refl U.vm) q.2.2.2.2.2.2.2⟩⟩, fun U hU hW => ⟨rfl, by rw [hU], by rw [hU]; exact hPO, va_K.moved hW.alike hK, va_K.moved hW.alike hJ, hDO.weaken (fun _ _ _ _ => trivial), by rw [hU]; exact (hT.at hS).warm hW, hN.moved hW.alike⟩⟩ rfl rfl hl.1 rfl (lv_room (Nat.le_of_ble_eq_true rfl)) dL_law_587 ⟨(show _ ≤ 601024 by omega), (show _ ≤ 7293034 by omega)⟩) hS (fun q _ h => hF q h) hF (fun r9 u9 t H locs ht hvm hw9 hB hz9 hk9 hS9 => ?_)
      obtain ⟨hP1, hD1⟩ := hB
      rw [ht] at hP1
      obtain ⟨hP, hD⟩ := wj_l hP hD hk9 hF hP1 hD1
      rw [show r9 = 2 from hw9]
      have hP : va_P D vwCl (oW o cJ g (xW z a lv lk pu fa he n nv du ta w mp mi k nt fu re) ++ mW z2 a2 th n w gn lk pu fa he nv of mp mi k nt fu re) H := hP
      have hD : va_D (nw s) (oW o cJ g (xW z a lv lk pu fa he n nv du ta w mp mi k nt fu re) ++ mW z2 a2 th n w gn lk pu fa he nv of mp mi k nt fu re) := hD
      have hS := hS9
      refine lv_istore (lv' := [(5, .int 2), (0, .ref b), (1, .ref (a 0)), (2, .ref (a2 0)), (3, .ref o), (4, .int (nI r))]) hx hb dL_law_590 hl (by decide) rfl (fun ls hl => ?_)
      refine lv_aload_n hx hb dL_law_592 rfl (lv_at hl 3 rfl) ?_
      refine lv_aload_n hx hb dL_law_593 rfl (lv_at hl 1 rfl) ?_
      refine lv_iload hx hb dL_law_594 (lv_at hl 5 rfl) ?_
      refine lv_iconst (v := 1) hx hb dL_law_596 (by decide) ?_
      refine lv_iadd hx hb dL_law_597 ?_
      refine w_sld hx hb hX hbl hbA hS hL (r + 1) (nI_1 r) (by omega) hx1 dL_law_598 ?_
      have hPM := wj_Pr hP
      have hDM := wj_Dr hD
      have hF := wj_Fr hD hS hA
      refine va_calli (va_runV (As := [.int (nI i)]) (rest := []) hC (c_X1_hit_b l H.size i hi hn (fun q => hg.mp q ha)) (cwV 1 hC.2.2.2.2 (gi_V mM_L_128 mV_X1_hit mS_X1_hit mI_MissRegistryModel mC_X1_hit) rfl rfl rfl (by decide +kernel) ⟨Nat.le_of_ble_eq_true rfl, Nat.le_of_ble_eq_true rfl⟩) ⟨fun a1 U g mk q => ⟨q.1, q.2.1, ⟨q.2.2.1.1, va_K.moved (u := U) (U := U.calling g mk a1) (Vm.Alike.refl U.vm) q.2.2.1.2⟩, q.2.2.2⟩, va_recv hK2 hPM (ci := 1) (q0 := 0) rfl rfl, fun U hU hW => ⟨rfl, by rw [hU], ⟨by rw [hU]; exact hPM, va_K.moved hW.alike hK2⟩, hDM.weaken (fun _ _ _ _ => trivial)⟩⟩ rfl rfl hl.1 rfl (lv_room (Nat.le_of_ble_eq_true rfl)) dL_law_599 ⟨(show _ ≤ 601024 by omega), (show _ ≤ 7293034 by omega)⟩) hS (fun q _ h => hF q h) hF (fun r7 u7 t H locs ht hvm hw7 hB hz9 hk9 hS9 => ?_)
      obtain ⟨hP1, hK1, hD1⟩ := hB
      rw [ht] at hP1
      obtain ⟨hP, hD⟩ := wj_r hP hD hk9 hF hP1 hD1
      have hP : va_P D vwCl (oW o cJ g (xW z a lv lk pu fa he n nv du ta w mp mi k nt fu re) ++ mW z2 a2 2 n w gn lk pu fa he nv of mp mi k nt fu re) H := hP
      have hD : va_D (nw s) (oW o cJ g (xW z a lv lk pu fa he n nv du ta w mp mi k nt fu re) ++ mW z2 a2 2 n w gn lk pu fa he nv of mp mi k nt fu re) := hD
      have hS := hS9
      rw [show r7 = 0 from hw7]
      refine lv_istore (lv' := [(6, .int 0), (5, .int 2), (0, .ref b), (1, .ref (a 0)), (2, .ref (a2 0)), (3, .ref o), (4, .int (nI r))]) hx hb dL_law_602 hl (by decide) rfl (fun ls hl => ?_)
      refine lv_aload_n hx hb dL_law_604 rfl (lv_at hl 4 rfl) ?_
      refine vp_callSi (W.runV (As := []) (rest := []) hC (c_X1_thrown l) (cwV 0 hC.2.2.2.2 (gi_V mM_L_106 mV_X1_thrown mS_X1_thrown mI_MissRegistryModel mC_X1_thrown) rfl rfl rfl (by decide +kernel) ⟨Nat.le_of_ble_eq_true rfl, Nat.le_of_ble_eq_true rfl⟩) (mpre hK2 (wj_Pr hP)) rfl rfl hl.1 rfl (lv_room (Nat.le_of_ble_eq_true rfl)) dL_law_605 ⟨(show _ ≤ 601024 by omega), (show _ ≤ 7293034 by omega)⟩) (fun r8 hr8 => ?_)
      rw [show r8 = 2 from hr8]
      refine lv_iload hx hb dL_law_608 (lv_at hl 1 rfl) ?_
      refine lv_icmp_eq (tgt := 615) hx hb dL_law_610 (by decide) (fun c_610 => ?_) (fun c_610 => ?_)
      · refine lv_iload hx hb dL_law_615 (lv_at hl 1 rfl) ?_
        refine lv_if_ne (tgt := 632) hx hb dL_law_617 (by decide) (fun c_617 => ?_) (fun c_617 => ?_)
        · refine lv_goto (tgt := 1948) hx hb dL_law_632 (by decide) ?_
          exact kk _ _ _ _ _ ⟨lv, lk, pu, fa, he, n, nv, du, ta, w, mp, mi, k, nt, fu, re, gn, of, 2, g, hI, hP, hD, hS⟩ (by omega) (by omega) (lv_sub hl [2, 3, 4, 5, 6] rfl)
        · exact absurd c_617 (by decide)
      · exact absurd rfl c_610
    · refine lv_aload_n hx hb dL_law_579 rfl (lv_at hl 1 rfl) ?_
      refine lv_aload_n hx hb dL_law_580 rfl (lv_at hl 0 rfl) ?_
      refine lv_iload hx hb dL_law_581 (lv_at hl 4 rfl) ?_
      refine lv_iconst (v := 1) hx hb dL_law_583 (by decide) ?_
      refine lv_iadd hx hb dL_law_584 ?_
      refine w_sld hx hb hX hbl hbA hS hL (r + 1) (nI_1 r) (by omega) hx1 dL_law_585 ?_
      refine lv_aload_n hx hb dL_law_586 rfl (lv_at hl 3 rfl) ?_
      have hPO := wj_Pl hP
      have hDO := wj_Dl hD
      have hF := wj_Fl hD hS hA
      refine va_calli (vx_runSW (As := [.ref (a 0), .int (nI i), .ref o]) (rest := []) hC (w_hit l H.size i hi hn ha) (vx_cwSW 3 hC.2.2.2.2 (gi_S mM_L_126 mT_L_hit mI_MissRegistryLaw mC_L_hit) rfl rfl rfl (by decide +kernel) ⟨Nat.le_of_ble_eq_true rfl, Nat.le_of_ble_eq_true rfl⟩) ⟨fun a1 U g mk q => ⟨q.1, q.2.1, q.2.2.1, va_K.moved (u := U) (U := U.calling g mk a1) (Vm.Alike.refl U.vm) q.2.2.2.1, va_K.moved (u := U) (U := U.calling g mk a1) (Vm.Alike.refl U.vm) q.2.2.2.2.1, q.2.2.2.2.2⟩, fun U hU hW => ⟨rfl, by rw [hU], by rw [hU]; exact hPO, va_K.moved hW.alike hK, va_K.moved hW.alike hJ, hDO.weaken (fun _ _ _ _ => trivial)⟩⟩ rfl rfl hl.1 rfl (lv_room (Nat.le_of_ble_eq_true rfl)) dL_law_587 ⟨(show _ ≤ 601024 by omega), (show _ ≤ 7293034 by omega)⟩) hS (fun q _ h => hF q h) hF (fun r9 u9 t H locs ht hvm hw9 hB hz9 hk9 hS9 => ?_)
      obtain ⟨hP1, hD1⟩ := hB
      rw [ht] at hP1
      obtain ⟨hP, hD⟩ := wj_l hP hD hk9 hF hP1 hD1
      obtain ⟨hr9, hu9⟩ := hw9
      rw [hr9]
      have hP : va_P D vwCl (oW o cJ u9 (xW z a (upd lv i 0) (if sp_isP n (sp_heir he (upd lv i 0) n i n (he i)) = 0 then lk else upd lk (sp_heir he (upd lv i 0) n i n (he i)).toNatClampNeg (imin 99 (lk (sp_heir he (upd lv i 0) n i n (he i)).toNatClampNeg + lk i / 2))) (upd (if sp_isP n (sp_heir he (upd lv i 0) n i n (he i)) = 0 then pu else upd pu (sp_heir he (upd lv i 0) n i n (he i)).toNatClampNeg (pu (sp_heir he (upd lv i 0) n i n (he i)).toNatClampNeg + pu i)) i 0) (upd fa i 0) he n nv du ta w mp mi k nt (if sp_isP n (sp_heir he (upd lv i 0) n i n (he i)) = 0 then fu + pu i else fu) re) ++ mW z2 a2 th n w gn lk pu fa he nv of mp mi k nt fu re) H := hP
      have hD : va_D (nw s) (oW o cJ u9 (xW z a (upd lv i 0) (if sp_isP n (sp_heir he (upd lv i 0) n i n (he i)) = 0 then lk else upd lk (sp_heir he (upd lv i 0) n i n (he i)).toNatClampNeg (imin 99 (lk (sp_heir he (upd lv i 0) n i n (he i)).toNatClampNeg + lk i / 2))) (upd (if sp_isP n (sp_heir he (upd lv i 0) n i n (he i)) = 0 then pu else upd pu (sp_heir he (upd lv i 0) n i n (he i)).toNatClampNeg (pu (sp_heir he (upd lv i 0) n i n (he i)).toNatClampNeg + pu i)) i 0) (upd fa i 0) he n nv du ta w mp mi k nt (if sp_isP n (sp_heir he (upd lv i 0) n i n (he i)) = 0 then fu + pu i else fu) re) ++ mW z2 a2 th n w gn lk pu fa he nv of mp mi k nt fu re) := hD
      have hS := hS9
      refine lv_istore (lv' := [(5, .int 0), (0, .ref b), (1, .ref (a 0)), (2, .ref (a2 0)), (3, .ref o), (4, .int (nI r))]) hx hb dL_law_590 hl (by decide) rfl (fun ls hl => ?_)
      refine lv_aload_n hx hb dL_law_592 rfl (lv_at hl 3 rfl) ?_
      refine lv_aload_n hx hb dL_law_593 rfl (lv_at hl 1 rfl) ?_
      refine lv_iload hx hb dL_law_594 (lv_at hl 5 rfl) ?_
      refine lv_iconst (v := 1) hx hb dL_law_596 (by decide) ?_
      refine lv_iadd hx hb dL_law_597 ?_
      refine w_sld hx hb hX hbl hbA hS hL (r + 1) (nI_1 r) (by omega) hx1 dL_law_598 ?_
      have hPM := wj_Pr hP
      have hDM := wj_Dr hD
      have hF := wj_Fr hD hS hA
      refine va_calli (va_runV (As := [.int (nI i)]) (rest := []) hC (c_X1_hit l H.size i hi hn (hg.mpr ha) hI.2.2.2.1) (cwV 1 hC.2.2.2.2 (gi_V mM_L_128 mV_X1_hit mS_X1_hit mI_MissRegistryModel mC_X1_hit) rfl rfl rfl (by decide +kernel) ⟨Nat.le_of_ble_eq_true rfl, Nat.le_of_ble_eq_true rfl⟩) ⟨fun a1 U g mk q => ⟨q.1, q.2.1, ⟨q.2.2.1.1, va_K.moved (u := U) (U := U.calling g mk a1) (Vm.Alike.refl U.vm) q.2.2.1.2⟩, q.2.2.2⟩, va_recv hK2 hPM (ci := 1) (q0 := 0) rfl rfl, fun U hU hW => ⟨rfl, by rw [hU], ⟨by rw [hU]; exact hPM, va_K.moved hW.alike hK2⟩, hDM.weaken (fun _ _ _ _ => trivial)⟩⟩ rfl rfl hl.1 rfl (lv_room (Nat.le_of_ble_eq_true rfl)) dL_law_599 ⟨(show _ ≤ 601024 by omega), (show _ ≤ 7293034 by omega)⟩) hS (fun q _ h => hF q h) hF (fun r7 u7 t H locs ht hvm hw7 hB hz9 hk9 hS9 => ?_)
      obtain ⟨hP1, hK1, hD1⟩ := hB
      rw [ht] at hP1
      obtain ⟨hP, hD⟩ := wj_r hP hD hk9 hF hP1 hD1
      have hP : va_P D vwCl (oW o cJ u9 (xW z a (upd lv i 0) (if sp_isP n (sp_heir he (upd lv i 0) n i n (he i)) = 0 then lk else upd lk (sp_heir he (upd lv i 0) n i n (he i)).toNatClampNeg (imin 99 (lk (sp_heir he (upd lv i 0) n i n (he i)).toNatClampNeg + lk i / 2))) (upd (if sp_isP n (sp_heir he (upd lv i 0) n i n (he i)) = 0 then pu else upd pu (sp_heir he (upd lv i 0) n i n (he i)).toNatClampNeg (pu (sp_heir he (upd lv i 0) n i n (he i)).toNatClampNeg + pu i)) i 0) (upd fa i 0) he n nv du ta w mp mi k nt (if sp_isP n (sp_heir he (upd lv i 0) n i n (he i)) = 0 then fu + pu i else fu) re) ++ mW z2 a2 0 n w (upd gn i 1) (if mq_last he gn i (n + 1) i = -1 then lk else upd lk (mq_last he gn i (n + 1) i).toNatClampNeg (imin 99 (lk (mq_last he gn i (n + 1) i).toNatClampNeg + lk i / 2))) (upd (if mq_last he gn i (n + 1) i = -1 then pu else upd pu (mq_last he gn i (n + 1) i).toNatClampNeg (pu (mq_last he gn i (n + 1) i).toNatClampNeg + pu i)) i 0) (upd fa i 0) he nv of mp mi k nt (if mq_last he gn i (n + 1) i = -1 then fu + pu i else fu) re) H := hP
      have hD : va_D (nw s) (oW o cJ u9 (xW z a (upd lv i 0) (if sp_isP n (sp_heir he (upd lv i 0) n i n (he i)) = 0 then lk else upd lk (sp_heir he (upd lv i 0) n i n (he i)).toNatClampNeg (imin 99 (lk (sp_heir he (upd lv i 0) n i n (he i)).toNatClampNeg + lk i / 2))) (upd (if sp_isP n (sp_heir he (upd lv i 0) n i n (he i)) = 0 then pu else upd pu (sp_heir he (upd lv i 0) n i n (he i)).toNatClampNeg (pu (sp_heir he (upd lv i 0) n i n (he i)).toNatClampNeg + pu i)) i 0) (upd fa i 0) he n nv du ta w mp mi k nt (if sp_isP n (sp_heir he (upd lv i 0) n i n (he i)) = 0 then fu + pu i else fu) re) ++ mW z2 a2 0 n w (upd gn i 1) (if mq_last he gn i (n + 1) i = -1 then lk else upd lk (mq_last he gn i (n + 1) i).toNatClampNeg (imin 99 (lk (mq_last he gn i (n + 1) i).toNatClampNeg + lk i / 2))) (upd (if mq_last he gn i (n + 1) i = -1 then pu else upd pu (mq_last he gn i (n + 1) i).toNatClampNeg (pu (mq_last he gn i (n + 1) i).toNatClampNeg + pu i)) i 0) (upd fa i 0) he nv of mp mi k nt (if mq_last he gn i (n + 1) i = -1 then fu + pu i else fu) re) := hD
      have hS := hS9
      have eM : (mW z2 a2 0 n w (upd gn i 1) (if mq_last he gn i (n + 1) i = -1 then lk else upd lk (mq_last he gn i (n + 1) i).toNatClampNeg (imin 99 (lk (mq_last he gn i (n + 1) i).toNatClampNeg + lk i / 2))) (upd (if mq_last he gn i (n + 1) i = -1 then pu else upd pu (mq_last he gn i (n + 1) i).toNatClampNeg (pu (mq_last he gn i (n + 1) i).toNatClampNeg + pu i)) i 0) (upd fa i 0) he nv of mp mi k nt (if mq_last he gn i (n + 1) i = -1 then fu + pu i else fu) re) = mW z2 a2 0 n w (upd gn i 1) (if sp_isP n (sp_heir he (upd lv i 0) n i n (he i)) = 0 then lk else upd lk (sp_heir he (upd lv i 0) n i n (he i)).toNatClampNeg (imin 99 (lk (sp_heir he (upd lv i 0) n i n (he i)).toNatClampNeg + lk i / 2))) (upd (if sp_isP n (sp_heir he (upd lv i 0) n i n (he i)) = 0 then pu else upd pu (sp_heir he (upd lv i 0) n i n (he i)).toNatClampNeg (pu (sp_heir he (upd lv i 0) n i n (he i)).toNatClampNeg + pu i)) i 0) (upd fa i 0) he nv of mp mi k nt (if sp_isP n (sp_heir he (upd lv i 0) n i n (he i)) = 0 then fu + pu i else fu) re := by simp only [e_last hI hi, heir_upd hn, if_heir hI hi]
      rw [eM] at hP hD
      rw [show r7 = mq_last he gn i (n + 1) i from hw7]
      refine lv_istore (lv' := [(6, .int (mq_last he gn i (n + 1) i)), (5, .int 0), (0, .ref b), (1, .ref (a 0)), (2, .ref (a2 0)), (3, .ref o), (4, .int (nI r))]) hx hb dL_law_602 hl (by decide) rfl (fun ls hl => ?_)
      refine lv_aload_n hx hb dL_law_604 rfl (lv_at hl 4 rfl) ?_
      refine vp_callSi (W.runV (As := []) (rest := []) hC (c_X1_thrown l) (cwV 0 hC.2.2.2.2 (gi_V mM_L_106 mV_X1_thrown mS_X1_thrown mI_MissRegistryModel mC_X1_thrown) rfl rfl rfl (by decide +kernel) ⟨Nat.le_of_ble_eq_true rfl, Nat.le_of_ble_eq_true rfl⟩) (mpre hK2 (wj_Pr hP)) rfl rfl hl.1 rfl (lv_room (Nat.le_of_ble_eq_true rfl)) dL_law_605 ⟨(show _ ≤ 601024 by omega), (show _ ≤ 7293034 by omega)⟩) (fun r8 hr8 => ?_)
      rw [show r8 = 0 from hr8]
      refine lv_iload hx hb dL_law_608 (lv_at hl 1 rfl) ?_
      refine lv_icmp_eq (tgt := 615) hx hb dL_law_610 (by decide) (fun c_610 => ?_) (fun c_610 => ?_)
      · refine lv_iload hx hb dL_law_615 (lv_at hl 1 rfl) ?_
        refine lv_if_ne (tgt := 632) hx hb dL_law_617 (by decide) (fun c_617 => ?_) (fun c_617 => ?_)
        · exact absurd rfl c_617
        · refine lv_aload_n hx hb dL_law_620 rfl (lv_at hl 5 rfl) ?_
          refine lv_iconst (v := 0) hx hb dL_law_621 (by decide) ?_
          refine w_lald hC hJ (wj_Pl hP) dL_law_622 ?_
          refine lv_iload hx hb dL_law_623 (lv_at hl 0 rfl) ?_
          refine lv_i2l hx hb dL_law_625 rfl ?_
          refine w_lcmp hx hb dL_law_626 (hu9.trans (by rw [e_last hI hi, heir_upd hn])) ?_
          refine lv_if_eq (tgt := 632) hx hb dL_law_627 (by decide) (fun c_627 => ?_) (fun c_627 => ?_)
          · refine lv_goto (tgt := 1948) hx hb dL_law_632 (by decide) ?_
            exact kk _ _ _ _ _ ⟨(upd lv i 0), (if sp_isP n (sp_heir he (upd lv i 0) n i n (he i)) = 0 then lk else upd lk (sp_heir he (upd lv i 0) n i n (he i)).toNatClampNeg (imin 99 (lk (sp_heir he (upd lv i 0) n i n (he i)).toNatClampNeg + lk i / 2))), (upd (if sp_isP n (sp_heir he (upd lv i 0) n i n (he i)) = 0 then pu else upd pu (sp_heir he (upd lv i 0) n i n (he i)).toNatClampNeg (pu (sp_heir he (upd lv i 0) n i n (he i)).toNatClampNeg + pu i)) i 0), (upd fa i 0), he, n, nv, du, ta, w, mp, mi, k, nt, (if sp_isP n (sp_heir he (upd lv i 0) n i n (he i)) = 0 then fu + pu i else fu), re, (upd gn i 1), of, 0, u9, (iv_hit hI hi _ (hit_lk hI hi)), hP, hD, hS⟩ (by omega) (by omega) (lv_sub hl [2, 3, 4, 5, 6] rfl)
          · exact absurd rfl c_627
      · exact absurd rfl c_610
set_option maxHeartbeats 8000000 in
set_option maxRecDepth 100000 in
theorem lc_7 {p : Program} {l : Launch} {e : Env} {s : State} {m : MethodId} {below : List Frame} {meth : Method} {c : Code} {H : Heap} {locs : List Loc} {cells slots : Nat} {Q : State → Prop} {ls : Array Slot} {b L : Nat} {xs : Nat → Int32} {D : va_G} {z z2 : ClassId × ClassId} {cJ : ClassId} {q9 t9 a a2 : Nat → Nat} {o : Nat} {lv lk pu fa he : Nat → Int32} {n : Nat} {nv du ta : Nat → Int32} {w : Nat} {mp mi : Nat → Int32} {k : Nat} {nt fu re : Int32} {gn of : Nat → Int32} {th : Int32} {g : Nat → Int64} {r : Nat} (X : LX p l s m c b L xs D z z2 cJ q9 t9) (hI : IV lv lk fa he n nv du w k gn of) (hP : va_P D vwCl (oW o cJ g (xW z a lv lk pu fa he n nv du ta w mp mi k nt fu re) ++ mW z2 a2 th n w gn lk pu fa he nv of mp mi k nt fu re) H) (hD : va_D (nw s) (oW o cJ g (xW z a lv lk pu fa he n nv du ta w mp mi k nt fu re) ++ mW z2 a2 th n w gn lk pu fa he nv of mp mi k nt fu re)) (hS : va_S (nw s) s.heap H locs) (hcl : cells + 12 ≤ 601024) (hsl : slots + 100 ≤ 7293034) (hr : r + 2 < L) (hl : lv_has ls 9 [(0, .ref b), (1, .ref (a 0)), (2, .ref (a2 0)), (3, .ref o), (4, .int (nI r))]) (kk : ∀ (H1 : Heap) (locs1 : List Loc) (c1 s1 : Nat) (ls1 : Array Slot), Jn D z z2 cJ a a2 o s H1 locs1 → c1 ≤ cells + 11 → s1 ≤ slots + 94 → lv_has ls1 9 [(0, .ref b), (1, .ref (a 0)), (2, .ref (a2 0)), (3, .ref o), (4, .int (nI r))] → W p l e room_1 s m #[.ref b] below meth c H1 locs1 c1 s1 Q (F0 m 1948 ls1 [])) : W p l e room_1 s m #[.ref b] below meth c H locs cells slots Q (F0 m 635 ls []) := by
  obtain ⟨hC, hst, ⟨hX, hbl, hL⟩, ⟨hK, hK2, hJ⟩, hT, hN, hE⟩ := X
  have hx := hC.1
  have hb := hC.2.1
  have hA : ∀ q : Nat, s.heap.size ≤ q → nw s q := fun q h => h
  have hbA : ¬ nw s b := Nat.not_le.mpr hbl
  have hn := hI.1.1
  have hw := hI.1.2.1
  have hk := hI.1.2.2
  obtain ⟨x, hx1⟩ : ∃ x : Int32, xs (r + 1) = x := ⟨_, rfl⟩
  obtain ⟨y, hx2⟩ : ∃ y : Int32, xs (r + 2) = y := ⟨_, rfl⟩
  by_cases hbad : x < 1 ∨ ¬ x ≤ 30
  · refine lv_aload_n hx hb dL_law_635 rfl (lv_at hl 1 rfl) ?_
    refine lv_aload_n hx hb dL_law_636 rfl (lv_at hl 0 rfl) ?_
    refine lv_iload hx hb dL_law_637 (lv_at hl 4 rfl) ?_
    refine lv_iconst (v := 1) hx hb dL_law_639 (by decide) ?_
    refine lv_iadd hx hb dL_law_640 ?_
    refine w_sld hx hb hX hbl hbA hS hL (r + 1) (nI_1 r) (by omega) hx1 dL_law_641 ?_
    refine lv_aload_n hx hb dL_law_642 rfl (lv_at hl 3 rfl) ?_
    have hPO := wj_Pl hP
    have hDO := wj_Dl hD
    have hF := wj_Fl hD hS hA
    refine va_calli (vx_runSW (As := [.ref (a 0), .int x, .ref o]) (rest := []) hC (w_pass_a l hst H.size x hbad) (vx_cwSW 3 hC.2.2.2.2 (gi_S mM_L_129 mT_L_pass mI_MissRegistryLaw mC_L_pass) rfl rfl rfl (by decide +kernel) ⟨Nat.le_of_ble_eq_true rfl, Nat.le_of_ble_eq_true rfl⟩) ⟨fun a1 U g mk q => ⟨q.1, q.2.1, q.2.2.1, va_K.moved (u := U) (U := U.calling g mk a1) (Vm.Alike.refl U.vm) q.2.2.2.1, va_K.moved (u := U) (U := U.calling g mk a1) (Vm.Alike.refl U.vm) q.2.2.2.2.1, ⟨q.2.2.2.2.2.1, tH.same (u := U) (U := U.calling g mk a1) rfl q.2.2.2.2.2.2.1, tN.moved (u := U) (U := U.calling g mk a1) (Vm.Alike.refl U.vm) q.2.2.2.2.2.2.2⟩⟩, fun U hU hW => ⟨rfl, by rw [hU], by rw [hU]; exact hPO, va_K.moved hW.alike hK, va_K.moved hW.alike hJ, hDO.weaken (fun _ _ _ _ => trivial), by rw [hU]; exact (hT.at hS).warm hW, hN.moved hW.alike⟩⟩ rfl rfl hl.1 rfl (lv_room (Nat.le_of_ble_eq_true rfl)) dL_law_643 ⟨(show _ ≤ 601024 by omega), (show _ ≤ 7293034 by omega)⟩) hS (fun q _ h => hF q h) hF (fun r9 u9 t H locs ht hvm hw9 hB hz9 hk9 hS9 => ?_)
    obtain ⟨hP1, hD1⟩ := hB
    rw [ht] at hP1
    obtain ⟨hP, hD⟩ := wj_l hP hD hk9 hF hP1 hD1
    rw [show r9 = 1 from hw9]
    have hP : va_P D vwCl (oW o cJ g (xW z a lv lk pu fa he n nv du ta w mp mi k nt fu re) ++ mW z2 a2 th n w gn lk pu fa he nv of mp mi k nt fu re) H := hP
    have hD : va_D (nw s) (oW o cJ g (xW z a lv lk pu fa he n nv du ta w mp mi k nt fu re) ++ mW z2 a2 th n w gn lk pu fa he nv of mp mi k nt fu re) := hD
    have hS := hS9
    refine lv_istore (lv' := [(5, .int 1), (0, .ref b), (1, .ref (a 0)), (2, .ref (a2 0)), (3, .ref o), (4, .int (nI r))]) hx hb dL_law_646 hl (by decide) rfl (fun ls hl => ?_)
    refine lv_aload_n hx hb dL_law_648 rfl (lv_at hl 3 rfl) ?_
    refine lv_aload_n hx hb dL_law_649 rfl (lv_at hl 1 rfl) ?_
    refine lv_iload hx hb dL_law_650 (lv_at hl 5 rfl) ?_
    refine lv_iconst (v := 1) hx hb dL_law_652 (by decide) ?_
    refine lv_iadd hx hb dL_law_653 ?_
    refine w_sld hx hb hX hbl hbA hS hL (r + 1) (nI_1 r) (by omega) hx1 dL_law_654 ?_
    have hPM := wj_Pr hP
    have hDM := wj_Dr hD
    have hF := wj_Fr hD hS hA
    refine va_calli (va_runV (As := [.int x]) (rest := []) hC (c_X1_pass_a l H.size x hbad) (cwV 1 hC.2.2.2.2 (gi_V mM_L_131 mV_X1_pass mS_X1_pass mI_MissRegistryModel mC_X1_pass) rfl rfl rfl (by decide +kernel) ⟨Nat.le_of_ble_eq_true rfl, Nat.le_of_ble_eq_true rfl⟩) ⟨fun a1 U g mk q => ⟨q.1, q.2.1, ⟨q.2.2.1.1, va_K.moved (u := U) (U := U.calling g mk a1) (Vm.Alike.refl U.vm) q.2.2.1.2⟩, q.2.2.2⟩, va_recv hK2 hPM (ci := 1) (q0 := 0) rfl rfl, fun U hU hW => ⟨rfl, by rw [hU], ⟨by rw [hU]; exact hPM, va_K.moved hW.alike hK2⟩, hDM.weaken (fun _ _ _ _ => trivial)⟩⟩ rfl rfl hl.1 rfl (lv_room (Nat.le_of_ble_eq_true rfl)) dL_law_655 ⟨(show _ ≤ 601024 by omega), (show _ ≤ 7293034 by omega)⟩) hS (fun q _ h => hF q h) hF (fun r7 u7 t H locs ht hvm hw7 hB hz9 hk9 hS9 => ?_)
    obtain ⟨hP1, hK1, hD1⟩ := hB
    rw [ht] at hP1
    obtain ⟨hP, hD⟩ := wj_r hP hD hk9 hF hP1 hD1
    have hP : va_P D vwCl (oW o cJ g (xW z a lv lk pu fa he n nv du ta w mp mi k nt fu re) ++ mW z2 a2 1 n w gn lk pu fa he nv of mp mi k nt fu re) H := hP
    have hD : va_D (nw s) (oW o cJ g (xW z a lv lk pu fa he n nv du ta w mp mi k nt fu re) ++ mW z2 a2 1 n w gn lk pu fa he nv of mp mi k nt fu re) := hD
    have hS := hS9
    rw [show r7 = 0 from hw7]
    refine lv_istore (lv' := [(6, .int 0), (5, .int 1), (0, .ref b), (1, .ref (a 0)), (2, .ref (a2 0)), (3, .ref o), (4, .int (nI r))]) hx hb dL_law_658 hl (by decide) rfl (fun ls hl => ?_)
    refine lv_aload_n hx hb dL_law_660 rfl (lv_at hl 4 rfl) ?_
    refine vp_callSi (W.runV (As := []) (rest := []) hC (c_X1_thrown l) (cwV 0 hC.2.2.2.2 (gi_V mM_L_106 mV_X1_thrown mS_X1_thrown mI_MissRegistryModel mC_X1_thrown) rfl rfl rfl (by decide +kernel) ⟨Nat.le_of_ble_eq_true rfl, Nat.le_of_ble_eq_true rfl⟩) (mpre hK2 (wj_Pr hP)) rfl rfl hl.1 rfl (lv_room (Nat.le_of_ble_eq_true rfl)) dL_law_661 ⟨(show _ ≤ 601024 by omega), (show _ ≤ 7293034 by omega)⟩) (fun r8 hr8 => ?_)
    rw [show r8 = 1 from hr8]
    refine lv_iload hx hb dL_law_664 (lv_at hl 1 rfl) ?_
    refine lv_icmp_eq (tgt := 671) hx hb dL_law_666 (by decide) (fun c_666 => ?_) (fun c_666 => ?_)
    · refine lv_iload hx hb dL_law_671 (lv_at hl 1 rfl) ?_
      refine lv_if_ne (tgt := 688) hx hb dL_law_673 (by decide) (fun c_673 => ?_) (fun c_673 => ?_)
      · refine lv_goto (tgt := 1948) hx hb dL_law_688 (by decide) ?_
        exact kk _ _ _ _ _ ⟨lv, lk, pu, fa, he, n, nv, du, ta, w, mp, mi, k, nt, fu, re, gn, of, 1, g, hI, hP, hD, hS⟩ (by omega) (by omega) (lv_sub hl [2, 3, 4, 5, 6] rfl)
      · exact absurd c_673 (by decide)
    · exact absurd rfl c_666
  · have h1 : ¬ x < 1 := fun q => hbad (Or.inl q)
    have h2 : x ≤ 30 := Classical.not_not.mp (fun q => hbad (Or.inr q))
    obtain ⟨v, hv, ev⟩ := nI_of2 (x := x) (M := 30) (n := 30) rfl (nlt_0 h1) h2
    subst ev
    have hv1 : 1 ≤ v := nlt_1 (by omega) h1
    have ipn := (iv_pass hI hv).2.1
    have ipl := (iv_pass hI hv).2.2
    refine lv_aload_n hx hb dL_law_635 rfl (lv_at hl 1 rfl) ?_
    refine lv_aload_n hx hb dL_law_636 rfl (lv_at hl 0 rfl) ?_
    refine lv_iload hx hb dL_law_637 (lv_at hl 4 rfl) ?_
    refine lv_iconst (v := 1) hx hb dL_law_639 (by decide) ?_
    refine lv_iadd hx hb dL_law_640 ?_
    refine w_sld hx hb hX hbl hbA hS hL (r + 1) (nI_1 r) (by omega) hx1 dL_law_641 ?_
    refine lv_aload_n hx hb dL_law_642 rfl (lv_at hl 3 rfl) ?_
    have hPO := wj_Pl hP
    have hDO := wj_Dl hD
    have hF := wj_Fl hD hS hA
    refine va_calli (vx_runSW (As := [.ref (a 0), .int (nI v), .ref o]) (rest := []) hC (w_pass l H.size v hv1 hv hn hw) (vx_cwSW 3 hC.2.2.2.2 (gi_S mM_L_129 mT_L_pass mI_MissRegistryLaw mC_L_pass) rfl rfl rfl (by decide +kernel) ⟨Nat.le_of_ble_eq_true rfl, Nat.le_of_ble_eq_true rfl⟩) ⟨fun a1 U g mk q => ⟨q.1, q.2.1, q.2.2.1, va_K.moved (u := U) (U := U.calling g mk a1) (Vm.Alike.refl U.vm) q.2.2.2.1, va_K.moved (u := U) (U := U.calling g mk a1) (Vm.Alike.refl U.vm) q.2.2.2.2.1, q.2.2.2.2.2⟩, fun U hU hW => ⟨rfl, by rw [hU], by rw [hU]; exact hPO, va_K.moved hW.alike hK, va_K.moved hW.alike hJ, hDO.weaken (fun _ _ _ _ => trivial)⟩⟩ rfl rfl hl.1 rfl (lv_room (Nat.le_of_ble_eq_true rfl)) dL_law_643 ⟨(show _ ≤ 601024 by omega), (show _ ≤ 7293034 by omega)⟩) hS (fun q _ h => hF q h) hF (fun r9 u9 t H locs ht hvm hw9 hB hz9 hk9 hS9 => ?_)
    obtain ⟨hP1, hD1⟩ := hB
    rw [ht] at hP1
    obtain ⟨hP, hD⟩ := wj_l hP hD hk9 hF hP1 hD1
    obtain ⟨hr9, hu9⟩ := hw9
    rw [hr9]
    have hP : va_P D vwCl (oW o cJ u9 (xW z a lv (sp_pl lv n lk v) pu fa he n (sp_pn du w nv v) du ta w mp mi k (nt + nI v) fu re) ++ mW z2 a2 th n w gn lk pu fa he nv of mp mi k nt fu re) H := hP
    have hD : va_D (nw s) (oW o cJ u9 (xW z a lv (sp_pl lv n lk v) pu fa he n (sp_pn du w nv v) du ta w mp mi k (nt + nI v) fu re) ++ mW z2 a2 th n w gn lk pu fa he nv of mp mi k nt fu re) := hD
    have hS := hS9
    refine lv_istore (lv' := [(5, .int 0), (0, .ref b), (1, .ref (a 0)), (2, .ref (a2 0)), (3, .ref o), (4, .int (nI r))]) hx hb dL_law_646 hl (by decide) rfl (fun ls hl => ?_)
    refine lv_aload_n hx hb dL_law_648 rfl (lv_at hl 3 rfl) ?_
    refine lv_aload_n hx hb dL_law_649 rfl (lv_at hl 1 rfl) ?_
    refine lv_iload hx hb dL_law_650 (lv_at hl 5 rfl) ?_
    refine lv_iconst (v := 1) hx hb dL_law_652 (by decide) ?_
    refine lv_iadd hx hb dL_law_653 ?_
    refine w_sld hx hb hX hbl hbA hS hL (r + 1) (nI_1 r) (by omega) hx1 dL_law_654 ?_
    have hPM := wj_Pr hP
    have hDM := wj_Dr hD
    have hF := wj_Fr hD hS hA
    refine va_calli (va_runV (As := [.int (nI v)]) (rest := []) hC (c_X1_pass l H.size (nI v) h1 h2 hn hw) (cwV 1 hC.2.2.2.2 (gi_V mM_L_131 mV_X1_pass mS_X1_pass mI_MissRegistryModel mC_X1_pass) rfl rfl rfl (by decide +kernel) ⟨Nat.le_of_ble_eq_true rfl, Nat.le_of_ble_eq_true rfl⟩) ⟨fun a1 U g mk q => ⟨q.1, q.2.1, ⟨q.2.2.1.1, va_K.moved (u := U) (U := U.calling g mk a1) (Vm.Alike.refl U.vm) q.2.2.1.2⟩, q.2.2.2⟩, va_recv hK2 hPM (ci := 1) (q0 := 0) rfl rfl, fun U hU hW => ⟨rfl, by rw [hU], ⟨by rw [hU]; exact hPM, va_K.moved hW.alike hK2⟩, hDM.weaken (fun _ _ _ _ => trivial)⟩⟩ rfl rfl hl.1 rfl (lv_room (Nat.le_of_ble_eq_true rfl)) dL_law_655 ⟨(show _ ≤ 601024 by omega), (show _ ≤ 7293034 by omega)⟩) hS (fun q _ h => hF q h) hF (fun r7 u7 t H locs ht hvm hw7 hB hz9 hk9 hS9 => ?_)
    obtain ⟨hP1, hK1, hD1⟩ := hB
    rw [ht] at hP1
    obtain ⟨hP, hD⟩ := wj_r hP hD hk9 hF hP1 hD1
    have hP : va_P D vwCl (oW o cJ u9 (xW z a lv (sp_pl lv n lk v) pu fa he n (sp_pn du w nv v) du ta w mp mi k (nt + nI v) fu re) ++ mW z2 a2 0 n w gn (mq_pl gn lk (nI v) n) pu fa he (mq_pn of nv (nI v) w) of mp mi k (nt + (nI v)) fu re) H := hP
    have hD : va_D (nw s) (oW o cJ u9 (xW z a lv (sp_pl lv n lk v) pu fa he n (sp_pn du w nv v) du ta w mp mi k (nt + nI v) fu re) ++ mW z2 a2 0 n w gn (mq_pl gn lk (nI v) n) pu fa he (mq_pn of nv (nI v) w) of mp mi k (nt + (nI v)) fu re) := hD
    have hS := hS9
    have eM : (mW z2 a2 0 n w gn (mq_pl gn lk (nI v) n) pu fa he (mq_pn of nv (nI v) w) of mp mi k (nt + (nI v)) fu re) = mW z2 a2 0 n w gn (sp_pl lv n lk v) pu fa he (sp_pn du w nv v) of mp mi k (nt + nI v) fu re := by rw [ipn, ipl]
    rw [eM] at hP hD
    rw [show r7 = sp_shk (mq_pn of nv (nI v) w) w from hw7]
    refine lv_istore (lv' := [(6, .int (sp_shk (mq_pn of nv (nI v) w) w)), (5, .int 0), (0, .ref b), (1, .ref (a 0)), (2, .ref (a2 0)), (3, .ref o), (4, .int (nI r))]) hx hb dL_law_658 hl (by decide) rfl (fun ls hl => ?_)
    refine lv_aload_n hx hb dL_law_660 rfl (lv_at hl 4 rfl) ?_
    refine vp_callSi (W.runV (As := []) (rest := []) hC (c_X1_thrown l) (cwV 0 hC.2.2.2.2 (gi_V mM_L_106 mV_X1_thrown mS_X1_thrown mI_MissRegistryModel mC_X1_thrown) rfl rfl rfl (by decide +kernel) ⟨Nat.le_of_ble_eq_true rfl, Nat.le_of_ble_eq_true rfl⟩) (mpre hK2 (wj_Pr hP)) rfl rfl hl.1 rfl (lv_room (Nat.le_of_ble_eq_true rfl)) dL_law_661 ⟨(show _ ≤ 601024 by omega), (show _ ≤ 7293034 by omega)⟩) (fun r8 hr8 => ?_)
    rw [show r8 = 0 from hr8]
    refine lv_iload hx hb dL_law_664 (lv_at hl 1 rfl) ?_
    refine lv_icmp_eq (tgt := 671) hx hb dL_law_666 (by decide) (fun c_666 => ?_) (fun c_666 => ?_)
    · refine lv_iload hx hb dL_law_671 (lv_at hl 1 rfl) ?_
      refine lv_if_ne (tgt := 688) hx hb dL_law_673 (by decide) (fun c_673 => ?_) (fun c_673 => ?_)
      · exact absurd rfl c_673
      · refine lv_aload_n hx hb dL_law_676 rfl (lv_at hl 5 rfl) ?_
        refine lv_iconst (v := 0) hx hb dL_law_677 (by decide) ?_
        refine w_lald hC hJ (wj_Pl hP) dL_law_678 ?_
        refine lv_iload hx hb dL_law_679 (lv_at hl 0 rfl) ?_
        refine lv_i2l hx hb dL_law_681 rfl ?_
        refine w_lcmp hx hb dL_law_682 (hu9.trans (by rw [ipn])) ?_
        refine lv_if_eq (tgt := 688) hx hb dL_law_683 (by decide) (fun c_683 => ?_) (fun c_683 => ?_)
        · refine lv_goto (tgt := 1948) hx hb dL_law_688 (by decide) ?_
          exact kk _ _ _ _ _ ⟨lv, (sp_pl lv n lk v), pu, fa, he, n, (sp_pn du w nv v), du, ta, w, mp, mi, k, (nt + nI v), fu, re, gn, of, 0, u9, (iv_pass hI hv).1, hP, hD, hS⟩ (by omega) (by omega) (lv_sub hl [2, 3, 4, 5, 6] rfl)
        · exact absurd rfl c_683
    · exact absurd rfl c_666

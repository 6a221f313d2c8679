set_option maxHeartbeats 8000000 in
set_option maxRecDepth 100000 in
theorem whole_start {p : Program} {e : Env} {s : State} {m : MethodId} {below : List Frame} {meth : Method} {c : Code} (l : Launch) (hflags : l.flags = flags0) {b L : Nat} {xs : Nat → Int32} (hL : L ≤ 260) (C0 : lw_At p s m meth c b L xs) : W p l e room_1 s m #[Value.ref b] below meth c s.heap [] 0 0 (lw_Z below #[Value.ref b] s) (entryFrame m ([Value.ref b] : List Value).toArray 19) := by
  obtain ⟨hx, hb, hr, hml, hown, hts0, hX, hbl, hlocks, hgv⟩ := id C0
  have hts : ∀ w ∈ lw_all, w.before #[Value.ref b] s = true := fun w h => (lw_all_tbl h).elim (hts0 w) (lw_xs_ok hts0 w)
  have hC : CallFix p m c cL_law 19 s #[.ref b] lw_all RL := ⟨hx, hb, hml, hown, hts⟩
  obtain ⟨q9, t9, hE⟩ := lw_cH hts0 hgv
  obtain ⟨t8, hJ⟩ := lw_dg hts0 hgv
  have hO : gO s := gO.of (hts0 (Cond.arrayOver (.array .int)) (by decide +kernel))
  have hNe : va_Nw (.methodLinkNest RL 70 yX1_init RL) s := va_Nw.of rfl (hts0 (.methodLinkNest RL 70 yX1_init RL) (by decide +kernel))
  have hA : ∀ q : Nat, s.heap.size ≤ q → nw s q := fun _ h => h
  have hbA : ¬ nw s b := Nat.not_le.mpr hbl
  obtain ⟨c0, iS0, hKn0⟩ := u_known (C := RX0) (T := TX0) (N := 16) (n := 16) hts lays_X0 (hts _ mB_MissRegistry)
  obtain ⟨c1, iS1, hKn1⟩ := u_known (C := RX1) (T := TX1) (N := 6) (n := 6) hts lays_X1 (hts _ mB_MissRegistryLaw_Sim)
  obtain ⟨c2, iS2, hKn2⟩ := u_known (C := RJ0) (T := TJ0) (N := 4) (n := 4) hts lays_J0 (hts _ mB_String)
  obtain ⟨c3, iS3, hKn3⟩ := u_known (C := RJ4) (T := TJ4) (N := 4) (n := 4) hts lays_J4 (hts _ mB_StringBuilder)
  obtain ⟨dC, dI, hKc⟩ : ∃ (dC : Nat → ClassId) (dI : Nat → Nat → Nat), ∀ (k : Nat) (q : vw_C), vwCl[k]? = some q → u_Kn s q.1 q.2.1 q.2.2 (dC k) (dI k) := by
    refine ⟨fun k => if k = 0 then c0 else if k = 1 then c1 else if k = 2 then c2 else c3, fun k => if k = 0 then iS0 else if k = 1 then iS1 else if k = 2 then iS2 else iS3, ?_⟩
    intro k q hq
    match k, hq with
    | 0, hq => cases hq; exact hKn0
    | 1, hq => cases hq; exact hKn1
    | 2, hq => cases hq; exact hKn2
    | 3, hq => cases hq; exact hKn3
    | k + 4, hq => simp [vwCl] at hq
  have hS : va_S (nw s) s.heap s.heap [] := va_S.rf
  have hK : va_K (dC, dI) vwCl [] s := ⟨hKc, fun k q h => by simp at h⟩
  have hP : va_P (dC, dI) vwCl [] s.heap := fun k q h => by simp at h
  have hD : va_D (nw s) [] := ⟨fun i j p q h => by simp at h, fun k q h => by simp at h⟩
  have hl := lv_entry ([.ref b]) (n := 19) (Nat.le_of_ble_eq_true rfl)
  rw [lg_entry_eq]
  generalize (lg_sl ([.ref b]) ++ List.replicate (19 - (lg_sl ([.ref b])).length) Slot.unset).toArray = ls at hl ⊢
  have hl : lv_has ls 19 [(0, .ref b)] := hl
  refine va_new (ci := 0) (fs := [.null, .null, .null, .null, .null, .int 0, .null, .null, .null, .int 0, .null, .null, .int 0, .int 0, .int 0, .int 0]) (C := RX0) (T := TX0) (N := 16) hx hb hts lays_X0 tyX0 tyX0_ok hown (hts _ mK_L_29) (hts _ mB_MissRegistry) (hts _ mI_MissRegistry) hK hP hD hS hA rfl (fun j hj => by
      match j, hj with
      | 0, _ => rfl
      | 1, _ => rfl
      | 2, _ => rfl
      | 3, _ => rfl
      | 4, _ => rfl
      | 5, _ => rfl
      | 6, _ => rfl
      | 7, _ => rfl
      | 8, _ => rfl
      | 9, _ => rfl
      | 10, _ => rfl
      | 11, _ => rfl
      | 12, _ => rfl
      | 13, _ => rfl
      | 14, _ => rfl
      | 15, _ => rfl
      | k + 16, h => exact absurd h (by omega)) (Nat.le_of_ble_eq_true rfl) (Nat.le_of_ble_eq_true rfl) dL_law_0 (fun h0 H hP hD hS => ?_)
  have hP : va_P (dC, dI) vwCl [(h0, .inr (0, [.null, .null, .null, .null, .null, .int 0, .null, .null, .null, .int 0, .null, .null, .int 0, .int 0, .int 0, .int 0]))] H := hP
  have hD : va_D (nw s) [(h0, .inr (0, [.null, .null, .null, .null, .null, .int 0, .null, .null, .null, .int 0, .null, .null, .int 0, .int 0, .int 0, .int 0]))] := hD
  refine lv_dup hx hb dL_law_3 rfl ?_
  have hF := va_free (wc := [(h0, .inr (0, [.null, .null, .null, .null, .null, .int 0, .null, .null, .null, .int 0, .null, .null, .int 0, .int 0, .int 0, .int 0]))]) hD hS hA [0] rfl
  refine va_callv (va_runI (As := []) (rest := [.ref h0]) hC (c_X0_init l h0 H.size) (cwI 0 hts (gi_cons mC_X0_init) rfl rfl rfl (hts _ mI_MissRegistry) (hts _ mM_L_79) (hts _ mV_X0_init) rfl (by decide +kernel) ⟨Nat.le_of_ble_eq_true rfl, Nat.le_of_ble_eq_true rfl⟩) ⟨fun a U g mk q => by obtain ⟨q0, q1, qP, qK, qD⟩ := q; exact ⟨q0, q1, qP, va_K.moved (u := U) (U := U.calling g mk a) (Vm.Alike.refl U.vm) qK, qD⟩, fun U hU hW => ⟨rfl, by rw [hU], by rw [hU]; exact hP, va_K.moved hW.alike hK, hD.weaken (fun _ _ _ _ => trivial)⟩⟩ rfl rfl hl.1 rfl (lv_room (Nat.le_of_ble_eq_true rfl)) dL_law_4 ⟨Nat.le_of_ble_eq_true rfl, Nat.le_of_ble_eq_true rfl⟩) hS (fun q _ h => hF q h) hF (fun u t H locs ht hvm hw hB hz1 hk1 hS => ?_)
  obtain ⟨hP1, hK1, hD1⟩ := hB
  rw [ht] at hP1
  have hKx : kK (dC, dI) u.1 s := va_K.moved hvm.symm hK1
  have hw8 : u.2 0 = h0 := hw
  obtain ⟨hP, hD⟩ := va_join (wr := []) (w1 := xW u.1 u.2 zf zf zf zf zf 0 zf zf zf 0 zf zf 0 0 0 0) hP hD [0] [] rfl rfl (by decide) (by decide) hk1 hF hP1 hD1
  have hP : va_P (dC, dI) vwCl (xW u.1 u.2 zf zf zf zf zf 0 zf zf zf 0 zf zf 0 0 0 0) H := hP
  have hD : va_D (nw s) (xW u.1 u.2 zf zf zf zf zf 0 zf zf zf 0 zf zf 0 0 0 0) := hD
  refine lv_astore_n (lv' := [(1, .ref h0), (0, .ref b)]) hx hb dL_law_7 rfl hl (by decide) rfl (fun ls hl => ?_)
  rw [← hw8] at hl
  refine lv_aload_n hx hb dL_law_8 rfl (lv_at hl 0 rfl) ?_
  refine lv_aload_n hx hb dL_law_9 rfl (lv_at hl 1 rfl) ?_
  have hF := wj_F hD hS hA
  have hbq : ¬ va_A (xW u.1 u.2 zf zf zf zf zf 0 zf zf zf 0 zf zf 0 0 0 0) H.size b := fun h => hbA (hF b h)
  refine va_callr (va_runS (As := [.ref (u.2 0), .ref b]) (rest := []) hC (c_L_build l H.size (xs := xs) (L := L) (by omega)) (va_cwS 2 hts (gi_S mM_L_80 mT_L_build mI_MissRegistryLaw mC_L_build) rfl rfl rfl (by decide +kernel) ⟨Nat.le_of_ble_eq_true rfl, Nat.le_of_ble_eq_true rfl⟩) ⟨fun a1 U g mk q => ⟨q.1, q.2.1, ⟨q.2.2.1.1, va_K.moved (u := U) (U := U.calling g mk a1) (Vm.Alike.refl U.vm) q.2.2.1.2.1, gO.moved (u := U) (U := U.calling g mk a1) (Vm.Alike.refl U.vm) q.2.2.1.2.2.1, va_Nw.same (u := U) (U := U.calling g mk a1) rfl rfl q.2.2.1.2.2.2⟩, q.2.2.2.1, va_X.moved (u := U) (U := U.calling g mk a1) (Vm.Alike.refl U.vm) q.2.2.2.2.1, q.2.2.2.2.2⟩, fun U hU hW => ⟨rfl, by rw [hU], ⟨by rw [hU]; exact hP, va_K.moved hW.alike hKx, hO.moved hW.alike, hNe.warmM hW⟩, hD.weaken (fun _ _ _ _ => trivial), show va_X b L xs U U.heap by rw [hU]; exact va_X.moved hW.alike (hX.kept (hS.2.1 b hbl hbA)), hbq⟩⟩ rfl rfl hl.1 rfl (lv_room (Nat.le_of_ble_eq_true rfl)) dL_law_10 ⟨(by show _ ≤ 600172; omega), (by show _ ≤ 7300668; omega)⟩) hS (fun q _ h => hF q h) hF (fun u9 ra t H locs ht hvm hw hB hz1 hk1 hS => ?_)
  obtain ⟨cG, hG1, hBk⟩ := hB
  rw [ht] at hBk
  have hG : kG cG s := kG.moved hvm.symm hG1
  have hBk := hBk.weaken hF
  refine lv_astore_n (lv' := [(2, .ref ra), (1, .ref (u.2 0)), (0, .ref b)]) hx hb dL_law_13 rfl hl (by decide) rfl (fun ls hl => ?_)
  refine lv_aload_n hx hb dL_law_14 rfl (lv_at hl 0 rfl) ?_
  refine lv_ifnonnull (tgt := 20) hx hb dL_law_15 (by decide) ?_
  obtain ⟨b9, rp, rw, rm, lv, lk, pu, fa, he, n, nv, du, ta, w, mp, mi, k, nt, fu, re, hb0, hIV, hgone, hP, hD⟩ := hBk
  refine lv_bipush (v := 10) hx hb dL_law_20 (by decide) ?_
  refine qn_z hC hKx hP hD hS hA (N := 10) rfl (by omega) (by show _ ≤ 600172; omega) (by show _ ≤ 7300668; omega) dL_law_22 (fun q22 H hP hD hS => ?_)
  refine lv_astore_n (lv' := [(3, .ref q22), (2, .ref ra), (1, .ref (u.2 0)), (0, .ref b)]) hx hb dL_law_24 rfl hl (by decide) rfl (fun ls hl => ?_)
  refine lv_iconst (v := 0) hx hb dL_law_25 (by decide) ?_
  refine lv_istore (lv' := [(4, .int 0), (3, .ref q22), (2, .ref ra), (1, .ref (u.2 0)), (0, .ref b)]) hx hb dL_law_26 hl (by decide) rfl (fun ls hl => ?_)
  refine lt_loop (xb := b) (Q := lw_Z below #[Value.ref b] s) hC hKx hG hO hE hJ hX hbl hbA (by omega) hA (fun H locs cells slots ls hS hc hsl => ?_) 37 0 (by omega) (by omega) (fun _ => 0) b9 rp rw rm lv lk pu fa he n nv du ta w mp mi k nt fu re H _ _ _ ls hb0 hIV (fun y _ => Or.inl rfl) hP hD hS (by omega) (by omega) (lv_sub hl [4, 3, 2, 1, 0] rfl)
  refine va_forget (fun q hq => hS.2.2 q hq) ?_
  refine W.widen (k := 600172) (n := 7300668) (by omega) (by omega) ?_
  refine W.base ?_
  exact lw_ret (Drawn.sameBut.refl s.drawn lw_cs) hx hb hr hlocks dL_law_937

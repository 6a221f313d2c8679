set_option maxHeartbeats 8000000 in
set_option maxRecDepth 100000 in
theorem whole_start {p : Program} {e : Env} {s : State} {m : MethodId} {below : List Frame} {meth : Method} {c : Code} (l : Launch) (hflags : l.flags = flags0) {b L : Nat} {xs : Nat → Int32} (hL : L ≤ 1536) (C0 : lw_At p s m meth c b L xs) : W p l e room_1 s m #[Value.ref b] below meth c s.heap [] 0 0 (lw_Z below #[Value.ref b] s) (entryFrame m ([Value.ref b] : List Value).toArray 9) := by
  obtain ⟨hx, hb, hr, hml, hown, hts0, hX, hbl, hlocks, hgv⟩ := id C0
  have hts : ∀ w ∈ lw_all, w.before #[Value.ref b] s = true := fun w h => hts0 w (lw_all_tbl h)
  have hC : CallFix p m c cL_law 9 s #[.ref b] lw_all RL := ⟨hx, hb, hml, hown, hts⟩
  have hst : l.stackTraces = false := by unfold Launch.stackTraces; rw [hflags]; decide +kernel
  have hT := lw_tH hts0 hgv
  have hN := lw_tN hgv
  obtain ⟨q9, t9, hE⟩ := lw_cH hts0 hgv
  have hA : ∀ q : Nat, s.heap.size ≤ q → nw s q := fun _ h => h
  obtain ⟨c0, iS0, hKn0⟩ := u_known (C := RX0) (T := TX0) (N := 16) (n := 16) hts lays_X0 (hts _ mB_MissRegistry)
  obtain ⟨c1, iS1, hKn1⟩ := u_known (C := RX1) (T := TX1) (N := 16) (n := 16) hts lays_X1 (hts _ mB_MissRegistryModel)
  obtain ⟨dC, dI, hKc⟩ : ∃ (dC : Nat → ClassId) (dI : Nat → Nat → Nat), ∀ (k : Nat) (q : vw_C), vwCl[k]? = some q → u_Kn s q.1 q.2.1 q.2.2 (dC k) (dI k) := by
    refine ⟨fun k => if k = 0 then c0 else c1, fun k => if k = 0 then iS0 else iS1, ?_⟩
    intro k q hq
    match k, hq with
    | 0, hq => cases hq; exact hKn0
    | 1, hq => cases hq; exact hKn1
    | k + 2, hq => simp [vwCl] at hq
  have hS : va_S (nw s) s.heap s.heap [] := va_S.rf
  have hK : va_K (dC, dI) vwCl [] s := ⟨hKc, fun k q h => by simp at h⟩
  have hP : va_P (dC, dI) vwCl [] s.heap := fun k q h => by simp at h
  have hD : va_D (nw s) [] := ⟨fun i j p q h => by simp at h, fun k q h => by simp at h⟩
  have hl := lv_entry ([.ref b]) (n := 9) (Nat.le_of_ble_eq_true rfl)
  rw [lg_entry_eq]
  generalize (lg_sl ([.ref b]) ++ List.replicate (9 - (lg_sl ([.ref b])).length) Slot.unset).toArray = ls at hl ⊢
  have hl : lv_has ls 9 [(0, .ref b)] := hl
  refine va_new (ci := 0) (fs := [.null, .null, .null, .null, .null, .int 0, .null, .null, .null, .int 0, .null, .null, .int 0, .int 0, .int 0, .int 0]) (C := RX0) (T := TX0) (N := 16) hx hb hts lays_X0 tyX0 tyX0_ok hown (hts _ mK_L_8) (hts _ mB_MissRegistry) (hts _ mI_MissRegistry) hK hP hD hS hA rfl (fun j hj => by
      match j, hj with
      | 0, _ => rfl
      | 1, _ => rfl
      | 2, _ => rfl
      | 3, _ => rfl
      | 4, _ => rfl
      | 5, _ => rfl
      | 6, _ => rfl
      | 7, _ => rfl
      | 8, _ => rfl
      | 9, _ => rfl
      | 10, _ => rfl
      | 11, _ => rfl
      | 12, _ => rfl
      | 13, _ => rfl
      | 14, _ => rfl
      | 15, _ => rfl
      | k + 16, h => exact absurd h (by omega)) (Nat.le_of_ble_eq_true rfl) (Nat.le_of_ble_eq_true rfl) dL_law_0 (fun h0 H hP hD hS => ?_)
  have hP : va_P (dC, dI) vwCl [(h0, .inr (0, [.null, .null, .null, .null, .null, .int 0, .null, .null, .null, .int 0, .null, .null, .int 0, .int 0, .int 0, .int 0]))] H := hP
  have hD : va_D (nw s) [(h0, .inr (0, [.null, .null, .null, .null, .null, .int 0, .null, .null, .null, .int 0, .null, .null, .int 0, .int 0, .int 0, .int 0]))] := hD
  refine lv_dup hx hb dL_law_3 rfl ?_
  have hF := va_free (wc := [(h0, .inr (0, [.null, .null, .null, .null, .null, .int 0, .null, .null, .null, .int 0, .null, .null, .int 0, .int 0, .int 0, .int 0]))]) hD hS hA [0] rfl
  refine va_callv (va_runI (As := []) (rest := [.ref h0]) hC (c_X0_init l h0 H.size) (cwI 0 hts (gi_cons mC_X0_init) rfl rfl rfl (hts _ mI_MissRegistry) (hts _ mM_L_96) (hts _ mV_X0_init) rfl (by decide +kernel) ⟨Nat.le_of_ble_eq_true rfl, Nat.le_of_ble_eq_true rfl⟩) ⟨fun a U g mk q => by obtain ⟨q0, q1, qP, qK, qD⟩ := q; exact ⟨q0, q1, qP, va_K.moved (u := U) (U := U.calling g mk a) (Vm.Alike.refl U.vm) qK, qD⟩, fun U hU hW => ⟨rfl, by rw [hU], by rw [hU]; exact hP, va_K.moved hW.alike hK, hD.weaken (fun _ _ _ _ => trivial)⟩⟩ rfl rfl hl.1 rfl (lv_room (Nat.le_of_ble_eq_true rfl)) dL_law_4 ⟨Nat.le_of_ble_eq_true rfl, Nat.le_of_ble_eq_true rfl⟩) hS (fun q _ h => hF q h) hF (fun u t H locs ht hvm hw hB hz1 hk1 hS => ?_)
  obtain ⟨hP1, hK1, hD1⟩ := hB
  rw [ht] at hP1
  have hKx : kK (dC, dI) u.1 s := va_K.moved hvm.symm hK1
  have hw8 : u.2 0 = h0 := hw
  obtain ⟨hP, hD⟩ := va_join (wr := []) (w1 := xW u.1 u.2 zf zf zf zf zf 0 zf zf zf 0 zf zf 0 0 0 0) hP hD [0] [] rfl rfl (by decide) (by decide) hk1 hF hP1 hD1
  have hP : va_P (dC, dI) vwCl (xW u.1 u.2 zf zf zf zf zf 0 zf zf zf 0 zf zf 0 0 0 0) H := hP
  have hD : va_D (nw s) (xW u.1 u.2 zf zf zf zf zf 0 zf zf zf 0 zf zf 0 0 0 0) := hD
  refine lv_astore_n (lv' := [(1, .ref h0), (0, .ref b)]) hx hb dL_law_7 rfl hl (by decide) rfl (fun ls hl => ?_)
  refine va_new (ci := 1) (fs := [.int 0, .int 0, .int 0, .null, .null, .null, .null, .null, .null, .null, .null, .null, .int 0, .int 0, .int 0, .int 0]) (C := RX1) (T := TX1) (N := 16) hx hb hts lays_X1 tyX1 tyX1_ok hown (hts _ mK_L_97) (hts _ mB_MissRegistryModel) (hts _ mI_MissRegistryModel) hK hP hD hS hA rfl (fun j hj => by
      match j, hj with
      | 0, _ => rfl
      | 1, _ => rfl
      | 2, _ => rfl
      | 3, _ => rfl
      | 4, _ => rfl
      | 5, _ => rfl
      | 6, _ => rfl
      | 7, _ => rfl
      | 8, _ => rfl
      | 9, _ => rfl
      | 10, _ => rfl
      | 11, _ => rfl
      | 12, _ => rfl
      | 13, _ => rfl
      | 14, _ => rfl
      | 15, _ => rfl
      | k + 16, h => exact absurd h (by omega)) (Nat.le_of_ble_eq_true rfl) (Nat.le_of_ble_eq_true rfl) dL_law_8 (fun h1 H hP hD hS => ?_)
  have hP : va_P (dC, dI) vwCl (xW u.1 u.2 zf zf zf zf zf 0 zf zf zf 0 zf zf 0 0 0 0 ++ [(h1, .inr (1, [.int 0, .int 0, .int 0, .null, .null, .null, .null, .null, .null, .null, .null, .null, .int 0, .int 0, .int 0, .int 0]))]) H := hP
  have hD : va_D (nw s) (xW u.1 u.2 zf zf zf zf zf 0 zf zf zf 0 zf zf 0 0 0 0 ++ [(h1, .inr (1, [.int 0, .int 0, .int 0, .null, .null, .null, .null, .null, .null, .null, .null, .null, .int 0, .int 0, .int 0, .int 0]))]) := hD
  refine lv_dup hx hb dL_law_11 rfl ?_
  have hF := wj_Fr (X := xW u.1 u.2 zf zf zf zf zf 0 zf zf zf 0 zf zf 0 0 0 0) (M := [(h1, .inr (1, [.int 0, .int 0, .int 0, .null, .null, .null, .null, .null, .null, .null, .null, .null, .int 0, .int 0, .int 0, .int 0]))]) hD hS hA
  have hP9 := wj_Pr (X := xW u.1 u.2 zf zf zf zf zf 0 zf zf zf 0 zf zf 0 0 0 0) (M := [(h1, .inr (1, [.int 0, .int 0, .int 0, .null, .null, .null, .null, .null, .null, .null, .null, .null, .int 0, .int 0, .int 0, .int 0]))]) hP
  have hD9 := wj_Dr (X := xW u.1 u.2 zf zf zf zf zf 0 zf zf zf 0 zf zf 0 0 0 0) (M := [(h1, .inr (1, [.int 0, .int 0, .int 0, .null, .null, .null, .null, .null, .null, .null, .null, .null, .int 0, .int 0, .int 0, .int 0]))]) hD
  refine va_callv (va_runI (As := []) (rest := [.ref h1]) hC (c_X1_init l h1 H.size) (cwI 0 hts (gi_cons mC_X1_init) rfl rfl rfl (hts _ mI_MissRegistryModel) (hts _ mM_L_99) (hts _ mV_X1_init) rfl (by decide +kernel) ⟨Nat.le_of_ble_eq_true rfl, Nat.le_of_ble_eq_true rfl⟩) ⟨fun a U g mk q => by obtain ⟨q0, q1, qP, qK, qD⟩ := q; exact ⟨q0, q1, qP, va_K.moved (u := U) (U := U.calling g mk a) (Vm.Alike.refl U.vm) qK, qD⟩, fun U hU hW => ⟨rfl, by rw [hU], by rw [hU]; exact hP9, va_K.moved hW.alike hK, hD9.weaken (fun _ _ _ _ => trivial)⟩⟩ rfl rfl hl.1 rfl (lv_room (Nat.le_of_ble_eq_true rfl)) dL_law_12 ⟨Nat.le_of_ble_eq_true rfl, Nat.le_of_ble_eq_true rfl⟩) hS (fun q _ h => hF q h) hF (fun v t H locs ht hvm hw hB hz1 hk1 hS => ?_)
  obtain ⟨hP1, hK1, hD1⟩ := hB
  rw [ht] at hP1
  have hKm : kK (dC, dI) v.1 s := va_K.moved hvm.symm hK1
  have hw9 : v.2 0 = h1 := hw
  obtain ⟨hP, hD⟩ := wj_r (X := xW u.1 u.2 zf zf zf zf zf 0 zf zf zf 0 zf zf 0 0 0 0) (M := [(h1, .inr (1, [.int 0, .int 0, .int 0, .null, .null, .null, .null, .null, .null, .null, .null, .null, .int 0, .int 0, .int 0, .int 0]))]) hP hD hk1 hF hP1 hD1
  have hP : va_P (dC, dI) vwCl (xW u.1 u.2 zf zf zf zf zf 0 zf zf zf 0 zf zf 0 0 0 0 ++ mW v.1 v.2 0 0 0 zf zf zf zf zf zf zf zf zf 0 0 0 0) H := hP
  have hD : va_D (nw s) (xW u.1 u.2 zf zf zf zf zf 0 zf zf zf 0 zf zf 0 0 0 0 ++ mW v.1 v.2 0 0 0 zf zf zf zf zf zf zf zf zf 0 0 0 0) := hD
  refine lv_astore_n (lv' := [(2, .ref h1), (1, .ref h0), (0, .ref b)]) hx hb dL_law_15 rfl hl (by decide) rfl (fun ls hl => ?_)
  refine lv_iconst (v := 1) hx hb dL_law_16 (by decide) ?_
  refine va_newa (atype := .long) (a0 := (1, .inr (.inl (fun _ => (0 : Int64))))) hx hb (hts _ mA_long) rfl hK hP hD hS hA (fun _ => rfl) (by decide) (by decide) (by decide) (Nat.le_of_ble_eq_true rfl) (Nat.le_of_ble_eq_true rfl) dL_law_17 (fun o cJ H hKj hP hD hS => ?_)
  have hKj : kJ (dC, dI) cJ s := hKj
  have hP := wj_sP (X := xW u.1 u.2 zf zf zf zf zf 0 zf zf zf 0 zf zf 0 0 0 0 ++ mW v.1 v.2 0 0 0 zf zf zf zf zf zf zf zf zf 0 0 0 0) (M := [(o, .inl (cJ, 1, .inr (.inl (fun _ => (0 : Int64)))))]) hP
  have hD := wj_sD (X := xW u.1 u.2 zf zf zf zf zf 0 zf zf zf 0 zf zf 0 0 0 0 ++ mW v.1 v.2 0 0 0 zf zf zf zf zf zf zf zf zf 0 0 0 0) (M := [(o, .inl (cJ, 1, .inr (.inl (fun _ => (0 : Int64)))))]) hD
  rw [← List.append_assoc] at hP hD
  have hP : va_P (dC, dI) vwCl (oW o cJ (fun _ => (0 : Int64)) (xW u.1 u.2 zf zf zf zf zf 0 zf zf zf 0 zf zf 0 0 0 0) ++ mW v.1 v.2 0 0 0 zf zf zf zf zf zf zf zf zf 0 0 0 0) H := hP
  have hD : va_D (nw s) (oW o cJ (fun _ => (0 : Int64)) (xW u.1 u.2 zf zf zf zf zf 0 zf zf zf 0 zf zf 0 0 0 0) ++ mW v.1 v.2 0 0 0 zf zf zf zf zf zf zf zf zf 0 0 0 0) := hD
  refine lv_astore_n (lv' := [(3, .ref o), (2, .ref h1), (1, .ref h0), (0, .ref b)]) hx hb dL_law_19 rfl hl (by decide) rfl (fun ls hl => ?_)
  refine lv_iconst (v := 0) hx hb dL_law_20 (by decide) ?_
  refine lv_istore (lv' := [(4, .int 0), (3, .ref o), (2, .ref h1), (1, .ref h0), (0, .ref b)]) hx hb dL_law_21 hl (by decide) rfl (fun ls hl => ?_)
  have hl : lv_has ls 9 [(0, .ref b), (1, .ref (u.2 0)), (2, .ref (v.2 0)), (3, .ref o), (4, .int (nI 0))] := by rw [hw8, hw9]; exact lv_sub hl [4, 3, 2, 1, 0] rfl
  exact lw_loop ⟨hC, hst, ⟨hX, hbl, hL⟩, ⟨hKx, hKm, hKj⟩, hT, hN, hE⟩ hr hlocks (L + 1) 0 (Nat.zero_le L) (by omega) H _ _ _ ls ⟨zf, zf, zf, zf, zf, 0, zf, zf, zf, 0, zf, zf, 0, 0, 0, 0, zf, zf, 0, _, iv_0, hP, hD, hS⟩ (by omega) (by omega) hl

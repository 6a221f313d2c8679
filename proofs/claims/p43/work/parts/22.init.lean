abbrev zf : Nat → Int32 := fun _ => 0
set_option maxHeartbeats 4000000 in
set_option maxRecDepth 100000 in
theorem c_X0_init (l : Launch) {D : va_G} (h sz : Nat) : Met l yX0_init (ws_ yX0_init cX0_init 1 none) ({ frames := 1, cells := 10, slots := 188, locals := 12 } : Room) (va_Pc [.ref h] (fun U => U.heap.size = sz ∧ va_P D vwCl [(h, .inr (0, [.null, .null, .null, .null, .null, .int 0, .null, .null, .null, .int 0, .null, .null, .int 0, .int 0, .int 0, .int 0]))] U.heap ∧ va_K D vwCl [] U ∧ va_D (fun _ => True) [(h, .inr (0, [.null, .null, .null, .null, .null, .int 0, .null, .null, .null, .int 0, .null, .null, .int 0, .int 0, .int 0, .int 0]))])) (va_Qv (fun u : (ClassId × ClassId) × (Nat → Nat) => u.2 0 = h) (fun u t9 => va_P D vwCl (xW u.1 u.2 zf zf zf zf zf 0 zf zf zf 0 zf zf 0 0 0 0) t9.heap ∧ kK D u.1 t9 ∧ va_D (va_A [(h, .inr (0, [.null, .null, .null, .null, .null, .int 0, .null, .null, .null, .int 0, .null, .null, .int 0, .int 0, .int 0, .int 0]))] sz) (xW u.1 u.2 zf zf zf zf zf 0 zf zf zf 0 zf zf 0 0 0 0)) (va_A [(h, .inr (0, [.null, .null, .null, .null, .null, .int 0, .null, .null, .null, .int 0, .null, .null, .int 0, .int 0, .int 0, .int 0]))] sz)) 10 188 (va_A [(h, .inr (0, [.null, .null, .null, .null, .null, .int 0, .null, .null, .null, .int 0, .null, .null, .int 0, .int 0, .int 0, .int 0]))] sz) := by
  refine Met.ofW (cc := cX0_init) (maxL := 1) (ret := none) (by decide) rfl ?_
  intro p e s m args below meth c s₁ B hml hv
  obtain ⟨rfl, hsz, hP, hK, hD0⟩ := hv
  have hx := B.exec
  have hb := B.bytes
  have hr := B.returns
  have hts := atoms_spec (ws := ws_ yX0_init cX0_init 1 none) B.pre
  have hts : ∀ w ∈ lw_all, w.before _ s = true := fun w h => hts w (List.mem_cons_of_mem _ h)
  have hown : s.vm.findClass RX0 = some m.cls := findClass_of_methodNamed B.named
  have hlocks := B.notSynchronized
  have hin : meth.name = "<init>" := (name_of_methodNamed B.named B.method).1
  subst hsz
  have hD := hD0.self (sz := s.heap.size)
  generalize hAe : va_A [(h, .inr (0, [.null, .null, .null, .null, .null, .int 0, .null, .null, .null, .int 0, .null, .null, .int 0, .int 0, .int 0, .int 0]))] s.heap.size = A at hD ⊢
  have hA : ∀ q : Nat, s.heap.size ≤ q → A q := fun q h => by rw [← hAe]; exact Or.inr h
  have hS : va_S A s.heap s.heap [] := va_S.rf
  have hl := lv_entry ([.ref h]) (n := 1) (Nat.le_of_ble_eq_true rfl)
  rw [lg_entry_eq]
  generalize (lg_sl ([.ref h]) ++ List.replicate (1 - (lg_sl ([.ref h])).length) Slot.unset).toArray = ls at hl ⊢
  have hl : lv_has ls 1 [(0, .ref h)] := hl
  refine lv_aload_n hx hb dX0_init_0 rfl (lv_at hl 0 rfl) ?_
  refine W.objInit hx hb hown (hts _ mM_X0_1) (hts _ mV_obj) (hts _ mC_obj) rfl (by rw [hml]; exact hl.1) rfl dX0_init_1 (Nat.le_of_ble_eq_true rfl) (Nat.le_of_ble_eq_true rfl) ?_
  refine W.eq (g2 := F0 m 4 ls []) rfl ?_
  refine lv_aload_n hx hb dX0_init_4 rfl (lv_at hl 0 rfl) ?_
  refine lv_bipush (v := 10) hx hb dX0_init_5 (by decide) ?_
  refine va_newa (atype := .boolean) (a0 := (10, .inl zf)) hx hb (hts _ mA_boolean) rfl hK hP hD hS hA (fun _ => rfl) (by decide) (by decide) (by decide) (Nat.le_of_ble_eq_true rfl) (Nat.le_of_ble_eq_true rfl) dX0_init_7 (fun q1 c1 H hK hP hD hS => ?_)
  have hK : va_K D vwCl [(c1, .boolean)] s := hK
  have hP : va_P D vwCl [(h, .inr (0, [.null, .null, .null, .null, .null, .int 0, .null, .null, .null, .int 0, .null, .null, .int 0, .int 0, .int 0, .int 0])), (q1, .inl (c1, 10, .inl zf))] H := hP
  have hD : va_D A [(h, .inr (0, [.null, .null, .null, .null, .null, .int 0, .null, .null, .null, .int 0, .null, .null, .int 0, .int 0, .int 0, .int 0])), (q1, .inl (c1, 10, .inl zf))] := hD
  refine va_putF (D := D) (ci := 0) (v := .ref q1) (ty := .array .boolean) (C := RX0) (T := TX0) (N := 16) hx hb hts lays_X0 tyX0 tyX0_ok nmX0 hown hK hP hD hS 0 rfl rfl 0 (by decide) (hts _ mF_X0_9) (fun _ h9 => h9) rfl hin rfl (by decide +kernel) rfl rfl (Nat.le_of_ble_eq_true rfl) dX0_init_9 (fun H locs hP hD hS => ?_)
  have hP : va_P D vwCl [(h, .inr (0, [.ref q1, .null, .null, .null, .null, .int 0, .null, .null, .null, .int 0, .null, .null, .int 0, .int 0, .int 0, .int 0])), (q1, .inl (c1, 10, .inl zf))] H := hP
  have hD : va_D A [(h, .inr (0, [.ref q1, .null, .null, .null, .null, .int 0, .null, .null, .null, .int 0, .null, .null, .int 0, .int 0, .int 0, .int 0])), (q1, .inl (c1, 10, .inl zf))] := hD
  refine lv_aload_n hx hb dX0_init_12 rfl (lv_at hl 0 rfl) ?_
  refine lv_bipush (v := 10) hx hb dX0_init_13 (by decide) ?_
  refine va_newa (atype := .int) (a0 := (10, .inl zf)) hx hb (hts _ mA_int) rfl hK hP hD hS hA (fun _ => rfl) (by decide) (by decide) (by decide) (Nat.le_of_ble_eq_true rfl) (Nat.le_of_ble_eq_true rfl) dX0_init_15 (fun q2 c2 H hK hP hD hS => ?_)
  have hK : va_K D vwCl [(c1, .boolean), (c2, .int)] s := hK
  have hP : va_P D vwCl [(h, .inr (0, [.ref q1, .null, .null, .null, .null, .int 0, .null, .null, .null, .int 0, .null, .null, .int 0, .int 0, .int 0, .int 0])), (q1, .inl (c1, 10, .inl zf)), (q2, .inl (c2, 10, .inl zf))] H := hP
  have hD : va_D A [(h, .inr (0, [.ref q1, .null, .null, .null, .null, .int 0, .null, .null, .null, .int 0, .null, .null, .int 0, .int 0, .int 0, .int 0])), (q1, .inl (c1, 10, .inl zf)), (q2, .inl (c2, 10, .inl zf))] := hD
  refine va_putF (D := D) (ci := 0) (v := .ref q2) (ty := .array .int) (C := RX0) (T := TX0) (N := 16) hx hb hts lays_X0 tyX0 tyX0_ok nmX0 hown hK hP hD hS 0 rfl rfl 1 (by decide) (hts _ mF_X0_13) (fun _ h9 => h9) rfl hin rfl (by decide +kernel) rfl rfl (Nat.le_of_ble_eq_true rfl) dX0_init_17 (fun H locs hP hD hS => ?_)
  have hP : va_P D vwCl [(h, .inr (0, [.ref q1, .ref q2, .null, .null, .null, .int 0, .null, .null, .null, .int 0, .null, .null, .int 0, .int 0, .int 0, .int 0])), (q1, .inl (c1, 10, .inl zf)), (q2, .inl (c2, 10, .inl zf))] H := hP
  have hD : va_D A [(h, .inr (0, [.ref q1, .ref q2, .null, .null, .null, .int 0, .null, .null, .null, .int 0, .null, .null, .int 0, .int 0, .int 0, .int 0])), (q1, .inl (c1, 10, .inl zf)), (q2, .inl (c2, 10, .inl zf))] := hD
  refine lv_aload_n hx hb dX0_init_20 rfl (lv_at hl 0 rfl) ?_
  refine lv_bipush (v := 10) hx hb dX0_init_21 (by decide) ?_
  refine va_newa (atype := .int) (a0 := (10, .inl zf)) hx hb (hts _ mA_int) rfl hK hP hD hS hA (fun _ => rfl) (by decide) (by decide) (by decide) (Nat.le_of_ble_eq_true rfl) (Nat.le_of_ble_eq_true rfl) dX0_init_23 (fun q3 c3 H hK hP hD hS => ?_)
  have hK : va_K D vwCl [(c1, .boolean), (c2, .int), (c3, .int)] s := hK
  have hP : va_P D vwCl [(h, .inr (0, [.ref q1, .ref q2, .null, .null, .null, .int 0, .null, .null, .null, .int 0, .null, .null, .int 0, .int 0, .int 0, .int 0])), (q1, .inl (c1, 10, .inl zf)), (q2, .inl (c2, 10, .inl zf)), (q3, .inl (c3, 10, .inl zf))] H := hP
  have hD : va_D A [(h, .inr (0, [.ref q1, .ref q2, .null, .null, .null, .int 0, .null, .null, .null, .int 0, .null, .null, .int 0, .int 0, .int 0, .int 0])), (q1, .inl (c1, 10, .inl zf)), (q2, .inl (c2, 10, .inl zf)), (q3, .inl (c3, 10, .inl zf))] := hD
  refine va_putF (D := D) (ci := 0) (v := .ref q3) (ty := .array .int) (C := RX0) (T := TX0) (N := 16) hx hb hts lays_X0 tyX0 tyX0_ok nmX0 hown hK hP hD hS 0 rfl rfl 2 (by decide) (hts _ mF_X0_17) (fun _ h9 => h9) rfl hin rfl (by decide +kernel) rfl rfl (Nat.le_of_ble_eq_true rfl) dX0_init_25 (fun H locs hP hD hS => ?_)
  have hP : va_P D vwCl [(h, .inr (0, [.ref q1, .ref q2, .ref q3, .null, .null, .int 0, .null, .null, .null, .int 0, .null, .null, .int 0, .int 0, .int 0, .int 0])), (q1, .inl (c1, 10, .inl zf)), (q2, .inl (c2, 10, .inl zf)), (q3, .inl (c3, 10, .inl zf))] H := hP
  have hD : va_D A [(h, .inr (0, [.ref q1, .ref q2, .ref q3, .null, .null, .int 0, .null, .null, .null, .int 0, .null, .null, .int 0, .int 0, .int 0, .int 0])), (q1, .inl (c1, 10, .inl zf)), (q2, .inl (c2, 10, .inl zf)), (q3, .inl (c3, 10, .inl zf))] := hD
  refine lv_aload_n hx hb dX0_init_28 rfl (lv_at hl 0 rfl) ?_
  refine lv_bipush (v := 10) hx hb dX0_init_29 (by decide) ?_
  refine va_newa (atype := .int) (a0 := (10, .inl zf)) hx hb (hts _ mA_int) rfl hK hP hD hS hA (fun _ => rfl) (by decide) (by decide) (by decide) (Nat.le_of_ble_eq_true rfl) (Nat.le_of_ble_eq_true rfl) dX0_init_31 (fun q4 c4 H hK hP hD hS => ?_)
  have hK : va_K D vwCl [(c1, .boolean), (c2, .int), (c3, .int), (c4, .int)] s := hK
  have hP : va_P D vwCl [(h, .inr (0, [.ref q1, .ref q2, .ref q3, .null, .null, .int 0, .null, .null, .null, .int 0, .null, .null, .int 0, .int 0, .int 0, .int 0])), (q1, .inl (c1, 10, .inl zf)), (q2, .inl (c2, 10, .inl zf)), (q3, .inl (c3, 10, .inl zf)), (q4, .inl (c4, 10, .inl zf))] H := hP
  have hD : va_D A [(h, .inr (0, [.ref q1, .ref q2, .ref q3, .null, .null, .int 0, .null, .null, .null, .int 0, .null, .null, .int 0, .int 0, .int 0, .int 0])), (q1, .inl (c1, 10, .inl zf)), (q2, .inl (c2, 10, .inl zf)), (q3, .inl (c3, 10, .inl zf)), (q4, .inl (c4, 10, .inl zf))] := hD
  refine va_putF (D := D) (ci := 0) (v := .ref q4) (ty := .array .int) (C := RX0) (T := TX0) (N := 16) hx hb hts lays_X0 tyX0 tyX0_ok nmX0 hown hK hP hD hS 0 rfl rfl 3 (by decide) (hts _ mF_X0_20) (fun _ h9 => h9) rfl hin rfl (by decide +kernel) rfl rfl (Nat.le_of_ble_eq_true rfl) dX0_init_33 (fun H locs hP hD hS => ?_)
  have hP : va_P D vwCl [(h, .inr (0, [.ref q1, .ref q2, .ref q3, .ref q4, .null, .int 0, .null, .null, .null, .int 0, .null, .null, .int 0, .int 0, .int 0, .int 0])), (q1, .inl (c1, 10, .inl zf)), (q2, .inl (c2, 10, .inl zf)), (q3, .inl (c3, 10, .inl zf)), (q4, .inl (c4, 10, .inl zf))] H := hP
  have hD : va_D A [(h, .inr (0, [.ref q1, .ref q2, .ref q3, .ref q4, .null, .int 0, .null, .null, .null, .int 0, .null, .null, .int 0, .int 0, .int 0, .int 0])), (q1, .inl (c1, 10, .inl zf)), (q2, .inl (c2, 10, .inl zf)), (q3, .inl (c3, 10, .inl zf)), (q4, .inl (c4, 10, .inl zf))] := hD
  refine lv_aload_n hx hb dX0_init_36 rfl (lv_at hl 0 rfl) ?_
  refine lv_bipush (v := 10) hx hb dX0_init_37 (by decide) ?_
  refine va_newa (atype := .int) (a0 := (10, .inl zf)) hx hb (hts _ mA_int) rfl hK hP hD hS hA (fun _ => rfl) (by decide) (by decide) (by decide) (Nat.le_of_ble_eq_true rfl) (Nat.le_of_ble_eq_true rfl) dX0_init_39 (fun q5 c5 H hK hP hD hS => ?_)
  have hK : va_K D vwCl [(c1, .boolean), (c2, .int), (c3, .int), (c4, .int), (c5, .int)] s := hK
  have hP : va_P D vwCl [(h, .inr (0, [.ref q1, .ref q2, .ref q3, .ref q4, .null, .int 0, .null, .null, .null, .int 0, .null, .null, .int 0, .int 0, .int 0, .int 0])), (q1, .inl (c1, 10, .inl zf)), (q2, .inl (c2, 10, .inl zf)), (q3, .inl (c3, 10, .inl zf)), (q4, .inl (c4, 10, .inl zf)), (q5, .inl (c5, 10, .inl zf))] H := hP
  have hD : va_D A [(h, .inr (0, [.ref q1, .ref q2, .ref q3, .ref q4, .null, .int 0, .null, .null, .null, .int 0, .null, .null, .int 0, .int 0, .int 0, .int 0])), (q1, .inl (c1, 10, .inl zf)), (q2, .inl (c2, 10, .inl zf)), (q3, .inl (c3, 10, .inl zf)), (q4, .inl (c4, 10, .inl zf)), (q5, .inl (c5, 10, .inl zf))] := hD
  refine va_putF (D := D) (ci := 0) (v := .ref q5) (ty := .array .int) (C := RX0) (T := TX0) (N := 16) hx hb hts lays_X0 tyX0 tyX0_ok nmX0 hown hK hP hD hS 0 rfl rfl 4 (by decide) (hts _ mF_X0_23) (fun _ h9 => h9) rfl hin rfl (by decide +kernel) rfl rfl (Nat.le_of_ble_eq_true rfl) dX0_init_41 (fun H locs hP hD hS => ?_)
  have hP : va_P D vwCl [(h, .inr (0, [.ref q1, .ref q2, .ref q3, .ref q4, .ref q5, .int 0, .null, .null, .null, .int 0, .null, .null, .int 0, .int 0, .int 0, .int 0])), (q1, .inl (c1, 10, .inl zf)), (q2, .inl (c2, 10, .inl zf)), (q3, .inl (c3, 10, .inl zf)), (q4, .inl (c4, 10, .inl zf)), (q5, .inl (c5, 10, .inl zf))] H := hP
  have hD : va_D A [(h, .inr (0, [.ref q1, .ref q2, .ref q3, .ref q4, .ref q5, .int 0, .null, .null, .null, .int 0, .null, .null, .int 0, .int 0, .int 0, .int 0])), (q1, .inl (c1, 10, .inl zf)), (q2, .inl (c2, 10, .inl zf)), (q3, .inl (c3, 10, .inl zf)), (q4, .inl (c4, 10, .inl zf)), (q5, .inl (c5, 10, .inl zf))] := hD
  refine lv_aload_n hx hb dX0_init_44 rfl (lv_at hl 0 rfl) ?_
  refine lv_bipush (v := 6) hx hb dX0_init_45 (by decide) ?_
  refine va_newa (atype := .int) (a0 := (6, .inl zf)) hx hb (hts _ mA_int) rfl hK hP hD hS hA (fun _ => rfl) (by decide) (by decide) (by decide) (Nat.le_of_ble_eq_true rfl) (Nat.le_of_ble_eq_true rfl) dX0_init_47 (fun q6 c6 H hK hP hD hS => ?_)
  have hK : va_K D vwCl [(c1, .boolean), (c2, .int), (c3, .int), (c4, .int), (c5, .int), (c6, .int)] s := hK
  have hP : va_P D vwCl [(h, .inr (0, [.ref q1, .ref q2, .ref q3, .ref q4, .ref q5, .int 0, .null, .null, .null, .int 0, .null, .null, .int 0, .int 0, .int 0, .int 0])), (q1, .inl (c1, 10, .inl zf)), (q2, .inl (c2, 10, .inl zf)), (q3, .inl (c3, 10, .inl zf)), (q4, .inl (c4, 10, .inl zf)), (q5, .inl (c5, 10, .inl zf)), (q6, .inl (c6, 6, .inl zf))] H := hP
  have hD : va_D A [(h, .inr (0, [.ref q1, .ref q2, .ref q3, .ref q4, .ref q5, .int 0, .null, .null, .null, .int 0, .null, .null, .int 0, .int 0, .int 0, .int 0])), (q1, .inl (c1, 10, .inl zf)), (q2, .inl (c2, 10, .inl zf)), (q3, .inl (c3, 10, .inl zf)), (q4, .inl (c4, 10, .inl zf)), (q5, .inl (c5, 10, .inl zf)), (q6, .inl (c6, 6, .inl zf))] := hD
  refine va_putF (D := D) (ci := 0) (v := .ref q6) (ty := .array .int) (C := RX0) (T := TX0) (N := 16) hx hb hts lays_X0 tyX0 tyX0_ok nmX0 hown hK hP hD hS 0 rfl rfl 6 (by decide) (hts _ mF_X0_26) (fun _ h9 => h9) rfl hin rfl (by decide +kernel) rfl rfl (Nat.le_of_ble_eq_true rfl) dX0_init_49 (fun H locs hP hD hS => ?_)
  have hP : va_P D vwCl [(h, .inr (0, [.ref q1, .ref q2, .ref q3, .ref q4, .ref q5, .int 0, .ref q6, .null, .null, .int 0, .null, .null, .int 0, .int 0, .int 0, .int 0])), (q1, .inl (c1, 10, .inl zf)), (q2, .inl (c2, 10, .inl zf)), (q3, .inl (c3, 10, .inl zf)), (q4, .inl (c4, 10, .inl zf)), (q5, .inl (c5, 10, .inl zf)), (q6, .inl (c6, 6, .inl zf))] H := hP
  have hD : va_D A [(h, .inr (0, [.ref q1, .ref q2, .ref q3, .ref q4, .ref q5, .int 0, .ref q6, .null, .null, .int 0, .null, .null, .int 0, .int 0, .int 0, .int 0])), (q1, .inl (c1, 10, .inl zf)), (q2, .inl (c2, 10, .inl zf)), (q3, .inl (c3, 10, .inl zf)), (q4, .inl (c4, 10, .inl zf)), (q5, .inl (c5, 10, .inl zf)), (q6, .inl (c6, 6, .inl zf))] := hD
  refine lv_aload_n hx hb dX0_init_52 rfl (lv_at hl 0 rfl) ?_
  refine lv_bipush (v := 6) hx hb dX0_init_53 (by decide) ?_
  refine va_newa (atype := .boolean) (a0 := (6, .inl zf)) hx hb (hts _ mA_boolean) rfl hK hP hD hS hA (fun _ => rfl) (by decide) (by decide) (by decide) (Nat.le_of_ble_eq_true rfl) (Nat.le_of_ble_eq_true rfl) dX0_init_55 (fun q7 c7 H hK hP hD hS => ?_)
  have hK : va_K D vwCl [(c1, .boolean), (c2, .int), (c3, .int), (c4, .int), (c5, .int), (c6, .int), (c7, .boolean)] s := hK
  have hP : va_P D vwCl [(h, .inr (0, [.ref q1, .ref q2, .ref q3, .ref q4, .ref q5, .int 0, .ref q6, .null, .null, .int 0, .null, .null, .int 0, .int 0, .int 0, .int 0])), (q1, .inl (c1, 10, .inl zf)), (q2, .inl (c2, 10, .inl zf)), (q3, .inl (c3, 10, .inl zf)), (q4, .inl (c4, 10, .inl zf)), (q5, .inl (c5, 10, .inl zf)), (q6, .inl (c6, 6, .inl zf)), (q7, .inl (c7, 6, .inl zf))] H := hP
  have hD : va_D A [(h, .inr (0, [.ref q1, .ref q2, .ref q3, .ref q4, .ref q5, .int 0, .ref q6, .null, .null, .int 0, .null, .null, .int 0, .int 0, .int 0, .int 0])), (q1, .inl (c1, 10, .inl zf)), (q2, .inl (c2, 10, .inl zf)), (q3, .inl (c3, 10, .inl zf)), (q4, .inl (c4, 10, .inl zf)), (q5, .inl (c5, 10, .inl zf)), (q6, .inl (c6, 6, .inl zf)), (q7, .inl (c7, 6, .inl zf))] := hD
  refine va_putF (D := D) (ci := 0) (v := .ref q7) (ty := .array .boolean) (C := RX0) (T := TX0) (N := 16) hx hb hts lays_X0 tyX0 tyX0_ok nmX0 hown hK hP hD hS 0 rfl rfl 7 (by decide) (hts _ mF_X0_29) (fun _ h9 => h9) rfl hin rfl (by decide +kernel) rfl rfl (Nat.le_of_ble_eq_true rfl) dX0_init_57 (fun H locs hP hD hS => ?_)
  have hP : va_P D vwCl [(h, .inr (0, [.ref q1, .ref q2, .ref q3, .ref q4, .ref q5, .int 0, .ref q6, .ref q7, .null, .int 0, .null, .null, .int 0, .int 0, .int 0, .int 0])), (q1, .inl (c1, 10, .inl zf)), (q2, .inl (c2, 10, .inl zf)), (q3, .inl (c3, 10, .inl zf)), (q4, .inl (c4, 10, .inl zf)), (q5, .inl (c5, 10, .inl zf)), (q6, .inl (c6, 6, .inl zf)), (q7, .inl (c7, 6, .inl zf))] H := hP
  have hD : va_D A [(h, .inr (0, [.ref q1, .ref q2, .ref q3, .ref q4, .ref q5, .int 0, .ref q6, .ref q7, .null, .int 0, .null, .null, .int 0, .int 0, .int 0, .int 0])), (q1, .inl (c1, 10, .inl zf)), (q2, .inl (c2, 10, .inl zf)), (q3, .inl (c3, 10, .inl zf)), (q4, .inl (c4, 10, .inl zf)), (q5, .inl (c5, 10, .inl zf)), (q6, .inl (c6, 6, .inl zf)), (q7, .inl (c7, 6, .inl zf))] := hD
  refine lv_aload_n hx hb dX0_init_60 rfl (lv_at hl 0 rfl) ?_
  refine lv_bipush (v := 6) hx hb dX0_init_61 (by decide) ?_
  refine va_newa (atype := .int) (a0 := (6, .inl zf)) hx hb (hts _ mA_int) rfl hK hP hD hS hA (fun _ => rfl) (by decide) (by decide) (by decide) (Nat.le_of_ble_eq_true rfl) (Nat.le_of_ble_eq_true rfl) dX0_init_63 (fun q8 c8 H hK hP hD hS => ?_)
  have hK : va_K D vwCl [(c1, .boolean), (c2, .int), (c3, .int), (c4, .int), (c5, .int), (c6, .int), (c7, .boolean), (c8, .int)] s := hK
  have hP : va_P D vwCl [(h, .inr (0, [.ref q1, .ref q2, .ref q3, .ref q4, .ref q5, .int 0, .ref q6, .ref q7, .null, .int 0, .null, .null, .int 0, .int 0, .int 0, .int 0])), (q1, .inl (c1, 10, .inl zf)), (q2, .inl (c2, 10, .inl zf)), (q3, .inl (c3, 10, .inl zf)), (q4, .inl (c4, 10, .inl zf)), (q5, .inl (c5, 10, .inl zf)), (q6, .inl (c6, 6, .inl zf)), (q7, .inl (c7, 6, .inl zf)), (q8, .inl (c8, 6, .inl zf))] H := hP
  have hD : va_D A [(h, .inr (0, [.ref q1, .ref q2, .ref q3, .ref q4, .ref q5, .int 0, .ref q6, .ref q7, .null, .int 0, .null, .null, .int 0, .int 0, .int 0, .int 0])), (q1, .inl (c1, 10, .inl zf)), (q2, .inl (c2, 10, .inl zf)), (q3, .inl (c3, 10, .inl zf)), (q4, .inl (c4, 10, .inl zf)), (q5, .inl (c5, 10, .inl zf)), (q6, .inl (c6, 6, .inl zf)), (q7, .inl (c7, 6, .inl zf)), (q8, .inl (c8, 6, .inl zf))] := hD
  refine va_putF (D := D) (ci := 0) (v := .ref q8) (ty := .array .int) (C := RX0) (T := TX0) (N := 16) hx hb hts lays_X0 tyX0 tyX0_ok nmX0 hown hK hP hD hS 0 rfl rfl 8 (by decide) (hts _ mF_X0_32) (fun _ h9 => h9) rfl hin rfl (by decide +kernel) rfl rfl (Nat.le_of_ble_eq_true rfl) dX0_init_65 (fun H locs hP hD hS => ?_)
  have hP : va_P D vwCl [(h, .inr (0, [.ref q1, .ref q2, .ref q3, .ref q4, .ref q5, .int 0, .ref q6, .ref q7, .ref q8, .int 0, .null, .null, .int 0, .int 0, .int 0, .int 0])), (q1, .inl (c1, 10, .inl zf)), (q2, .inl (c2, 10, .inl zf)), (q3, .inl (c3, 10, .inl zf)), (q4, .inl (c4, 10, .inl zf)), (q5, .inl (c5, 10, .inl zf)), (q6, .inl (c6, 6, .inl zf)), (q7, .inl (c7, 6, .inl zf)), (q8, .inl (c8, 6, .inl zf))] H := hP
  have hD : va_D A [(h, .inr (0, [.ref q1, .ref q2, .ref q3, .ref q4, .ref q5, .int 0, .ref q6, .ref q7, .ref q8, .int 0, .null, .null, .int 0, .int 0, .int 0, .int 0])), (q1, .inl (c1, 10, .inl zf)), (q2, .inl (c2, 10, .inl zf)), (q3, .inl (c3, 10, .inl zf)), (q4, .inl (c4, 10, .inl zf)), (q5, .inl (c5, 10, .inl zf)), (q6, .inl (c6, 6, .inl zf)), (q7, .inl (c7, 6, .inl zf)), (q8, .inl (c8, 6, .inl zf))] := hD
  refine lv_aload_n hx hb dX0_init_68 rfl (lv_at hl 0 rfl) ?_
  refine lv_bipush (v := 60) hx hb dX0_init_69 (by decide) ?_
  refine va_newa (atype := .int) (a0 := (60, .inl zf)) hx hb (hts _ mA_int) rfl hK hP hD hS hA (fun _ => rfl) (by decide) (by decide) (by decide) (Nat.le_of_ble_eq_true rfl) (Nat.le_of_ble_eq_true rfl) dX0_init_71 (fun q9 c9 H hK hP hD hS => ?_)
  have hK : va_K D vwCl [(c1, .boolean), (c2, .int), (c3, .int), (c4, .int), (c5, .int), (c6, .int), (c7, .boolean), (c8, .int), (c9, .int)] s := hK
  have hP : va_P D vwCl [(h, .inr (0, [.ref q1, .ref q2, .ref q3, .ref q4, .ref q5, .int 0, .ref q6, .ref q7, .ref q8, .int 0, .null, .null, .int 0, .int 0, .int 0, .int 0])), (q1, .inl (c1, 10, .inl zf)), (q2, .inl (c2, 10, .inl zf)), (q3, .inl (c3, 10, .inl zf)), (q4, .inl (c4, 10, .inl zf)), (q5, .inl (c5, 10, .inl zf)), (q6, .inl (c6, 6, .inl zf)), (q7, .inl (c7, 6, .inl zf)), (q8, .inl (c8, 6, .inl zf)), (q9, .inl (c9, 60, .inl zf))] H := hP
  have hD : va_D A [(h, .inr (0, [.ref q1, .ref q2, .ref q3, .ref q4, .ref q5, .int 0, .ref q6, .ref q7, .ref q8, .int 0, .null, .null, .int 0, .int 0, .int 0, .int 0])), (q1, .inl (c1, 10, .inl zf)), (q2, .inl (c2, 10, .inl zf)), (q3, .inl (c3, 10, .inl zf)), (q4, .inl (c4, 10, .inl zf)), (q5, .inl (c5, 10, .inl zf)), (q6, .inl (c6, 6, .inl zf)), (q7, .inl (c7, 6, .inl zf)), (q8, .inl (c8, 6, .inl zf)), (q9, .inl (c9, 60, .inl zf))] := hD
  refine va_putF (D := D) (ci := 0) (v := .ref q9) (ty := .array .int) (C := RX0) (T := TX0) (N := 16) hx hb hts lays_X0 tyX0 tyX0_ok nmX0 hown hK hP hD hS 0 rfl rfl 10 (by decide) (hts _ mF_X0_35) (fun _ h9 => h9) rfl hin rfl (by decide +kernel) rfl rfl (Nat.le_of_ble_eq_true rfl) dX0_init_73 (fun H locs hP hD hS => ?_)
  have hP : va_P D vwCl [(h, .inr (0, [.ref q1, .ref q2, .ref q3, .ref q4, .ref q5, .int 0, .ref q6, .ref q7, .ref q8, .int 0, .ref q9, .null, .int 0, .int 0, .int 0, .int 0])), (q1, .inl (c1, 10, .inl zf)), (q2, .inl (c2, 10, .inl zf)), (q3, .inl (c3, 10, .inl zf)), (q4, .inl (c4, 10, .inl zf)), (q5, .inl (c5, 10, .inl zf)), (q6, .inl (c6, 6, .inl zf)), (q7, .inl (c7, 6, .inl zf)), (q8, .inl (c8, 6, .inl zf)), (q9, .inl (c9, 60, .inl zf))] H := hP
  have hD : va_D A [(h, .inr (0, [.ref q1, .ref q2, .ref q3, .ref q4, .ref q5, .int 0, .ref q6, .ref q7, .ref q8, .int 0, .ref q9, .null, .int 0, .int 0, .int 0, .int 0])), (q1, .inl (c1, 10, .inl zf)), (q2, .inl (c2, 10, .inl zf)), (q3, .inl (c3, 10, .inl zf)), (q4, .inl (c4, 10, .inl zf)), (q5, .inl (c5, 10, .inl zf)), (q6, .inl (c6, 6, .inl zf)), (q7, .inl (c7, 6, .inl zf)), (q8, .inl (c8, 6, .inl zf)), (q9, .inl (c9, 60, .inl zf))] := hD
  refine lv_aload_n hx hb dX0_init_76 rfl (lv_at hl 0 rfl) ?_
  refine lv_bipush (v := 60) hx hb dX0_init_77 (by decide) ?_
  refine va_newa (atype := .int) (a0 := (60, .inl zf)) hx hb (hts _ mA_int) rfl hK hP hD hS hA (fun _ => rfl) (by decide) (by decide) (by decide) (Nat.le_of_ble_eq_true rfl) (Nat.le_of_ble_eq_true rfl) dX0_init_79 (fun q10 c10 H hK hP hD hS => ?_)
  have hK : va_K D vwCl [(c1, .boolean), (c2, .int), (c3, .int), (c4, .int), (c5, .int), (c6, .int), (c7, .boolean), (c8, .int), (c9, .int), (c10, .int)] s := hK
  have hP : va_P D vwCl [(h, .inr (0, [.ref q1, .ref q2, .ref q3, .ref q4, .ref q5, .int 0, .ref q6, .ref q7, .ref q8, .int 0, .ref q9, .null, .int 0, .int 0, .int 0, .int 0])), (q1, .inl (c1, 10, .inl zf)), (q2, .inl (c2, 10, .inl zf)), (q3, .inl (c3, 10, .inl zf)), (q4, .inl (c4, 10, .inl zf)), (q5, .inl (c5, 10, .inl zf)), (q6, .inl (c6, 6, .inl zf)), (q7, .inl (c7, 6, .inl zf)), (q8, .inl (c8, 6, .inl zf)), (q9, .inl (c9, 60, .inl zf)), (q10, .inl (c10, 60, .inl zf))] H := hP
  have hD : va_D A [(h, .inr (0, [.ref q1, .ref q2, .ref q3, .ref q4, .ref q5, .int 0, .ref q6, .ref q7, .ref q8, .int 0, .ref q9, .null, .int 0, .int 0, .int 0, .int 0])), (q1, .inl (c1, 10, .inl zf)), (q2, .inl (c2, 10, .inl zf)), (q3, .inl (c3, 10, .inl zf)), (q4, .inl (c4, 10, .inl zf)), (q5, .inl (c5, 10, .inl zf)), (q6, .inl (c6, 6, .inl zf)), (q7, .inl (c7, 6, .inl zf)), (q8, .inl (c8, 6, .inl zf)), (q9, .inl (c9, 60, .inl zf)), (q10, .inl (c10, 60, .inl zf))] := hD
  refine va_putF (D := D) (ci := 0) (v := .ref q10) (ty := .array .int) (C := RX0) (T := TX0) (N := 16) hx hb hts lays_X0 tyX0 tyX0_ok nmX0 hown hK hP hD hS 0 rfl rfl 11 (by decide) (hts _ mF_X0_38) (fun _ h9 => h9) rfl hin rfl (by decide +kernel) rfl rfl (Nat.le_of_ble_eq_true rfl) dX0_init_81 (fun H locs hP hD hS => ?_)
  have hP : va_P D vwCl [(h, .inr (0, [.ref q1, .ref q2, .ref q3, .ref q4, .ref q5, .int 0, .ref q6, .ref q7, .ref q8, .int 0, .ref q9, .ref q10, .int 0, .int 0, .int 0, .int 0])), (q1, .inl (c1, 10, .inl zf)), (q2, .inl (c2, 10, .inl zf)), (q3, .inl (c3, 10, .inl zf)), (q4, .inl (c4, 10, .inl zf)), (q5, .inl (c5, 10, .inl zf)), (q6, .inl (c6, 6, .inl zf)), (q7, .inl (c7, 6, .inl zf)), (q8, .inl (c8, 6, .inl zf)), (q9, .inl (c9, 60, .inl zf)), (q10, .inl (c10, 60, .inl zf))] H := hP
  have hD : va_D A [(h, .inr (0, [.ref q1, .ref q2, .ref q3, .ref q4, .ref q5, .int 0, .ref q6, .ref q7, .ref q8, .int 0, .ref q9, .ref q10, .int 0, .int 0, .int 0, .int 0])), (q1, .inl (c1, 10, .inl zf)), (q2, .inl (c2, 10, .inl zf)), (q3, .inl (c3, 10, .inl zf)), (q4, .inl (c4, 10, .inl zf)), (q5, .inl (c5, 10, .inl zf)), (q6, .inl (c6, 6, .inl zf)), (q7, .inl (c7, 6, .inl zf)), (q8, .inl (c8, 6, .inl zf)), (q9, .inl (c9, 60, .inl zf)), (q10, .inl (c10, 60, .inl zf))] := hD
  have e3 : c2 = c3 := Option.some.inj ((show s.vm.findClass _ = some c2 from (hK.2 1 _ rfl).2).symm.trans (show s.vm.findClass _ = some c3 from (hK.2 2 _ rfl).2))
  have e4 : c2 = c4 := Option.some.inj ((show s.vm.findClass _ = some c2 from (hK.2 1 _ rfl).2).symm.trans (show s.vm.findClass _ = some c4 from (hK.2 3 _ rfl).2))
  have e5 : c2 = c5 := Option.some.inj ((show s.vm.findClass _ = some c2 from (hK.2 1 _ rfl).2).symm.trans (show s.vm.findClass _ = some c5 from (hK.2 4 _ rfl).2))
  have e6 : c2 = c6 := Option.some.inj ((show s.vm.findClass _ = some c2 from (hK.2 1 _ rfl).2).symm.trans (show s.vm.findClass _ = some c6 from (hK.2 5 _ rfl).2))
  have e8 : c2 = c8 := Option.some.inj ((show s.vm.findClass _ = some c2 from (hK.2 1 _ rfl).2).symm.trans (show s.vm.findClass _ = some c8 from (hK.2 7 _ rfl).2))
  have e9 : c2 = c9 := Option.some.inj ((show s.vm.findClass _ = some c2 from (hK.2 1 _ rfl).2).symm.trans (show s.vm.findClass _ = some c9 from (hK.2 8 _ rfl).2))
  have e10 : c2 = c10 := Option.some.inj ((show s.vm.findClass _ = some c2 from (hK.2 1 _ rfl).2).symm.trans (show s.vm.findClass _ = some c10 from (hK.2 9 _ rfl).2))
  have e7 : c1 = c7 := Option.some.inj ((show s.vm.findClass _ = some c1 from (hK.2 0 _ rfl).2).symm.trans (show s.vm.findClass _ = some c7 from (hK.2 6 _ rfl).2))
  subst e3
  subst e4
  subst e5
  subst e6
  subst e8
  subst e9
  subst e10
  subst e7
  refine W.widen (k := 10) (n := 188) (by omega) (by omega) ?_
  have hK9 : kK D (c2, c1) s := hK.sub [1, 0] rfl
  exact W.vret hx hb hr (fun t ht hW => ⟨⟨((c2, c1), (fun j => ([h, q1, q2, q3, q4, q5, q6, q7, q8, q9, q10] : List Nat).getD j 0)), rfl, rfl, by rw [ht]; exact hP, va_K.moved hW.alike hK9, hD⟩, hS.F ht⟩) hS.2.2 dX0_init_84

/-- two groups of cells change places -/
theorem wj_xP {D : va_G} {cl : List vw_C} {X Y M : va_W} {H : Heap} (h : va_P D cl (X ++ (Y ++ M)) H) : va_P D cl (Y ++ (X ++ M)) H := by
  rw [wj_mP] at h ⊢
  intro q hq
  refine h q ?_
  simp only [List.mem_append] at hq ⊢
  rcases hq with h | h | h
  · exact Or.inr (Or.inl h)
  · exact Or.inl h
  · exact Or.inr (Or.inr h)
theorem wj_xD {A : Nat → Prop} {X Y M : va_W} (h : va_D A (X ++ (Y ++ M))) : va_D A (Y ++ (X ++ M)) := by
  rw [wj_mD] at h ⊢
  refine ⟨nd_perm h.1 (fun a => ?_), fun q hq => ?_⟩
  · simp only [List.map_append, List.count_append]; omega
  · refine h.2 q ?_
    simp only [List.mem_append] at hq ⊢
    rcases hq with h | h | h
    · exact Or.inr (Or.inl h)
    · exact Or.inl h
    · exact Or.inr (Or.inr h)
/-- a text that was made, as its readers read it -/
theorem sH_of {D : va_G} {cB : ClassId} {s : State} {args : Array Value} {H : Heap} {B : Nat → Prop} {ws : va_W} {i j u sa c : Nat} {f : Nat → Int32} (hts : ∀ w ∈ lw_all, w.before args s = true) (hK : va_K D vwCl [(cB, .byte)] s) (hP : va_P D vwCl ws H) (hi : ws[i]? = some (u, .inl (cB, c, .inl f))) (hj : ws[j]? = some (sa, .inr (2, [.ref u, .int 0, .int 0, .int 0]))) (h1 : ¬ B u) (h2 : ¬ B sa) : sH sa u c f B s H := by
  obtain ⟨r, hr, cell, g1, g2, g3, g4⟩ := hP j _ hj
  have hr : (RJ0, TJ0, 4) = r := Option.some.inj hr
  subst hr
  have hk := hK.1 2 _ rfl
  have hcl := hk.2.1
  have fld : ∀ k, k < 4 → ∀ v, ([.ref u, .int 0, .int 0, .int 0] : List Value)[k]? = some v → va_OF (TJ0 k).1 (TJ0 k).2.1 (TJ0 k).2.2.1 v sa B s H := by
    intro k hk4 v hv
    obtain ⟨hS, hfc, kC, hkC, -⟩ := hK.1 2 _ rfl
    obtain ⟨cf, kf, fi, fd, hi, hsl⟩ := hS k hk4
    refine ⟨cf, kf, fi, fd, cell, hi, (u_facts hfc hkC (u_lays hts lays_J0 hk4) hi).1, g1, (by rw [g3]; exact fun h => by cases h), ?_, h2⟩
    rw [hsl, g4 k hk4]
    show some (([.ref u, .int 0, .int 0, .int 0] : List Value).getD k .null) = _
    rw [List.getD_eq_getElem?_getD, hv]
    rfl
  refine ⟨⟨cell, g1, by rw [g3]; rfl, by rw [g2]; exact hcl, h2⟩, fld 1 (by decide) _ rfl, fld 0 (by decide) _ rfl, ?_⟩
  refine ⟨vp_cell cB (c, .inl f), hP i _ hi, (hK.2 0 _ rfl).1 c _, (fun h => by cases h), ?_, ?_, fun t ht => ?_, h1⟩
  · show c ≤ (arrV _ _ _).slots.size
    rw [arrV_size]
    exact Nat.le_refl c
  · show (arrV _ _ _).slots.size.toInt32 = _
    rw [arrV_size]
  · show (arrV _ _ _).slots[t]? = _
    rw [arrV_read _ _ ht]
set_option maxHeartbeats 4000000 in
set_option maxRecDepth 100000 in
theorem c_J5_init_d00df (l : Launch) (sz : Nat) {D : va_G}  {b9 : Nat}  : Met l yJ5_init_d00df (ws_ yJ5_init_d00df cJ5_init_d00df 2 none) ({ frames := 1, cells := 1, slots := 16, locals := 12 } : Room) (va_Pc [.ref b9, .int 16] (fun U => U.heap.size = sz ∧ (va_P D vwCl ([(b9, .inr (3, [.null, .int 0, .int 0, .int 0]))]) U.heap ∧ va_K D vwCl [] U) ∧ va_D (fun _ => True) ([(b9, .inr (3, [.null, .int 0, .int 0, .int 0]))]) ∧ jH (va_A ([(b9, .inr (3, [.null, .int 0, .int 0, .int 0]))]) sz) U U.heap)) (va_Qv (fun u : ClassId × Nat => True) (fun u t9 => va_P D vwCl ([(b9, .inr (3, [.ref u.2, .int 0, .int 0, .int 0])), (u.2, .inl (u.1, 16, .inl (fun _ => 0)))]) t9.heap ∧ va_D (va_A ([(b9, .inr (3, [.null, .int 0, .int 0, .int 0]))]) sz) ([(b9, .inr (3, [.ref u.2, .int 0, .int 0, .int 0])), (u.2, .inl (u.1, 16, .inl (fun _ => 0)))]) ∧ va_K D vwCl [(u.1, .byte)] t9) (va_A ([(b9, .inr (3, [.null, .int 0, .int 0, .int 0]))]) sz)) 1 16 (va_A ([(b9, .inr (3, [.null, .int 0, .int 0, .int 0]))]) sz) := by
  refine Met.ofW (cc := cJ5_init_d00df) (maxL := 2) (ret := none) (by decide) rfl ?_
  intro p e s m args below meth c s₁ B hml hv
  obtain ⟨rfl, hsz, ⟨hP, hK⟩, hD0, hJ⟩ := hv
  have hx := B.exec
  have hb := B.bytes
  have hr := B.returns
  have hts := atoms_spec (ws := ws_ yJ5_init_d00df cJ5_init_d00df 2 none) B.pre
  have hts : ∀ w ∈ lw_all, w.before _ s = true := fun w h => hts w (List.mem_cons_of_mem _ h)
  have hown : s.vm.findClass RJ5 = some m.cls := findClass_of_methodNamed B.named
  have hlocks := B.notSynchronized
  have hC : CallFix p m c cJ5_init_d00df 2 s _ lw_all RJ5 := ⟨hx, hb, hml, hown, hts⟩
  subst hsz
  have hD := hD0.self (sz := s.heap.size)
  generalize hAe : va_A ([(b9, .inr (3, [.null, .int 0, .int 0, .int 0]))]) s.heap.size = A at hD hJ ⊢
  have hA : ∀ q : Nat, s.heap.size ≤ q → A q := fun q h => by rw [← hAe]; exact Or.inr h
  have hS : va_S A s.heap s.heap [] := va_S.rf
  have hl := lv_entry ([.ref b9, .int 16]) (n := 2) (Nat.le_of_ble_eq_true rfl)
  rw [lg_entry_eq]
  generalize (lg_sl ([.ref b9, .int 16]) ++ List.replicate (2 - (lg_sl ([.ref b9, .int 16])).length) Slot.unset).toArray = ls at hl ⊢
  have hl : lv_has ls 2 [(0, .ref b9), (1, .int 16)] := hl
  obtain ⟨H, hH⟩ : ∃ H : Heap, H = s.heap := ⟨_, rfl⟩
  rw [← hH] at hP
  have hS : va_S A s.heap H [] := by rw [hH]; exact va_S.rf
  rw [← hH]
  refine lv_aload_n hx hb dJ5_init_d00df_0 rfl (lv_at hl 0 rfl) ?_
  refine W.objInit hx hb hown (hts _ mM_J5_3) (hts _ mV_obj) (hts _ mC_obj) rfl (by rw [hml]; exact hl.1) rfl dJ5_init_d00df_1 (Nat.le_of_ble_eq_true rfl) (Nat.le_of_ble_eq_true rfl) ?_
  refine W.eq (g2 := F0 m 4 ls []) rfl ?_
  refine va_gets hx hb hJ.1 hS hown (hts _ mF_J5_18) (fun _ h9 => h9) dJ5_init_d00df_4 ?_
  refine lv_if_eq (tgt := 25) hx hb dJ5_init_d00df_7 (by decide) (fun c_7 => ?_) (fun c_7 => ?_)
  · exact absurd c_7 (by decide)
  · refine lv_aload_n hx hb dJ5_init_d00df_10 rfl (lv_at hl 0 rfl) ?_
    refine lv_iload_n hx hb dJ5_init_d00df_11 rfl (lv_at hl 1 rfl) ?_
    refine va_newa (atype := .byte) (ty := .byte) (N' := 16) (a0 := (16, .inl (fun _ => 0))) hx hb (hts _ mA_byte) rfl hK hP hD hS hA (fun _ => rfl) (by decide) (by decide) (by decide) (by show _ ≤ 1; omega) (by show _ ≤ 16; omega) dJ5_init_d00df_12 (fun q12 cB H hK hP hD hS => ?_)
    have hP : va_P D vwCl ([(b9, .inr (3, [.null, .int 0, .int 0, .int 0])), (q12, .inl (cB, 16, .inl (fun _ => 0)))]) H := hP
    have hD : va_D A ([(b9, .inr (3, [.null, .int 0, .int 0, .int 0])), (q12, .inl (cB, 16, .inl (fun _ => 0)))]) := hD
    refine va_put (D := D) (ci := 3) (v := .ref q12) (ty := .array .byte) (C := RJ4) (T := TJ4) (N := 4) hx hb hts lays_J4 tyJ4 tyJ4_ok nmJ4 hown hK hP hD hS 0 rfl rfl 0 (by decide) (hts _ mF_J5_15) (fun _ h9 => h9) rfl (by decide +kernel) rfl rfl (Nat.le_of_ble_eq_true rfl) dJ5_init_d00df_14 (fun H locs hP hD hS => ?_)
    have hP : va_P D vwCl ([(b9, .inr (3, [.ref q12, .int 0, .int 0, .int 0])), (q12, .inl (cB, 16, .inl (fun _ => 0)))]) H := hP
    have hD : va_D A ([(b9, .inr (3, [.ref q12, .int 0, .int 0, .int 0])), (q12, .inl (cB, 16, .inl (fun _ => 0)))]) := hD
    refine lv_aload_n hx hb dJ5_init_d00df_17 rfl (lv_at hl 0 rfl) ?_
    refine lv_iconst (v := 0) hx hb dJ5_init_d00df_18 (by decide) ?_
    refine va_put (D := D) (ci := 3) (v := .int 0) (ty := .byte) (C := RJ4) (T := TJ4) (N := 4) hx hb hts lays_J4 tyJ4 tyJ4_ok nmJ4 hown hK hP hD hS 0 rfl rfl 1 (by decide) (hts _ mF_J5_22) (fun _ h9 => h9) rfl (by decide +kernel) rfl rfl (Nat.le_of_ble_eq_true rfl) dJ5_init_d00df_19 (fun H locs hP hD hS => ?_)
    have hP : va_P D vwCl ([(b9, .inr (3, [.ref q12, .int 0, .int 0, .int 0])), (q12, .inl (cB, 16, .inl (fun _ => 0)))]) H := hP
    have hD : va_D A ([(b9, .inr (3, [.ref q12, .int 0, .int 0, .int 0])), (q12, .inl (cB, 16, .inl (fun _ => 0)))]) := hD
    refine lv_goto (tgt := 38) hx hb dJ5_init_d00df_22 (by decide) ?_
    have hP : va_P D vwCl ([(b9, .inr (3, [.ref ((cB, q12) : ClassId × Nat).2, .int 0, .int 0, .int 0])), (((cB, q12) : ClassId × Nat).2, .inl (((cB, q12) : ClassId × Nat).1, 16, .inl (fun _ => 0)))]) H := hP
    have hD : va_D A ([(b9, .inr (3, [.ref ((cB, q12) : ClassId × Nat).2, .int 0, .int 0, .int 0])), (((cB, q12) : ClassId × Nat).2, .inl (((cB, q12) : ClassId × Nat).1, 16, .inl (fun _ => 0)))]) := hD
    refine W.widen (k := 1) (n := 16) (by omega) (by omega) ?_
    exact W.vret hx hb hr (fun t ht hW => ⟨⟨((cB, q12) : ClassId × Nat), rfl, trivial, by rw [ht]; exact hP, hD, va_K.moved hW.alike hK⟩, hS.F ht⟩) hS.2.2 dJ5_init_d00df_38
set_option maxHeartbeats 4000000 in
set_option maxRecDepth 100000 in
theorem c_J4_init_da8c8 (l : Launch) (sz : Nat) {D : va_G}  {b9 : Nat}  : Met l yJ4_init_da8c8 (ws_ yJ4_init_da8c8 cJ4_init_da8c8 1 none) ({ frames := 2, cells := 1, slots := 16, locals := 33 } : Room) (va_Pc [.ref b9] (fun U => U.heap.size = sz ∧ (va_P D vwCl ([(b9, .inr (3, [.null, .int 0, .int 0, .int 0]))]) U.heap ∧ va_K D vwCl [] U) ∧ va_D (fun _ => True) ([(b9, .inr (3, [.null, .int 0, .int 0, .int 0]))]) ∧ jH (va_A ([(b9, .inr (3, [.null, .int 0, .int 0, .int 0]))]) sz) U U.heap)) (va_Qv (fun u : ClassId × Nat => True) (fun u t9 => va_P D vwCl ([(b9, .inr (3, [.ref u.2, .int 0, .int 0, .int 0])), (u.2, .inl (u.1, 16, .inl (fun _ => 0)))]) t9.heap ∧ va_D (va_A ([(b9, .inr (3, [.null, .int 0, .int 0, .int 0]))]) sz) ([(b9, .inr (3, [.ref u.2, .int 0, .int 0, .int 0])), (u.2, .inl (u.1, 16, .inl (fun _ => 0)))]) ∧ va_K D vwCl [(u.1, .byte)] t9) (va_A ([(b9, .inr (3, [.null, .int 0, .int 0, .int 0]))]) sz)) 1 16 (va_A ([(b9, .inr (3, [.null, .int 0, .int 0, .int 0]))]) sz) := by
  refine Met.ofW (cc := cJ4_init_da8c8) (maxL := 1) (ret := none) (by decide) rfl ?_
  intro p e s m args below meth c s₁ B hml hv
  obtain ⟨rfl, hsz, ⟨hP, hK⟩, hD0, hJ⟩ := hv
  have hx := B.exec
  have hb := B.bytes
  have hr := B.returns
  have hts := atoms_spec (ws := ws_ yJ4_init_da8c8 cJ4_init_da8c8 1 none) B.pre
  have hts : ∀ w ∈ lw_all, w.before _ s = true := fun w h => hts w (List.mem_cons_of_mem _ h)
  have hown : s.vm.findClass RJ4 = some m.cls := findClass_of_methodNamed B.named
  have hlocks := B.notSynchronized
  have hC : CallFix p m c cJ4_init_da8c8 1 s _ lw_all RJ4 := ⟨hx, hb, hml, hown, hts⟩
  subst hsz
  have hD := hD0.self (sz := s.heap.size)
  generalize hAe : va_A ([(b9, .inr (3, [.null, .int 0, .int 0, .int 0]))]) s.heap.size = A at hD hJ ⊢
  have hA : ∀ q : Nat, s.heap.size ≤ q → A q := fun q h => by rw [← hAe]; exact Or.inr h
  have hS : va_S A s.heap s.heap [] := va_S.rf
  have hl := lv_entry ([.ref b9]) (n := 1) (Nat.le_of_ble_eq_true rfl)
  rw [lg_entry_eq]
  generalize (lg_sl ([.ref b9]) ++ List.replicate (1 - (lg_sl ([.ref b9])).length) Slot.unset).toArray = ls at hl ⊢
  have hl : lv_has ls 1 [(0, .ref b9)] := hl
  obtain ⟨H, hH⟩ : ∃ H : Heap, H = s.heap := ⟨_, rfl⟩
  rw [← hH] at hP
  have hS : va_S A s.heap H [] := by rw [hH]; exact va_S.rf
  rw [← hH]
  refine lv_aload_n hx hb dJ4_init_da8c8_0 rfl (lv_at hl 0 rfl) ?_
  refine lv_bipush (v := 16) hx hb dJ4_init_da8c8_1 (by decide) ?_
  have hF := wj_F hD hS hA
  refine va_callv (va_runI (As := [.int 16]) (rest := []) hC (c_J5_init_d00df l H.size ) (cwI 1 hts (gi_cons mC_J5_init_d00df) rfl rfl rfl (hts _ mI_AbstractStringBuilder) (hts _ mM_J4_1) (hts _ mV_J5_init_d00df) rfl (by decide +kernel) ⟨Nat.le_of_ble_eq_true rfl, Nat.le_of_ble_eq_true rfl⟩) ⟨fun a1 U g mk q9 => ⟨q9.1, q9.2.1, ⟨q9.2.2.1.1, va_K.moved (u := U) (U := U.calling g mk a1) (Vm.Alike.refl U.vm) q9.2.2.1.2⟩, q9.2.2.2.1, jH.moved (u := U) (U := U.calling g mk a1) (Vm.Alike.refl U.vm) q9.2.2.2.2⟩, fun U hU hW => ⟨rfl, by rw [hU], ⟨by rw [hU]; exact hP, va_K.moved hW.alike hK⟩, hD.weaken (fun _ _ _ _ => trivial), (by rw [hU]; exact ((hJ.kept hS.2.1).narrow hF).moved hW.alike)⟩⟩ rfl rfl hl.1 rfl (lv_room (Nat.le_of_ble_eq_true rfl)) dJ4_init_da8c8_3 ⟨(by show _ ≤ 1; omega), (by show _ ≤ 16; omega)⟩) hS (fun q _ h => hF q h) hF (fun u9 t H locs ht hvm hw hB hz1 hk1 hS => ?_)
  obtain ⟨hP, hD, hK1⟩ := hB
  rw [ht] at hP
  have hD := hD.weaken (fun _ q9 _ h => hF q9.1 h)
  obtain ⟨cB, v9⟩ := u9
  have hK := va_K.moved hvm.symm hK1
  have hP : va_P D vwCl ([(b9, .inr (3, [.ref v9, .int 0, .int 0, .int 0])), (v9, .inl (cB, 16, .inl (fun _ => 0)))]) H := hP
  have hD : va_D A ([(b9, .inr (3, [.ref v9, .int 0, .int 0, .int 0])), (v9, .inl (cB, 16, .inl (fun _ => 0)))]) := hD
  have hP : va_P D vwCl ([(b9, .inr (3, [.ref ((cB, v9) : ClassId × Nat).2, .int 0, .int 0, .int 0])), (((cB, v9) : ClassId × Nat).2, .inl (((cB, v9) : ClassId × Nat).1, 16, .inl (fun _ => 0)))]) H := hP
  have hD : va_D A ([(b9, .inr (3, [.ref ((cB, v9) : ClassId × Nat).2, .int 0, .int 0, .int 0])), (((cB, v9) : ClassId × Nat).2, .inl (((cB, v9) : ClassId × Nat).1, 16, .inl (fun _ => 0)))]) := hD
  refine W.widen (k := 1) (n := 16) (by omega) (by omega) ?_
  exact W.vret hx hb hr (fun t ht hW => ⟨⟨((cB, v9) : ClassId × Nat), rfl, trivial, by rw [ht]; exact hP, hD, va_K.moved hW.alike hK⟩, hS.F ht⟩) hS.2.2 dJ4_init_da8c8_6

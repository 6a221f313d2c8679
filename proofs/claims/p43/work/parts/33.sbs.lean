set_option maxHeartbeats 4000000 in
set_option maxRecDepth 100000 in
theorem c_J5_inflateIfNeededFor_a7421 (l : Launch) (sz : Nat) {D : va_G} {cB : ClassId} {q t9 N : Nat} {f9 : Nat → Int32}  {Wd : va_W} {b9 v9 c9 q0 : Nat} (hb9 : Wd[q0]? = some (b9, .inr (3, [.ref v9, .int 0, .int 0, .int (nI c9)]))) : Met l yJ5_inflateIfNeededFor_a7421 (ws_ yJ5_inflateIfNeededFor_a7421 cJ5_inflateIfNeededFor_a7421 2 none) ({ frames := 1, cells := 0, slots := 0, locals := 20 } : Room) (va_Pc [.ref b9, .ref q] (fun U => U.heap.size = sz ∧ (va_P D vwCl (Wd) U.heap ∧ va_K D vwCl [(cB, .byte)] U) ∧ va_D (fun _ => True) (Wd) ∧ sH q t9 N f9 (va_A (Wd) sz) U U.heap ∧ jH (va_A (Wd) sz) U U.heap)) (va_Qv (fun u : Unit => True) (fun u t9 => va_P D vwCl (Wd) t9.heap ∧ va_D (va_A (Wd) sz) (Wd)) (va_A (Wd) sz)) 0 0 (va_A (Wd) sz) := by
  refine Met.ofW (cc := cJ5_inflateIfNeededFor_a7421) (maxL := 2) (ret := none) (by decide) rfl ?_
  intro p e s m args below meth c s₁ B hml hv
  obtain ⟨rfl, hsz, ⟨hP, hK⟩, hD0, ⟨hE, hJ⟩⟩ := hv
  have hx := B.exec
  have hb := B.bytes
  have hr := B.returns
  have hts := atoms_spec (ws := ws_ yJ5_inflateIfNeededFor_a7421 cJ5_inflateIfNeededFor_a7421 2 none) B.pre
  have hts : ∀ w ∈ lw_all, w.before _ s = true := fun w h => hts w (List.mem_cons_of_mem _ h)
  have hown : s.vm.findClass RJ5 = some m.cls := findClass_of_methodNamed B.named
  have hlocks := B.notSynchronized
  have hC : CallFix p m c cJ5_inflateIfNeededFor_a7421 2 s _ lw_all RJ5 := ⟨hx, hb, hml, hown, hts⟩
  subst hsz
  have hD := hD0.self (sz := s.heap.size)
  generalize hAe : va_A (Wd) s.heap.size = A at hD hE hJ ⊢
  have hA : ∀ q : Nat, s.heap.size ≤ q → A q := fun q h => by rw [← hAe]; exact Or.inr h
  have hS : va_S A s.heap s.heap [] := va_S.rf
  have hl := lv_entry ([.ref b9, .ref q]) (n := 2) (Nat.le_of_ble_eq_true rfl)
  rw [lg_entry_eq]
  generalize (lg_sl ([.ref b9, .ref q]) ++ List.replicate (2 - (lg_sl ([.ref b9, .ref q])).length) Slot.unset).toArray = ls at hl ⊢
  have hl : lv_has ls 2 [(0, .ref b9), (1, .ref q)] := hl
  obtain ⟨H, hH⟩ : ∃ H : Heap, H = s.heap := ⟨_, rfl⟩
  rw [← hH] at hP
  have hS : va_S A s.heap H [] := by rw [hH]; exact va_S.rf
  rw [← hH]
  refine va_gets hx hb hJ.1 hS hown (hts _ mF_J5_18) (fun _ h9 => h9) dJ5_inflateIfNeededFor_a7421_0 ?_
  refine lv_if_eq (tgt := 21) hx hb dJ5_inflateIfNeededFor_a7421_3 (by decide) (fun c_3 => ?_) (fun c_3 => ?_)
  · exact absurd c_3 (by decide)
  · refine lv_aload_n hx hb dJ5_inflateIfNeededFor_a7421_6 rfl (lv_at hl 0 rfl) ?_
    refine va_get (D := D) (ci := 3) (v := .int 0) (C := RJ4) (T := TJ4) (N := 4) hx hb hts lays_J4 hown hK hP q0 hb9 rfl 1 (by decide) (hts _ mF_J5_22) (fun _ h9 => h9) rfl dJ5_inflateIfNeededFor_a7421_7 ?_
    refine lv_aload_n hx hb dJ5_inflateIfNeededFor_a7421_10 rfl (lv_at hl 1 rfl) ?_
    refine k_J0_coder_7d493 hC mM_J5_40 (hE.at hS) (hJ.at hS) hl.1 ⟨Nat.le_of_ble_eq_true rfl, Nat.le_of_ble_eq_true rfl⟩ ⟨Nat.zero_le _, Nat.zero_le _⟩ (Nat.le_of_ble_eq_true rfl) dJ5_inflateIfNeededFor_a7421_11 ?_
    refine lv_icmp_eq (tgt := 21) hx hb dJ5_inflateIfNeededFor_a7421_14 (by decide) (fun c_14 => ?_) (fun c_14 => ?_)
    · have hP : va_P D vwCl (Wd) H := hP
      have hD : va_D A (Wd) := hD
      exact W.vret hx hb hr (fun t ht hW => ⟨⟨(), rfl, trivial, by rw [ht]; exact hP, hD⟩, hS.F ht⟩) hS.2.2 dJ5_inflateIfNeededFor_a7421_21
    · exact absurd rfl c_14
set_option maxHeartbeats 4000000 in
set_option maxRecDepth 100000 in
theorem c_J0_getBytes_840e7 (l : Launch) (sz : Nat) {D : va_G} {cB : ClassId} {q t9 N : Nat} {f9 : Nat → Int32}  {Wd : va_W} {v9 c9 m9 q1 : Nat} {g9 : Nat → Int32} (hv9 : Wd[q1]? = some (v9, .inl (cB, m9, .inl g9))) (hN : N < 1000) (hc : c9 + N ≤ m9) (hm : m9 < 1000) (hff : ∀ j, j < N → fits .byte (.int (f9 j)) = true) : Met l yJ0_getBytes_840e7 (ws_ yJ0_getBytes_840e7 cJ0_getBytes_840e7 4 none) ({ frames := 1, cells := 0, slots := 0, locals := 20 } : Room) (va_Pc [.ref q, .ref v9, .int (nI c9), .int 0] (fun U => U.heap.size = sz ∧ (va_P D vwCl (Wd) U.heap ∧ va_K D vwCl [(cB, .byte)] U) ∧ va_D (fun _ => True) (Wd) ∧ sH q t9 N f9 (va_A (Wd) sz) U U.heap ∧ jH (va_A (Wd) sz) U U.heap)) (va_Qv (fun u : Unit => True) (fun u t9 => va_P D vwCl (Wd.set q1 (v9, .inl (cB, m9, .inl (va_cpy f9 g9 0 c9 N)))) t9.heap ∧ va_D (va_A (Wd) sz) (Wd.set q1 (v9, .inl (cB, m9, .inl (va_cpy f9 g9 0 c9 N))))) (va_A (Wd) sz)) 0 0 (va_A (Wd) sz) := by
  refine Met.ofW (cc := cJ0_getBytes_840e7) (maxL := 4) (ret := none) (by decide) rfl ?_
  intro p e s m args below meth c s₁ B hml hv
  obtain ⟨rfl, hsz, ⟨hP, hK⟩, hD0, ⟨hE, hJ⟩⟩ := hv
  have hx := B.exec
  have hb := B.bytes
  have hr := B.returns
  have hts := atoms_spec (ws := ws_ yJ0_getBytes_840e7 cJ0_getBytes_840e7 4 none) B.pre
  have hts : ∀ w ∈ lw_all, w.before _ s = true := fun w h => hts w (List.mem_cons_of_mem _ h)
  have hown : s.vm.findClass RJ0 = some m.cls := findClass_of_methodNamed B.named
  have hlocks := B.notSynchronized
  have hC : CallFix p m c cJ0_getBytes_840e7 4 s _ lw_all RJ0 := ⟨hx, hb, hml, hown, hts⟩
  subst hsz
  have hD := hD0.self (sz := s.heap.size)
  generalize hAe : va_A (Wd) s.heap.size = A at hD hE hJ ⊢
  have hA : ∀ q : Nat, s.heap.size ≤ q → A q := fun q h => by rw [← hAe]; exact Or.inr h
  have hS : va_S A s.heap s.heap [] := va_S.rf
  have hl := lv_entry ([.ref q, .ref v9, .int (nI c9), .int 0]) (n := 4) (Nat.le_of_ble_eq_true rfl)
  rw [lg_entry_eq]
  generalize (lg_sl ([.ref q, .ref v9, .int (nI c9), .int 0]) ++ List.replicate (4 - (lg_sl ([.ref q, .ref v9, .int (nI c9), .int 0])).length) Slot.unset).toArray = ls at hl ⊢
  have hl : lv_has ls 4 [(0, .ref q), (1, .ref v9), (2, .int (nI c9)), (3, .int 0)] := hl
  obtain ⟨H, hH⟩ : ∃ H : Heap, H = s.heap := ⟨_, rfl⟩
  rw [← hH] at hP
  have hS : va_S A s.heap H [] := by rw [hH]; exact va_S.rf
  rw [← hH]
  refine lv_aload_n hx hb dJ0_getBytes_840e7_0 rfl (lv_at hl 0 rfl) ?_
  refine k_J0_coder_7d493 hC mM_J0_335 (hE.at hS) (hJ.at hS) hl.1 ⟨Nat.le_of_ble_eq_true rfl, Nat.le_of_ble_eq_true rfl⟩ ⟨Nat.zero_le _, Nat.zero_le _⟩ (Nat.le_of_ble_eq_true rfl) dJ0_getBytes_840e7_1 ?_
  refine lv_iload_n hx hb dJ0_getBytes_840e7_4 rfl (lv_at hl 3 rfl) ?_
  refine lv_icmp_ne (tgt := 28) hx hb dJ0_getBytes_840e7_5 (by decide) (fun c_5 => ?_) (fun c_5 => ?_)
  · exact absurd rfl c_5
  · refine lv_aload_n hx hb dJ0_getBytes_840e7_8 rfl (lv_at hl 0 rfl) ?_
    refine vk_getf hx hb hE.2.2.1 hS hown (hts _ mF_J0_9) (fun _ h9 => h9) dJ0_getBytes_840e7_9 ?_
    refine lv_iconst (v := 0) hx hb dJ0_getBytes_840e7_12 (by decide) ?_
    refine lv_aload_n hx hb dJ0_getBytes_840e7_13 rfl (lv_at hl 1 rfl) ?_
    refine lv_iload_n hx hb dJ0_getBytes_840e7_14 rfl (lv_at hl 2 rfl) ?_
    refine lv_iload_n hx hb dJ0_getBytes_840e7_15 rfl (lv_at hl 3 rfl) ?_
    refine lv_ishl hx hb dJ0_getBytes_840e7_16 ?_
    rw [sb_shl0]
    refine lv_aload_n hx hb dJ0_getBytes_840e7_17 rfl (lv_at hl 0 rfl) ?_
    refine vk_getf hx hb hE.2.2.1 hS hown (hts _ mF_J0_9) (fun _ h9 => h9) dJ0_getBytes_840e7_18 ?_
    refine va_tlen hx hb hE.2.2.2 hS (v := nI N) rfl dJ0_getBytes_840e7_21 ?_
    refine vk_copyt hx hb (hml.trans hl.1.symm) hown (hts _ mM_J0_212) (hts _ mN_java_lang_System_arraycopy_Ljava_lang_Object_ILjava_lang_Object_II_V) (hts _ mT_java_lang_System_arraycopy_Ljava_lang_Object_ILjava_lang_Object_II_V) (hts _ mI_System) hK hP hD hS hE.2.2.2 q1 0 hv9 rfl (by decide) (nI_pos (by omega)) (nI_pos (by omega)) (by rw [nI_clamp (by omega)]; show 0 + N ≤ N; omega) (by rw [nI_clamp (by omega), nI_clamp (by omega)]; exact hc) (fun i hi => by rw [nI_clamp (by omega)] at hi; rw [show ((0 : Int32)).toNatClampNeg = 0 from rfl, Nat.zero_add]; exact hff i hi) (Nat.le_of_ble_eq_true rfl) (Nat.le_of_ble_eq_true rfl) dJ0_getBytes_840e7_22 (fun H locs hP hD hS => ?_)
    rw [show ((0 : Int32)).toNatClampNeg = 0 from rfl, nI_clamp (show c9 < 2 ^ 31 by omega), nI_clamp (show N < 2 ^ 31 by omega)] at hP hD
    refine lv_goto (tgt := 43) hx hb dJ0_getBytes_840e7_25 (by decide) ?_
    have hP : va_P D vwCl (Wd.set q1 (v9, .inl (cB, m9, .inl (va_cpy f9 g9 0 c9 N)))) H := hP
    have hD : va_D A (Wd.set q1 (v9, .inl (cB, m9, .inl (va_cpy f9 g9 0 c9 N)))) := hD
    exact W.vret hx hb hr (fun t ht hW => ⟨⟨(), rfl, trivial, by rw [ht]; exact hP, hD⟩, hS.F ht⟩) hS.2.2 dJ0_getBytes_840e7_43
set_option maxHeartbeats 4000000 in
set_option maxRecDepth 100000 in
theorem c_J5_putStringAt_47b60 (l : Launch) (sz : Nat) {D : va_G} {cB : ClassId} {q t9 N : Nat} {f9 : Nat → Int32}  {b9 v9 c9 m9 : Nat} {g9 : Nat → Int32} (hN : N < 1000) (hc : c9 + N ≤ m9) (hm : m9 < 1000) (hff : ∀ j, j < N → fits .byte (.int (f9 j)) = true) : Met l yJ5_putStringAt_47b60 (ws_ yJ5_putStringAt_47b60 cJ5_putStringAt_47b60 3 none) ({ frames := 2, cells := 0, slots := 0, locals := 43 } : Room) (va_Pc [.ref b9, .int (nI c9), .ref q] (fun U => U.heap.size = sz ∧ (va_P D vwCl ([(b9, .inr (3, [.ref v9, .int 0, .int 0, .int (nI c9)])), (v9, .inl (cB, m9, .inl g9))]) U.heap ∧ va_K D vwCl [(cB, .byte)] U) ∧ va_D (fun _ => True) ([(b9, .inr (3, [.ref v9, .int 0, .int 0, .int (nI c9)])), (v9, .inl (cB, m9, .inl g9))]) ∧ sH q t9 N f9 (va_A ([(b9, .inr (3, [.ref v9, .int 0, .int 0, .int (nI c9)])), (v9, .inl (cB, m9, .inl g9))]) sz) U U.heap ∧ jH (va_A ([(b9, .inr (3, [.ref v9, .int 0, .int 0, .int (nI c9)])), (v9, .inl (cB, m9, .inl g9))]) sz) U U.heap)) (va_Qv (fun u : Unit => True) (fun u t9 => va_P D vwCl ([(b9, .inr (3, [.ref v9, .int 0, .int 0, .int (nI c9)])), (v9, .inl (cB, m9, .inl (va_cpy f9 g9 0 c9 N)))]) t9.heap ∧ va_D (va_A ([(b9, .inr (3, [.ref v9, .int 0, .int 0, .int (nI c9)])), (v9, .inl (cB, m9, .inl g9))]) sz) ([(b9, .inr (3, [.ref v9, .int 0, .int 0, .int (nI c9)])), (v9, .inl (cB, m9, .inl (va_cpy f9 g9 0 c9 N)))])) (va_A ([(b9, .inr (3, [.ref v9, .int 0, .int 0, .int (nI c9)])), (v9, .inl (cB, m9, .inl g9))]) sz)) 0 0 (va_A ([(b9, .inr (3, [.ref v9, .int 0, .int 0, .int (nI c9)])), (v9, .inl (cB, m9, .inl g9))]) sz) := by
  refine Met.ofW (cc := cJ5_putStringAt_47b60) (maxL := 3) (ret := none) (by decide) rfl ?_
  intro p e s m args below meth c s₁ B hml hv
  obtain ⟨rfl, hsz, ⟨hP, hK⟩, hD0, ⟨hE, hJ⟩⟩ := hv
  have hx := B.exec
  have hb := B.bytes
  have hr := B.returns
  have hts := atoms_spec (ws := ws_ yJ5_putStringAt_47b60 cJ5_putStringAt_47b60 3 none) B.pre
  have hts : ∀ w ∈ lw_all, w.before _ s = true := fun w h => hts w (List.mem_cons_of_mem _ h)
  have hown : s.vm.findClass RJ5 = some m.cls := findClass_of_methodNamed B.named
  have hlocks := B.notSynchronized
  have hC : CallFix p m c cJ5_putStringAt_47b60 3 s _ lw_all RJ5 := ⟨hx, hb, hml, hown, hts⟩
  subst hsz
  have hD := hD0.self (sz := s.heap.size)
  generalize hAe : va_A ([(b9, .inr (3, [.ref v9, .int 0, .int 0, .int (nI c9)])), (v9, .inl (cB, m9, .inl g9))]) s.heap.size = A at hD hE hJ ⊢
  have hA : ∀ q : Nat, s.heap.size ≤ q → A q := fun q h => by rw [← hAe]; exact Or.inr h
  have hS : va_S A s.heap s.heap [] := va_S.rf
  have hl := lv_entry ([.ref b9, .int (nI c9), .ref q]) (n := 3) (Nat.le_of_ble_eq_true rfl)
  rw [lg_entry_eq]
  generalize (lg_sl ([.ref b9, .int (nI c9), .ref q]) ++ List.replicate (3 - (lg_sl ([.ref b9, .int (nI c9), .ref q])).length) Slot.unset).toArray = ls at hl ⊢
  have hl : lv_has ls 3 [(0, .ref b9), (1, .int (nI c9)), (2, .ref q)] := hl
  obtain ⟨H, hH⟩ : ∃ H : Heap, H = s.heap := ⟨_, rfl⟩
  rw [← hH] at hP
  have hS : va_S A s.heap H [] := by rw [hH]; exact va_S.rf
  rw [← hH]
  refine lv_aload_n hx hb dJ5_putStringAt_47b60_0 rfl (lv_at hl 0 rfl) ?_
  refine lv_aload_n hx hb dJ5_putStringAt_47b60_1 rfl (lv_at hl 2 rfl) ?_
  have hF := wj_F hD hS hA
  refine va_callv (va_runU (As := [.ref q]) (rest := []) hC (c_J5_inflateIfNeededFor_a7421 l H.size (q0 := 0) rfl) (va_cwU 1 hts (gi_U mM_J5_397 mE_AbstractStringBuilder___inflateIfNeededFor___Ljava_lang_String_V mS_J5_inflateIfNeededFor_a7421_StringBuilder mV_J5_inflateIfNeededFor_a7421 mI_AbstractStringBuilder mC_J5_inflateIfNeededFor_a7421) rfl rfl rfl rfl (by decide +kernel) ⟨Nat.le_of_ble_eq_true rfl, Nat.le_of_ble_eq_true rfl⟩) ⟨fun a1 U g mk q9 => ⟨q9.1, q9.2.1, ⟨q9.2.2.1.1, va_K.moved (u := U) (U := U.calling g mk a1) (Vm.Alike.refl U.vm) q9.2.2.1.2⟩, q9.2.2.2.1, ⟨sH.moved (u := U) (U := U.calling g mk a1) (Vm.Alike.refl U.vm) q9.2.2.2.2.1, jH.moved (u := U) (U := U.calling g mk a1) (Vm.Alike.refl U.vm) q9.2.2.2.2.2⟩⟩, va_recv (q := (RJ4, TJ4, 4)) hK hP (ci := 3) (q0 := 0) rfl rfl, fun U hU hW => ⟨rfl, by rw [hU], ⟨by rw [hU]; exact hP, va_K.moved hW.alike hK⟩, hD.weaken (fun _ _ _ _ => trivial), ⟨by rw [hU]; exact ((hE.kept hS.2.1).narrow hF).moved hW.alike, by rw [hU]; exact ((hJ.kept hS.2.1).narrow hF).moved hW.alike⟩⟩⟩ rfl rfl hl.1 rfl (lv_room (Nat.le_of_ble_eq_true rfl)) dJ5_putStringAt_47b60_2 ⟨Nat.zero_le _, Nat.zero_le _⟩) hS (fun q _ h => hF q h) hF (fun u9 t H locs ht hvm hw hB hz1 hk1 hS => ?_)
  obtain ⟨hP, hD⟩ := hB
  rw [ht] at hP
  have hD := hD.weaken (fun _ q9 _ h => hF q9.1 h)
  refine lv_aload_n hx hb dJ5_putStringAt_47b60_5 rfl (lv_at hl 2 rfl) ?_
  refine lv_aload_n hx hb dJ5_putStringAt_47b60_6 rfl (lv_at hl 0 rfl) ?_
  refine va_get (D := D) (ci := 3) (v := .ref v9) (C := RJ4) (T := TJ4) (N := 4) hx hb hts lays_J4 hown hK hP 0 rfl rfl 0 (by decide) (hts _ mF_J5_15) (fun _ h9 => h9) rfl dJ5_putStringAt_47b60_7 ?_
  refine lv_iload_n hx hb dJ5_putStringAt_47b60_10 rfl (lv_at hl 1 rfl) ?_
  refine lv_aload_n hx hb dJ5_putStringAt_47b60_11 rfl (lv_at hl 0 rfl) ?_
  refine va_get (D := D) (ci := 3) (v := .int 0) (C := RJ4) (T := TJ4) (N := 4) hx hb hts lays_J4 hown hK hP 0 rfl rfl 1 (by decide) (hts _ mF_J5_22) (fun _ h9 => h9) rfl dJ5_putStringAt_47b60_12 ?_
  have hF := wj_F hD hS hA
  refine va_callv (va_runV (As := [.ref v9, .int (nI c9), .int 0]) (rest := []) hC (c_J0_getBytes_840e7 l H.size (q1 := 1) rfl (by omega) hc (by omega) hff) (cwV 3 hts (gi_V mM_J5_399 mV_J0_getBytes_840e7 mS_J0_getBytes_840e7 mI_String mC_J0_getBytes_840e7) rfl rfl rfl (by decide +kernel) ⟨Nat.le_of_ble_eq_true rfl, Nat.le_of_ble_eq_true rfl⟩) ⟨fun a1 U g mk q9 => ⟨q9.1, q9.2.1, ⟨q9.2.2.1.1, va_K.moved (u := U) (U := U.calling g mk a1) (Vm.Alike.refl U.vm) q9.2.2.1.2⟩, q9.2.2.2.1, ⟨sH.moved (u := U) (U := U.calling g mk a1) (Vm.Alike.refl U.vm) q9.2.2.2.2.1, jH.moved (u := U) (U := U.calling g mk a1) (Vm.Alike.refl U.vm) q9.2.2.2.2.2⟩⟩, (by obtain ⟨cell, h1, h2, h3, -⟩ := (hE.kept hS.2.1).1; exact ⟨cell, h1, h2, h3⟩), fun U hU hW => ⟨rfl, by rw [hU], ⟨by rw [hU]; exact hP, va_K.moved hW.alike hK⟩, hD.weaken (fun _ _ _ _ => trivial), ⟨by rw [hU]; exact ((hE.kept hS.2.1).narrow hF).moved hW.alike, by rw [hU]; exact ((hJ.kept hS.2.1).narrow hF).moved hW.alike⟩⟩⟩ rfl rfl hl.1 rfl (lv_room (Nat.le_of_ble_eq_true rfl)) dJ5_putStringAt_47b60_15 ⟨Nat.zero_le _, Nat.zero_le _⟩) hS (fun q _ h => hF q h) hF (fun u9 t H locs ht hvm hw hB hz1 hk1 hS => ?_)
  obtain ⟨hP, hD⟩ := hB
  rw [ht] at hP
  have hD := hD.weaken (fun _ q9 _ h => hF q9.1 h)
  have hP : va_P D vwCl ([(b9, .inr (3, [.ref v9, .int 0, .int 0, .int (nI c9)])), (v9, .inl (cB, m9, .inl (va_cpy f9 g9 0 c9 N)))]) H := hP
  have hD : va_D A ([(b9, .inr (3, [.ref v9, .int 0, .int 0, .int (nI c9)])), (v9, .inl (cB, m9, .inl (va_cpy f9 g9 0 c9 N)))]) := hD
  have hP : va_P D vwCl ([(b9, .inr (3, [.ref v9, .int 0, .int 0, .int (nI c9)])), (v9, .inl (cB, m9, .inl (va_cpy f9 g9 0 c9 N)))]) H := hP
  have hD : va_D A ([(b9, .inr (3, [.ref v9, .int 0, .int 0, .int (nI c9)])), (v9, .inl (cB, m9, .inl (va_cpy f9 g9 0 c9 N)))]) := hD
  exact W.vret hx hb hr (fun t ht hW => ⟨⟨(), rfl, trivial, by rw [ht]; exact hP, hD⟩, hS.F ht⟩) hS.2.2 dJ5_putStringAt_47b60_18
set_option maxHeartbeats 4000000 in
set_option maxRecDepth 100000 in
theorem c_J5_append_cf1ce (l : Launch) (sz : Nat) {D : va_G} {cB : ClassId} {q t9 N : Nat} {f9 : Nat → Int32}  {b9 v9 c9 m9 : Nat} {g9 : Nat → Int32} (hm : m9 = 16 ∨ m9 = 34) (hc9 : c9 ≤ m9) (hfit : sb_Fit g9) (hcN : c9 + N ≤ 34) (hff : sb_Fit f9) : Met l yJ5_append_cf1ce (ws_ yJ5_append_cf1ce cJ5_append_cf1ce 3 (some (.object "java/lang/AbstractStringBuilder"))) ({ frames := 4, cells := 1, slots := 34, locals := 91 } : Room) (va_Pc [.ref b9, .ref q] (fun U => U.heap.size = sz ∧ (va_P D vwCl ([(b9, .inr (3, [.ref v9, .int 0, .int 0, .int (nI c9)])), (v9, .inl (cB, m9, .inl g9))]) U.heap ∧ va_K D vwCl [(cB, .byte)] U) ∧ va_D (fun _ => True) ([(b9, .inr (3, [.ref v9, .int 0, .int 0, .int (nI c9)])), (v9, .inl (cB, m9, .inl g9))]) ∧ sH q t9 N f9 (va_A ([(b9, .inr (3, [.ref v9, .int 0, .int 0, .int (nI c9)])), (v9, .inl (cB, m9, .inl g9))]) sz) U U.heap ∧ jH (va_A ([(b9, .inr (3, [.ref v9, .int 0, .int 0, .int (nI c9)])), (v9, .inl (cB, m9, .inl g9))]) sz) U U.heap)) (va_Qr (fun u : Nat × Nat × (Nat → Int32) => (u.2.1 = 16 ∨ u.2.1 = 34) ∧ c9 + N ≤ u.2.1 ∧ sb_Fit u.2.2 ∧ (∀ j, j < c9 → u.2.2 j = g9 j) ∧ ∀ j, j < N → u.2.2 (c9 + j) = f9 j) (fun u ra t9 => va_P D vwCl ([(b9, .inr (3, [.ref u.1, .int 0, .int 0, .int (nI (c9 + N))])), (u.1, .inl (cB, u.2.1, .inl u.2.2))]) t9.heap ∧ va_D (va_A ([(b9, .inr (3, [.ref v9, .int 0, .int 0, .int (nI c9)])), (v9, .inl (cB, m9, .inl g9))]) sz) ([(b9, .inr (3, [.ref u.1, .int 0, .int 0, .int (nI (c9 + N))])), (u.1, .inl (cB, u.2.1, .inl u.2.2))]) ∧ ra = b9) (va_A ([(b9, .inr (3, [.ref v9, .int 0, .int 0, .int (nI c9)])), (v9, .inl (cB, m9, .inl g9))]) sz)) 1 34 (va_A ([(b9, .inr (3, [.ref v9, .int 0, .int 0, .int (nI c9)])), (v9, .inl (cB, m9, .inl g9))]) sz) := by
  refine Met.ofW (cc := cJ5_append_cf1ce) (maxL := 3) (ret := (some (.object "java/lang/AbstractStringBuilder"))) (by decide) rfl ?_
  intro p e s m args below meth c s₁ B hml hv
  obtain ⟨rfl, hsz, ⟨hP, hK⟩, hD0, ⟨hE, hJ⟩⟩ := hv
  have hx := B.exec
  have hb := B.bytes
  have hr := B.returns
  have hts := atoms_spec (ws := ws_ yJ5_append_cf1ce cJ5_append_cf1ce 3 (some (.object "java/lang/AbstractStringBuilder"))) B.pre
  have hts : ∀ w ∈ lw_all, w.before _ s = true := fun w h => hts w (List.mem_cons_of_mem _ h)
  have hown : s.vm.findClass RJ5 = some m.cls := findClass_of_methodNamed B.named
  have hlocks := B.notSynchronized
  have hC : CallFix p m c cJ5_append_cf1ce 3 s _ lw_all RJ5 := ⟨hx, hb, hml, hown, hts⟩
  subst hsz
  have hD := hD0.self (sz := s.heap.size)
  generalize hAe : va_A ([(b9, .inr (3, [.ref v9, .int 0, .int 0, .int (nI c9)])), (v9, .inl (cB, m9, .inl g9))]) s.heap.size = A at hD hE hJ ⊢
  have hA : ∀ q : Nat, s.heap.size ≤ q → A q := fun q h => by rw [← hAe]; exact Or.inr h
  have hS : va_S A s.heap s.heap [] := va_S.rf
  have hl := lv_entry ([.ref b9, .ref q]) (n := 3) (Nat.le_of_ble_eq_true rfl)
  rw [lg_entry_eq]
  generalize (lg_sl ([.ref b9, .ref q]) ++ List.replicate (3 - (lg_sl ([.ref b9, .ref q])).length) Slot.unset).toArray = ls at hl ⊢
  have hl : lv_has ls 3 [(0, .ref b9), (1, .ref q)] := hl
  obtain ⟨H, hH⟩ : ∃ H : Heap, H = s.heap := ⟨_, rfl⟩
  rw [← hH] at hP
  have hS : va_S A s.heap H [] := by rw [hH]; exact va_S.rf
  rw [← hH]
  have hN : N < 2 ^ 31 := by omega
  refine lv_aload_n hx hb dJ5_append_cf1ce_0 rfl (lv_at hl 1 rfl) ?_
  refine lv_ifnonnull (tgt := 9) hx hb dJ5_append_cf1ce_1 (by decide) ?_
  refine lv_aload_n hx hb dJ5_append_cf1ce_9 rfl (lv_at hl 1 rfl) ?_
  refine k_J0_length_8abf5 hC mM_J5_32 (hE.at hS) (hJ.at hS) hN hl.1 ⟨Nat.le_of_ble_eq_true rfl, Nat.le_of_ble_eq_true rfl⟩ ⟨Nat.zero_le _, Nat.zero_le _⟩ (Nat.le_of_ble_eq_true rfl) dJ5_append_cf1ce_10 ?_
  refine lv_istore_n (lv' := [(2, .int (nI N)), (0, .ref b9), (1, .ref q)]) hx hb dJ5_append_cf1ce_13 rfl hl (by decide) rfl (fun ls hl => ?_)
  refine lv_aload_n hx hb dJ5_append_cf1ce_14 rfl (lv_at hl 1 rfl) ?_
  refine lv_aload_n hx hb dJ5_append_cf1ce_15 rfl (lv_at hl 1 rfl) ?_
  refine va_get (D := D) (ci := 3) (v := .int (nI c9)) (C := RJ4) (T := TJ4) (N := 4) hx hb hts lays_J4 hown hK hP 0 rfl rfl 3 (by decide) (hts _ mF_J5_79) (fun _ h9 => h9) rfl dJ5_append_cf1ce_16 ?_
  refine lv_iload_n hx hb dJ5_append_cf1ce_19 rfl (lv_at hl 0 rfl) ?_
  refine lv_iadd hx hb dJ5_append_cf1ce_20 ?_
  rw [show (nI c9 + nI N : Int32) = nI (c9 + N) from nI_add c9 N]
  have hF := wj_F hD hS hA
  refine va_callv (va_runU (As := [.int (nI (c9 + N))]) (rest := []) hC (c_J5_ensureCapacityInternal_d00df l H.size (c9 + N) (by omega) hm hc9 hfit) (va_cwU 1 hts (gi_U mM_J5_100 mE_AbstractStringBuilder___ensureCapacityInternal___I_V mS_J5_ensureCapacityInternal_d00df_StringBuilder mV_J5_ensureCapacityInternal_d00df mI_AbstractStringBuilder mC_J5_ensureCapacityInternal_d00df) rfl rfl rfl rfl (by decide +kernel) ⟨Nat.le_of_ble_eq_true rfl, Nat.le_of_ble_eq_true rfl⟩) ⟨fun a1 U g mk q9 => ⟨q9.1, q9.2.1, ⟨q9.2.2.1.1, va_K.moved (u := U) (U := U.calling g mk a1) (Vm.Alike.refl U.vm) q9.2.2.1.2⟩, q9.2.2.2.1, trivial⟩, va_recv (q := (RJ4, TJ4, 4)) hK hP (ci := 3) (q0 := 0) rfl rfl, fun U hU hW => ⟨rfl, by rw [hU], ⟨by rw [hU]; exact hP, va_K.moved hW.alike hK⟩, hD.weaken (fun _ _ _ _ => trivial), trivial⟩⟩ rfl rfl hl.1 rfl (lv_room (Nat.le_of_ble_eq_true rfl)) dJ5_append_cf1ce_21 ⟨(by show _ ≤ 1; omega), (by show _ ≤ 34; omega)⟩) hS (fun q _ h => hF q h) hF (fun u9 t H locs ht hvm hw hB hz1 hk1 hS => ?_)
  obtain ⟨hP, hD⟩ := hB
  rw [ht] at hP
  have hD := hD.weaken (fun _ q9 _ h => hF q9.1 h)
  obtain ⟨v8, m8, g8⟩ := u9
  obtain ⟨hm8, hq8, hfit8, heq8⟩ := hw
  have hP : va_P D vwCl ([(b9, .inr (3, [.ref v8, .int 0, .int 0, .int (nI c9)])), (v8, .inl (cB, m8, .inl g8))]) H := hP
  have hD : va_D A ([(b9, .inr (3, [.ref v8, .int 0, .int 0, .int (nI c9)])), (v8, .inl (cB, m8, .inl g8))]) := hD
  refine lv_aload_n hx hb dJ5_append_cf1ce_24 rfl (lv_at hl 1 rfl) ?_
  refine lv_aload_n hx hb dJ5_append_cf1ce_25 rfl (lv_at hl 1 rfl) ?_
  refine va_get (D := D) (ci := 3) (v := .int (nI c9)) (C := RJ4) (T := TJ4) (N := 4) hx hb hts lays_J4 hown hK hP 0 rfl rfl 3 (by decide) (hts _ mF_J5_79) (fun _ h9 => h9) rfl dJ5_append_cf1ce_26 ?_
  refine lv_aload_n hx hb dJ5_append_cf1ce_29 rfl (lv_at hl 2 rfl) ?_
  have hF := wj_F hD hS hA
  refine va_callv (va_runU (As := [.int (nI c9), .ref q]) (rest := []) hC (c_J5_putStringAt_47b60 l H.size (by omega) hq8 (by omega) (fun j _ => hff j)) (va_cwU 2 hts (gi_U mM_J5_208 mE_AbstractStringBuilder___putStringAt___ILjava_lang_String_V mS_J5_putStringAt_47b60_StringBuilder mV_J5_putStringAt_47b60 mI_AbstractStringBuilder mC_J5_putStringAt_47b60) rfl rfl rfl rfl (by decide +kernel) ⟨Nat.le_of_ble_eq_true rfl, Nat.le_of_ble_eq_true rfl⟩) ⟨fun a1 U g mk q9 => ⟨q9.1, q9.2.1, ⟨q9.2.2.1.1, va_K.moved (u := U) (U := U.calling g mk a1) (Vm.Alike.refl U.vm) q9.2.2.1.2⟩, q9.2.2.2.1, ⟨sH.moved (u := U) (U := U.calling g mk a1) (Vm.Alike.refl U.vm) q9.2.2.2.2.1, jH.moved (u := U) (U := U.calling g mk a1) (Vm.Alike.refl U.vm) q9.2.2.2.2.2⟩⟩, va_recv (q := (RJ4, TJ4, 4)) hK hP (ci := 3) (q0 := 0) rfl rfl, fun U hU hW => ⟨rfl, by rw [hU], ⟨by rw [hU]; exact hP, va_K.moved hW.alike hK⟩, hD.weaken (fun _ _ _ _ => trivial), ⟨by rw [hU]; exact ((hE.kept hS.2.1).narrow hF).moved hW.alike, by rw [hU]; exact ((hJ.kept hS.2.1).narrow hF).moved hW.alike⟩⟩⟩ rfl rfl hl.1 rfl (lv_room (Nat.le_of_ble_eq_true rfl)) dJ5_append_cf1ce_30 ⟨(by show _ ≤ 1; omega), (by show _ ≤ 34; omega)⟩) hS (fun q _ h => hF q h) hF (fun u9 t H locs ht hvm hw hB hz1 hk1 hS => ?_)
  obtain ⟨hP, hD⟩ := hB
  rw [ht] at hP
  have hD := hD.weaken (fun _ q9 _ h => hF q9.1 h)
  have hP : va_P D vwCl ([(b9, .inr (3, [.ref v8, .int 0, .int 0, .int (nI c9)])), (v8, .inl (cB, m8, .inl (va_cpy f9 g8 0 c9 N)))]) H := hP
  have hD : va_D A ([(b9, .inr (3, [.ref v8, .int 0, .int 0, .int (nI c9)])), (v8, .inl (cB, m8, .inl (va_cpy f9 g8 0 c9 N)))]) := hD
  refine lv_aload_n hx hb dJ5_append_cf1ce_33 rfl (lv_at hl 1 rfl) ?_
  refine lv_dup hx hb dJ5_append_cf1ce_34 rfl ?_
  refine va_get (D := D) (ci := 3) (v := .int (nI c9)) (C := RJ4) (T := TJ4) (N := 4) hx hb hts lays_J4 hown hK hP 0 rfl rfl 3 (by decide) (hts _ mF_J5_79) (fun _ h9 => h9) rfl dJ5_append_cf1ce_35 ?_
  refine lv_iload_n hx hb dJ5_append_cf1ce_38 rfl (lv_at hl 0 rfl) ?_
  refine lv_iadd hx hb dJ5_append_cf1ce_39 ?_
  rw [show (nI c9 + nI N : Int32) = nI (c9 + N) from nI_add c9 N]
  refine va_put (D := D) (ci := 3) (v := .int (nI (c9 + N))) (ty := .int) (C := RJ4) (T := TJ4) (N := 4) hx hb hts lays_J4 tyJ4 tyJ4_ok nmJ4 hown hK hP hD hS 0 rfl rfl 3 (by decide) (hts _ mF_J5_79) (fun _ h9 => h9) rfl (by decide +kernel) rfl rfl (Nat.le_of_ble_eq_true rfl) dJ5_append_cf1ce_40 (fun H locs hP hD hS => ?_)
  have hP : va_P D vwCl ([(b9, .inr (3, [.ref v8, .int 0, .int 0, .int (nI (c9 + N))])), (v8, .inl (cB, m8, .inl (va_cpy f9 g8 0 c9 N)))]) H := hP
  have hD : va_D A ([(b9, .inr (3, [.ref v8, .int 0, .int 0, .int (nI (c9 + N))])), (v8, .inl (cB, m8, .inl (va_cpy f9 g8 0 c9 N)))]) := hD
  refine lv_aload_n hx hb dJ5_append_cf1ce_43 rfl (lv_at hl 1 rfl) ?_
  have hP : va_P D vwCl ([(b9, .inr (3, [.ref ((v8, m8, va_cpy f9 g8 0 c9 N) : Nat × Nat × (Nat → Int32)).1, .int 0, .int 0, .int (nI (c9 + N))])), (((v8, m8, va_cpy f9 g8 0 c9 N) : Nat × Nat × (Nat → Int32)).1, .inl (cB, ((v8, m8, va_cpy f9 g8 0 c9 N) : Nat × Nat × (Nat → Int32)).2.1, .inl ((v8, m8, va_cpy f9 g8 0 c9 N) : Nat × Nat × (Nat → Int32)).2.2))]) H := hP
  have hD : va_D A ([(b9, .inr (3, [.ref ((v8, m8, va_cpy f9 g8 0 c9 N) : Nat × Nat × (Nat → Int32)).1, .int 0, .int 0, .int (nI (c9 + N))])), (((v8, m8, va_cpy f9 g8 0 c9 N) : Nat × Nat × (Nat → Int32)).1, .inl (cB, ((v8, m8, va_cpy f9 g8 0 c9 N) : Nat × Nat × (Nat → Int32)).2.1, .inl ((v8, m8, va_cpy f9 g8 0 c9 N) : Nat × Nat × (Nat → Int32)).2.2))]) := hD
  refine W.widen (k := 1) (n := 34) (by omega) (by omega) ?_
  exact W.aret (v := .ref b9) hx hb hr (by first | exact Or.inl ⟨_, rfl⟩ | exact Or.inr ⟨_, rfl⟩) (Or.inr ⟨_, rfl⟩) (fun t ht hW => ⟨⟨((v8, m8, va_cpy f9 g8 0 c9 N) : Nat × Nat × (Nat → Int32)), b9, rfl, ⟨hm8, hq8, sb_fitC hff hfit8, fun j hj => (show va_cpy f9 g8 0 c9 N j = g9 j from (pk_cpy_out (Or.inl hj)).trans (heq8 j hj)), fun j hj => (show va_cpy f9 g8 0 c9 N (c9 + j) = f9 j from by rw [pk_cpy_in (by omega) (by omega), show 0 + (c9 + j - c9) = j by omega])⟩, by rw [ht]; exact hP, hD, rfl⟩, hS.F ht⟩) hS.2.2 dJ5_append_cf1ce_44
set_option maxHeartbeats 4000000 in
set_option maxRecDepth 100000 in
theorem c_J4_append_15ec4 (l : Launch) (sz : Nat) {D : va_G} {cB : ClassId} {q t9 N : Nat} {f9 : Nat → Int32}  {b9 v9 c9 m9 : Nat} {g9 : Nat → Int32} (hm : m9 = 16 ∨ m9 = 34) (hc9 : c9 ≤ m9) (hfit : sb_Fit g9) (hcN : c9 + N ≤ 34) (hff : sb_Fit f9) : Met l yJ4_append_15ec4 (ws_ yJ4_append_15ec4 cJ4_append_15ec4 2 (some (.object "java/lang/StringBuilder"))) ({ frames := 5, cells := 1, slots := 34, locals := 113 } : Room) (va_Pc [.ref b9, .ref q] (fun U => U.heap.size = sz ∧ (va_P D vwCl ([(b9, .inr (3, [.ref v9, .int 0, .int 0, .int (nI c9)])), (v9, .inl (cB, m9, .inl g9))]) U.heap ∧ va_K D vwCl [(cB, .byte)] U) ∧ va_D (fun _ => True) ([(b9, .inr (3, [.ref v9, .int 0, .int 0, .int (nI c9)])), (v9, .inl (cB, m9, .inl g9))]) ∧ sH q t9 N f9 (va_A ([(b9, .inr (3, [.ref v9, .int 0, .int 0, .int (nI c9)])), (v9, .inl (cB, m9, .inl g9))]) sz) U U.heap ∧ jH (va_A ([(b9, .inr (3, [.ref v9, .int 0, .int 0, .int (nI c9)])), (v9, .inl (cB, m9, .inl g9))]) sz) U U.heap)) (va_Qr (fun u : Nat × Nat × (Nat → Int32) => (u.2.1 = 16 ∨ u.2.1 = 34) ∧ c9 + N ≤ u.2.1 ∧ sb_Fit u.2.2 ∧ (∀ j, j < c9 → u.2.2 j = g9 j) ∧ ∀ j, j < N → u.2.2 (c9 + j) = f9 j) (fun u ra t9 => va_P D vwCl ([(b9, .inr (3, [.ref u.1, .int 0, .int 0, .int (nI (c9 + N))])), (u.1, .inl (cB, u.2.1, .inl u.2.2))]) t9.heap ∧ va_D (va_A ([(b9, .inr (3, [.ref v9, .int 0, .int 0, .int (nI c9)])), (v9, .inl (cB, m9, .inl g9))]) sz) ([(b9, .inr (3, [.ref u.1, .int 0, .int 0, .int (nI (c9 + N))])), (u.1, .inl (cB, u.2.1, .inl u.2.2))]) ∧ ra = b9) (va_A ([(b9, .inr (3, [.ref v9, .int 0, .int 0, .int (nI c9)])), (v9, .inl (cB, m9, .inl g9))]) sz)) 1 34 (va_A ([(b9, .inr (3, [.ref v9, .int 0, .int 0, .int (nI c9)])), (v9, .inl (cB, m9, .inl g9))]) sz) := by
  refine Met.ofW (cc := cJ4_append_15ec4) (maxL := 2) (ret := (some (.object "java/lang/StringBuilder"))) (by decide) rfl ?_
  intro p e s m args below meth c s₁ B hml hv
  obtain ⟨rfl, hsz, ⟨hP, hK⟩, hD0, ⟨hE, hJ⟩⟩ := hv
  have hx := B.exec
  have hb := B.bytes
  have hr := B.returns
  have hts := atoms_spec (ws := ws_ yJ4_append_15ec4 cJ4_append_15ec4 2 (some (.object "java/lang/StringBuilder"))) B.pre
  have hts : ∀ w ∈ lw_all, w.before _ s = true := fun w h => hts w (List.mem_cons_of_mem _ h)
  have hown : s.vm.findClass RJ4 = some m.cls := findClass_of_methodNamed B.named
  have hlocks := B.notSynchronized
  have hC : CallFix p m c cJ4_append_15ec4 2 s _ lw_all RJ4 := ⟨hx, hb, hml, hown, hts⟩
  subst hsz
  have hD := hD0.self (sz := s.heap.size)
  generalize hAe : va_A ([(b9, .inr (3, [.ref v9, .int 0, .int 0, .int (nI c9)])), (v9, .inl (cB, m9, .inl g9))]) s.heap.size = A at hD hE hJ ⊢
  have hA : ∀ q : Nat, s.heap.size ≤ q → A q := fun q h => by rw [← hAe]; exact Or.inr h
  have hS : va_S A s.heap s.heap [] := va_S.rf
  have hl := lv_entry ([.ref b9, .ref q]) (n := 2) (Nat.le_of_ble_eq_true rfl)
  rw [lg_entry_eq]
  generalize (lg_sl ([.ref b9, .ref q]) ++ List.replicate (2 - (lg_sl ([.ref b9, .ref q])).length) Slot.unset).toArray = ls at hl ⊢
  have hl : lv_has ls 2 [(0, .ref b9), (1, .ref q)] := hl
  obtain ⟨H, hH⟩ : ∃ H : Heap, H = s.heap := ⟨_, rfl⟩
  rw [← hH] at hP
  have hS : va_S A s.heap H [] := by rw [hH]; exact va_S.rf
  rw [← hH]
  refine lv_aload_n hx hb dJ4_append_15ec4_0 rfl (lv_at hl 0 rfl) ?_
  refine lv_aload_n hx hb dJ4_append_15ec4_1 rfl (lv_at hl 1 rfl) ?_
  have hF := wj_F hD hS hA
  refine va_callr (va_runSU (hK.1 3 _ rfl).2 (As := [.ref q]) (rest := []) hC (c_J5_append_cf1ce l H.size hm hc9 hfit hcN hff) (va_cwSU 1 hts (gi_SU mM_J4_29 mE_AbstractStringBuilder___append___Ljava_lang_String_Ljava_lang_AbstractStringBuilder mP_StringBuilder__AbstractStringBuilder mV_J5_append_cf1ce mI_AbstractStringBuilder mC_J5_append_cf1ce) rfl rfl rfl (by decide +kernel) ⟨Nat.le_of_ble_eq_true rfl, Nat.le_of_ble_eq_true rfl⟩) ⟨fun a1 U g mk q9 => ⟨q9.1, q9.2.1, ⟨q9.2.2.1.1, va_K.moved (u := U) (U := U.calling g mk a1) (Vm.Alike.refl U.vm) q9.2.2.1.2⟩, q9.2.2.2.1, ⟨sH.moved (u := U) (U := U.calling g mk a1) (Vm.Alike.refl U.vm) q9.2.2.2.2.1, jH.moved (u := U) (U := U.calling g mk a1) (Vm.Alike.refl U.vm) q9.2.2.2.2.2⟩⟩, va_recv (q := (RJ4, TJ4, 4)) hK hP (ci := 3) (q0 := 0) rfl rfl, fun U hU hW => ⟨rfl, by rw [hU], ⟨by rw [hU]; exact hP, va_K.moved hW.alike hK⟩, hD.weaken (fun _ _ _ _ => trivial), ⟨by rw [hU]; exact ((hE.kept hS.2.1).narrow hF).moved hW.alike, by rw [hU]; exact ((hJ.kept hS.2.1).narrow hF).moved hW.alike⟩⟩⟩ rfl rfl hl.1 rfl (lv_room (Nat.le_of_ble_eq_true rfl)) dJ4_append_15ec4_2 ⟨(by show _ ≤ 1; omega), (by show _ ≤ 34; omega)⟩) hS (fun q _ h => hF q h) hF (fun u9 ra9 t H locs ht hvm hw hB hz1 hk1 hS => ?_)
  obtain ⟨hP, hD, hra⟩ := hB
  rw [ht] at hP
  have hD := hD.weaken (fun _ q9 _ h => hF q9.1 h)
  obtain ⟨v8, m8, g8⟩ := u9
  have hp8 := hw
  have hP : va_P D vwCl ([(b9, .inr (3, [.ref v8, .int 0, .int 0, .int (nI (c9 + N))])), (v8, .inl (cB, m8, .inl g8))]) H := hP
  have hD : va_D A ([(b9, .inr (3, [.ref v8, .int 0, .int 0, .int (nI (c9 + N))])), (v8, .inl (cB, m8, .inl g8))]) := hD
  refine lv_pop hx hb dJ4_append_15ec4_5 rfl ?_
  refine lv_aload_n hx hb dJ4_append_15ec4_6 rfl (lv_at hl 0 rfl) ?_
  have hP : va_P D vwCl ([(b9, .inr (3, [.ref ((v8, m8, g8) : Nat × Nat × (Nat → Int32)).1, .int 0, .int 0, .int (nI (c9 + N))])), (((v8, m8, g8) : Nat × Nat × (Nat → Int32)).1, .inl (cB, ((v8, m8, g8) : Nat × Nat × (Nat → Int32)).2.1, .inl ((v8, m8, g8) : Nat × Nat × (Nat → Int32)).2.2))]) H := hP
  have hD : va_D A ([(b9, .inr (3, [.ref ((v8, m8, g8) : Nat × Nat × (Nat → Int32)).1, .int 0, .int 0, .int (nI (c9 + N))])), (((v8, m8, g8) : Nat × Nat × (Nat → Int32)).1, .inl (cB, ((v8, m8, g8) : Nat × Nat × (Nat → Int32)).2.1, .inl ((v8, m8, g8) : Nat × Nat × (Nat → Int32)).2.2))]) := hD
  refine W.widen (k := 1) (n := 34) (by omega) (by omega) ?_
  exact W.aret (v := .ref b9) hx hb hr (by first | exact Or.inl ⟨_, rfl⟩ | exact Or.inr ⟨_, rfl⟩) (Or.inr ⟨_, rfl⟩) (fun t ht hW => ⟨⟨((v8, m8, g8) : Nat × Nat × (Nat → Int32)), b9, rfl, hp8, by rw [ht]; exact hP, hD, rfl⟩, hS.F ht⟩) hS.2.2 dJ4_append_15ec4_7

set_option maxHeartbeats 4000000 in
set_option maxRecDepth 100000 in
theorem c_J7_checkLength_df160 (l : Launch) (sz : Nat) {D : va_G} {cB : ClassId}  {Wd : va_W} {c9 : Nat} (hc : c9 < 1000) : Met l yJ7_checkLength_df160 (ws_ yJ7_checkLength_df160 cJ7_checkLength_df160 2 none) ({ frames := 0, cells := 0, slots := 0, locals := 0 } : Room) (va_Pc [.int 0, .int (nI c9)] (fun U => U.heap.size = sz ∧ (va_P D vwCl (Wd) U.heap ∧ va_K D vwCl [(cB, .byte)] U) ∧ va_D (fun _ => True) (Wd) ∧ True)) (va_Qv (fun u : Unit => True) (fun u t9 => va_P D vwCl (Wd) t9.heap ∧ va_D (va_A (Wd) sz) (Wd)) (va_A (Wd) sz)) 0 0 (va_A (Wd) sz) := by
  refine Met.ofW (cc := cJ7_checkLength_df160) (maxL := 2) (ret := none) (by decide) rfl ?_
  intro p e s m args below meth c s₁ B hml hv
  obtain ⟨rfl, hsz, ⟨hP, hK⟩, hD0, -⟩ := hv
  have hx := B.exec
  have hb := B.bytes
  have hr := B.returns
  have hts := atoms_spec (ws := ws_ yJ7_checkLength_df160 cJ7_checkLength_df160 2 none) B.pre
  have hts : ∀ w ∈ lw_all, w.before _ s = true := fun w h => hts w (List.mem_cons_of_mem _ h)
  have hown : s.vm.findClass RJ7 = some m.cls := findClass_of_methodNamed B.named
  have hlocks := B.notSynchronized
  have hC : CallFix p m c cJ7_checkLength_df160 2 s _ lw_all RJ7 := ⟨hx, hb, hml, hown, hts⟩
  subst hsz
  have hD := hD0.self (sz := s.heap.size)
  generalize hAe : va_A (Wd) s.heap.size = A at hD  ⊢
  have hA : ∀ q : Nat, s.heap.size ≤ q → A q := fun q h => by rw [← hAe]; exact Or.inr h
  have hS : va_S A s.heap s.heap [] := va_S.rf
  have hl := lv_entry ([.int 0, .int (nI c9)]) (n := 2) (Nat.le_of_ble_eq_true rfl)
  rw [lg_entry_eq]
  generalize (lg_sl ([.int 0, .int (nI c9)]) ++ List.replicate (2 - (lg_sl ([.int 0, .int (nI c9)])).length) Slot.unset).toArray = ls at hl ⊢
  have hl : lv_has ls 2 [(0, .int 0), (1, .int (nI c9))] := hl
  obtain ⟨H, hH⟩ : ∃ H : Heap, H = s.heap := ⟨_, rfl⟩
  rw [← hH] at hP
  have hS : va_S A s.heap H [] := by rw [hH]; exact va_S.rf
  rw [← hH]
  refine lv_iload_n hx hb dJ7_checkLength_df160_0 rfl (lv_at hl 1 rfl) ?_
  refine lv_iload_n hx hb dJ7_checkLength_df160_1 rfl (lv_at hl 0 rfl) ?_
  refine lv_icmp_ge (tgt := 37) hx hb dJ7_checkLength_df160_2 (by decide) (fun c_2 => ?_) (fun c_2 => ?_)
  · have hP : va_P D vwCl (Wd) H := hP
    have hD : va_D A (Wd) := hD
    exact W.vret hx hb hr (fun t ht hW => ⟨⟨(), rfl, trivial, by rw [ht]; exact hP, hD⟩, hS.F ht⟩) hS.2.2 dJ7_checkLength_df160_37
  · exact absurd (nI_pos' (by omega)) c_2
set_option maxHeartbeats 4000000 in
set_option maxRecDepth 100000 in
theorem c_J7_copyOfRangeByte_39247 (l : Launch) (sz : Nat) {D : va_G} {cB : ClassId}  {Wd : va_W} {v9 c9 m9 q1 : Nat} {g9 : Nat → Int32} (hv9 : Wd[q1]? = some (v9, .inl (cB, m9, .inl g9))) (hc : c9 ≤ m9) (hm : m9 ≤ 34) (hfit : sb_Fit g9) : Met l yJ7_copyOfRangeByte_39247 (ws_ yJ7_copyOfRangeByte_39247 cJ7_copyOfRangeByte_39247 5 (some (.array .byte))) ({ frames := 1, cells := 1, slots := 34, locals := 21 } : Room) (va_Pc [.ref v9, .int 0, .int (nI c9)] (fun U => U.heap.size = sz ∧ (va_P D vwCl (Wd) U.heap ∧ va_K D vwCl [(cB, .byte)] U) ∧ va_D (fun _ => True) (Wd) ∧ True)) (va_Qr (fun u : Unit => True) (fun u ra t9 => va_P D vwCl ((ra, .inl (cB, c9, .inl (va_cpy g9 (fun _ => 0) 0 0 c9))) :: Wd) t9.heap ∧ va_D (va_A (Wd) sz) ((ra, .inl (cB, c9, .inl (va_cpy g9 (fun _ => 0) 0 0 c9))) :: Wd)) (va_A (Wd) sz)) 1 34 (va_A (Wd) sz) := by
  refine Met.ofW (cc := cJ7_copyOfRangeByte_39247) (maxL := 5) (ret := (some (.array .byte))) (by decide) rfl ?_
  intro p e s m args below meth c s₁ B hml hv
  obtain ⟨rfl, hsz, ⟨hP, hK⟩, hD0, -⟩ := hv
  have hx := B.exec
  have hb := B.bytes
  have hr := B.returns
  have hts := atoms_spec (ws := ws_ yJ7_copyOfRangeByte_39247 cJ7_copyOfRangeByte_39247 5 (some (.array .byte))) B.pre
  have hts : ∀ w ∈ lw_all, w.before _ s = true := fun w h => hts w (List.mem_cons_of_mem _ h)
  have hown : s.vm.findClass RJ7 = some m.cls := findClass_of_methodNamed B.named
  have hlocks := B.notSynchronized
  have hC : CallFix p m c cJ7_copyOfRangeByte_39247 5 s _ lw_all RJ7 := ⟨hx, hb, hml, hown, hts⟩
  subst hsz
  have hD := hD0.self (sz := s.heap.size)
  generalize hAe : va_A (Wd) s.heap.size = A at hD  ⊢
  have hA : ∀ q : Nat, s.heap.size ≤ q → A q := fun q h => by rw [← hAe]; exact Or.inr h
  have hS : va_S A s.heap s.heap [] := va_S.rf
  have hl := lv_entry ([.ref v9, .int 0, .int (nI c9)]) (n := 5) (Nat.le_of_ble_eq_true rfl)
  rw [lg_entry_eq]
  generalize (lg_sl ([.ref v9, .int 0, .int (nI c9)]) ++ List.replicate (5 - (lg_sl ([.ref v9, .int 0, .int (nI c9)])).length) Slot.unset).toArray = ls at hl ⊢
  have hl : lv_has ls 5 [(0, .ref v9), (1, .int 0), (2, .int (nI c9))] := hl
  obtain ⟨H, hH⟩ : ∃ H : Heap, H = s.heap := ⟨_, rfl⟩
  rw [← hH] at hP
  have hS : va_S A s.heap H [] := by rw [hH]; exact va_S.rf
  rw [← hH]
  refine lv_iload_n hx hb dJ7_copyOfRangeByte_39247_0 rfl (lv_at hl 1 rfl) ?_
  refine lv_iload_n hx hb dJ7_copyOfRangeByte_39247_1 rfl (lv_at hl 2 rfl) ?_
  have hF := wj_F hD hS hA
  refine va_callv (va_runS (As := [.int 0, .int (nI c9)]) (rest := []) hC (c_J7_checkLength_df160 l H.size (by omega)) (va_cwS 2 hts (gi_S mM_J7_343 mT_J7_checkLength_df160 mI_Arrays mC_J7_checkLength_df160) rfl rfl rfl (by decide +kernel) ⟨Nat.le_of_ble_eq_true rfl, Nat.le_of_ble_eq_true rfl⟩) ⟨fun a1 U g mk q9 => ⟨q9.1, q9.2.1, ⟨q9.2.2.1.1, va_K.moved (u := U) (U := U.calling g mk a1) (Vm.Alike.refl U.vm) q9.2.2.1.2⟩, q9.2.2.2.1, trivial⟩, fun U hU hW => ⟨rfl, by rw [hU], ⟨by rw [hU]; exact hP, va_K.moved hW.alike hK⟩, hD.weaken (fun _ _ _ _ => trivial), trivial⟩⟩ rfl rfl hl.1 rfl (lv_room (Nat.le_of_ble_eq_true rfl)) dJ7_copyOfRangeByte_39247_2 ⟨Nat.zero_le _, Nat.zero_le _⟩) hS (fun q _ h => hF q h) hF (fun u9 t H locs ht hvm hw hB hz1 hk1 hS => ?_)
  obtain ⟨hP, hD⟩ := hB
  rw [ht] at hP
  have hD := hD.weaken (fun _ q9 _ h => hF q9.1 h)
  refine lv_iload_n hx hb dJ7_copyOfRangeByte_39247_5 rfl (lv_at hl 2 rfl) ?_
  refine lv_iload_n hx hb dJ7_copyOfRangeByte_39247_6 rfl (lv_at hl 1 rfl) ?_
  refine lv_isub hx hb dJ7_copyOfRangeByte_39247_7 ?_
  rw [show ((nI c9) - 0 : Int32) = nI c9 from (by grind)]
  refine lv_istore_n (lv' := [(3, .int (nI c9)), (0, .ref v9), (1, .int 0), (2, .int (nI c9))]) hx hb dJ7_copyOfRangeByte_39247_8 rfl hl (by decide) rfl (fun ls hl => ?_)
  refine lv_iload_n hx hb dJ7_copyOfRangeByte_39247_9 rfl (lv_at hl 0 rfl) ?_
  refine qn_b hC hK hP hD hS hA (N := c9) rfl (by omega) (by show _ ≤ 1; omega) (by show _ ≤ 34; omega) dJ7_copyOfRangeByte_39247_10 (fun q10 H hP hD hS => ?_)
  have hP : va_P D vwCl ((q10, .inl (cB, c9, .inl (fun _ => 0))) :: Wd) H := hP
  have hD : va_D A ((q10, .inl (cB, c9, .inl (fun _ => 0))) :: Wd) := hD
  refine lv_astore (lv' := [(4, .ref q10), (3, .int (nI c9)), (0, .ref v9), (1, .int 0), (2, .int (nI c9))]) hx hb dJ7_copyOfRangeByte_39247_12 hl (by decide) rfl (fun ls hl => ?_)
  refine lv_aload_n hx hb dJ7_copyOfRangeByte_39247_14 rfl (lv_at hl 2 rfl) ?_
  refine lv_iload_n hx hb dJ7_copyOfRangeByte_39247_15 rfl (lv_at hl 3 rfl) ?_
  refine lv_aload hx hb dJ7_copyOfRangeByte_39247_16 (lv_at hl 0 rfl) ?_
  refine lv_iconst (v := 0) hx hb dJ7_copyOfRangeByte_39247_18 (by decide) ?_
  refine lv_aload_n hx hb dJ7_copyOfRangeByte_39247_19 rfl (lv_at hl 2 rfl) ?_
  refine va_alen hx hb hK hP (1 + q1) 0 (wj_rt (X := [_]) hv9) rfl (v := nI m9) rfl dJ7_copyOfRangeByte_39247_20 ?_
  refine lv_iload_n hx hb dJ7_copyOfRangeByte_39247_21 rfl (lv_at hl 3 rfl) ?_
  refine lv_isub hx hb dJ7_copyOfRangeByte_39247_22 ?_
  rw [show ((nI m9) - 0 : Int32) = nI m9 from (by grind)]
  refine lv_iload_n hx hb dJ7_copyOfRangeByte_39247_23 rfl (lv_at hl 1 rfl) ?_
  refine va_mmin hx hb (hml.trans hl.1.symm) hown (hts _ mM_J7_304) (hts _ mT_min) (hts _ mI_Math) (hts _ mC_min) (Nat.le_of_ble_eq_true rfl) (Nat.le_of_ble_eq_true rfl) (by show _ ≤ 1; omega) (by show _ ≤ 34; omega) dJ7_copyOfRangeByte_39247_24 ?_
  rw [show (if (nI c9) < (nI m9) then (nI c9) else (nI m9) : Int32) = nI c9 from (by
        by_cases q9 : nI c9 < nI m9
        · rw [if_pos q9]
        · rw [if_neg q9, show m9 = c9 from Nat.le_antisymm (Nat.le_of_not_lt (fun h9 => q9 (nI_lt h9 (by omega)))) hc])]
  refine va_copyi hx hb (hml.trans hl.1.symm) hown (hts _ mM_J7_150) (hts _ mN_java_lang_System_arraycopy_Ljava_lang_Object_ILjava_lang_Object_II_V) (hts _ mT_java_lang_System_arraycopy_Ljava_lang_Object_ILjava_lang_Object_II_V) (hts _ mI_System) hK hP hD hS (1 + q1) 0 0 0 (wj_rt (X := [_]) hv9) rfl rfl rfl rfl (by decide) (by decide) (nI_pos (by omega)) (by rw [nI_clamp (by omega), show ((0 : Int32)).toNatClampNeg = 0 from rfl]; omega) (by rw [nI_clamp (by omega), show ((0 : Int32)).toNatClampNeg = 0 from rfl]; omega) (fun i _ => hfit _) (Nat.le_of_ble_eq_true rfl) (Nat.le_of_ble_eq_true rfl) dJ7_copyOfRangeByte_39247_27 (fun H locs hP hD hS => ?_)
  rw [show ((0 : Int32)).toNatClampNeg = 0 from rfl, nI_clamp (show c9 < 2 ^ 31 by omega)] at hP hD
  have hP : va_P D vwCl ((q10, .inl (cB, c9, .inl (va_cpy g9 (fun _ => 0) 0 0 c9))) :: Wd) H := hP
  have hD : va_D A ((q10, .inl (cB, c9, .inl (va_cpy g9 (fun _ => 0) 0 0 c9))) :: Wd) := hD
  refine lv_aload hx hb dJ7_copyOfRangeByte_39247_30 (lv_at hl 0 rfl) ?_
  have hP : va_P D vwCl ((q10, .inl (cB, c9, .inl (va_cpy g9 (fun _ => 0) 0 0 c9))) :: Wd) H := hP
  have hD : va_D A ((q10, .inl (cB, c9, .inl (va_cpy g9 (fun _ => 0) 0 0 c9))) :: Wd) := hD
  refine W.widen (k := 1) (n := 34) (by omega) (by omega) ?_
  exact W.aret (v := .ref q10) hx hb hr (by first | exact Or.inl ⟨_, rfl⟩ | exact Or.inr ⟨_, rfl⟩) (Or.inr ⟨_, rfl⟩) (fun t ht hW => ⟨⟨(), q10, rfl, trivial, by rw [ht]; exact hP, hD⟩, hS.F ht⟩) hS.2.2 dJ7_copyOfRangeByte_39247_32
set_option maxHeartbeats 4000000 in
set_option maxRecDepth 100000 in
theorem c_J7_copyOfRange_39247 (l : Launch) (sz : Nat) {D : va_G} {cB : ClassId}  {Wd : va_W} {v9 c9 m9 q1 : Nat} {g9 : Nat → Int32} (hv9 : Wd[q1]? = some (v9, .inl (cB, m9, .inl g9))) (hc : c9 < m9) (hm : m9 ≤ 34) (hfit : sb_Fit g9) : Met l yJ7_copyOfRange_39247 (ws_ yJ7_copyOfRange_39247 cJ7_copyOfRange_39247 3 (some (.array .byte))) ({ frames := 2, cells := 1, slots := 34, locals := 45 } : Room) (va_Pc [.ref v9, .int 0, .int (nI c9)] (fun U => U.heap.size = sz ∧ (va_P D vwCl (Wd) U.heap ∧ va_K D vwCl [(cB, .byte)] U) ∧ va_D (fun _ => True) (Wd) ∧ True)) (va_Qr (fun u : Unit => True) (fun u ra t9 => va_P D vwCl ((ra, .inl (cB, c9, .inl (va_cpy g9 (fun _ => 0) 0 0 c9))) :: Wd) t9.heap ∧ va_D (va_A (Wd) sz) ((ra, .inl (cB, c9, .inl (va_cpy g9 (fun _ => 0) 0 0 c9))) :: Wd)) (va_A (Wd) sz)) 1 34 (va_A (Wd) sz) := by
  refine Met.ofW (cc := cJ7_copyOfRange_39247) (maxL := 3) (ret := (some (.array .byte))) (by decide) rfl ?_
  intro p e s m args below meth c s₁ B hml hv
  obtain ⟨rfl, hsz, ⟨hP, hK⟩, hD0, -⟩ := hv
  have hx := B.exec
  have hb := B.bytes
  have hr := B.returns
  have hts := atoms_spec (ws := ws_ yJ7_copyOfRange_39247 cJ7_copyOfRange_39247 3 (some (.array .byte))) B.pre
  have hts : ∀ w ∈ lw_all, w.before _ s = true := fun w h => hts w (List.mem_cons_of_mem _ h)
  have hown : s.vm.findClass RJ7 = some m.cls := findClass_of_methodNamed B.named
  have hlocks := B.notSynchronized
  have hC : CallFix p m c cJ7_copyOfRange_39247 3 s _ lw_all RJ7 := ⟨hx, hb, hml, hown, hts⟩
  subst hsz
  have hD := hD0.self (sz := s.heap.size)
  generalize hAe : va_A (Wd) s.heap.size = A at hD  ⊢
  have hA : ∀ q : Nat, s.heap.size ≤ q → A q := fun q h => by rw [← hAe]; exact Or.inr h
  have hS : va_S A s.heap s.heap [] := va_S.rf
  have hl := lv_entry ([.ref v9, .int 0, .int (nI c9)]) (n := 3) (Nat.le_of_ble_eq_true rfl)
  rw [lg_entry_eq]
  generalize (lg_sl ([.ref v9, .int 0, .int (nI c9)]) ++ List.replicate (3 - (lg_sl ([.ref v9, .int 0, .int (nI c9)])).length) Slot.unset).toArray = ls at hl ⊢
  have hl : lv_has ls 3 [(0, .ref v9), (1, .int 0), (2, .int (nI c9))] := hl
  obtain ⟨H, hH⟩ : ∃ H : Heap, H = s.heap := ⟨_, rfl⟩
  rw [← hH] at hP
  have hS : va_S A s.heap H [] := by rw [hH]; exact va_S.rf
  rw [← hH]
  refine lv_iload_n hx hb dJ7_copyOfRange_39247_0 rfl (lv_at hl 1 rfl) ?_
  refine lv_if_ne (tgt := 10) hx hb dJ7_copyOfRange_39247_1 (by decide) (fun c_1 => ?_) (fun c_1 => ?_)
  · exact absurd rfl c_1
  · refine lv_iload_n hx hb dJ7_copyOfRange_39247_4 rfl (lv_at hl 2 rfl) ?_
    refine lv_aload_n hx hb dJ7_copyOfRange_39247_5 rfl (lv_at hl 0 rfl) ?_
    refine va_alen hx hb hK hP q1 0 hv9 rfl (v := nI m9) rfl dJ7_copyOfRange_39247_6 ?_
    refine lv_icmp_eq (tgt := 17) hx hb dJ7_copyOfRange_39247_7 (by decide) (fun c_7 => ?_) (fun c_7 => ?_)
    · exact absurd c_7 (fun q9 => absurd ((nI_eq (by omega) (by omega)).mp q9) (by omega))
    · refine lv_aload_n hx hb dJ7_copyOfRange_39247_10 rfl (lv_at hl 0 rfl) ?_
      refine lv_iload_n hx hb dJ7_copyOfRange_39247_11 rfl (lv_at hl 1 rfl) ?_
      refine lv_iload_n hx hb dJ7_copyOfRange_39247_12 rfl (lv_at hl 2 rfl) ?_
      have hF := wj_F hD hS hA
      refine va_callr (va_runS (As := [.ref v9, .int 0, .int (nI c9)]) (rest := []) hC (c_J7_copyOfRangeByte_39247 l H.size hv9 (by omega) hm hfit) (va_cwS 3 hts (gi_S mM_J7_339 mT_J7_copyOfRangeByte_39247 mI_Arrays mC_J7_copyOfRangeByte_39247) rfl rfl rfl (by decide +kernel) ⟨Nat.le_of_ble_eq_true rfl, Nat.le_of_ble_eq_true rfl⟩) ⟨fun a1 U g mk q9 => ⟨q9.1, q9.2.1, ⟨q9.2.2.1.1, va_K.moved (u := U) (U := U.calling g mk a1) (Vm.Alike.refl U.vm) q9.2.2.1.2⟩, q9.2.2.2.1, trivial⟩, fun U hU hW => ⟨rfl, by rw [hU], ⟨by rw [hU]; exact hP, va_K.moved hW.alike hK⟩, hD.weaken (fun _ _ _ _ => trivial), trivial⟩⟩ rfl rfl hl.1 rfl (lv_room (Nat.le_of_ble_eq_true rfl)) dJ7_copyOfRange_39247_13 ⟨(by show _ ≤ 1; omega), (by show _ ≤ 34; omega)⟩) hS (fun q _ h => hF q h) hF (fun u9 ra9 t H locs ht hvm hw hB hz1 hk1 hS => ?_)
      obtain ⟨hP, hD⟩ := hB
      rw [ht] at hP
      have hD := hD.weaken (fun _ q9 _ h => hF q9.1 h)
      have hP : va_P D vwCl ((ra9, .inl (cB, c9, .inl (va_cpy g9 (fun _ => 0) 0 0 c9))) :: Wd) H := hP
      have hD : va_D A ((ra9, .inl (cB, c9, .inl (va_cpy g9 (fun _ => 0) 0 0 c9))) :: Wd) := hD
      have hP : va_P D vwCl ((ra9, .inl (cB, c9, .inl (va_cpy g9 (fun _ => 0) 0 0 c9))) :: Wd) H := hP
      have hD : va_D A ((ra9, .inl (cB, c9, .inl (va_cpy g9 (fun _ => 0) 0 0 c9))) :: Wd) := hD
      refine W.widen (k := 1) (n := 34) (by omega) (by omega) ?_
      exact W.aret (v := .ref ra9) hx hb hr (by first | exact Or.inl ⟨_, rfl⟩ | exact Or.inr ⟨_, rfl⟩) (Or.inr ⟨_, rfl⟩) (fun t ht hW => ⟨⟨(), ra9, rfl, trivial, by rw [ht]; exact hP, hD⟩, hS.F ht⟩) hS.2.2 dJ7_copyOfRange_39247_16
set_option maxHeartbeats 4000000 in
set_option maxRecDepth 100000 in
theorem c_J0_init_db425 (l : Launch) (sz : Nat) {D : va_G} {cB : ClassId}  {Wd : va_W} {b9 v9 c9 m9 q0 q1 s9 : Nat} {g9 : Nat → Int32} (hb9 : Wd[q0]? = some (b9, .inr (3, [.ref v9, .int 0, .int 0, .int (nI c9)]))) (hv9 : Wd[q1]? = some (v9, .inl (cB, m9, .inl g9))) (hc : c9 < m9) (hm : m9 ≤ 34) (hfit : sb_Fit g9) : Met l yJ0_init_db425 (ws_ yJ0_init_db425 cJ0_init_db425 5 none) ({ frames := 3, cells := 1, slots := 34, locals := 67 } : Room) (va_Pc [.ref s9, .ref b9, .null] (fun U => U.heap.size = sz ∧ (va_P D vwCl ((s9, .inr (2, [.null, .int 0, .int 0, .int 0])) :: Wd) U.heap ∧ va_K D vwCl [(cB, .byte)] U) ∧ va_D (fun _ => True) ((s9, .inr (2, [.null, .int 0, .int 0, .int 0])) :: Wd) ∧ jH (va_A ((s9, .inr (2, [.null, .int 0, .int 0, .int 0])) :: Wd) sz) U U.heap)) (va_Qv (fun u : Nat => True) (fun u t9 => va_P D vwCl ((u, .inl (cB, c9, .inl (va_cpy g9 (fun _ => 0) 0 0 c9))) :: (s9, .inr (2, [.ref u, .int 0, .int 0, .int 0])) :: Wd) t9.heap ∧ va_D (va_A ((s9, .inr (2, [.null, .int 0, .int 0, .int 0])) :: Wd) sz) ((u, .inl (cB, c9, .inl (va_cpy g9 (fun _ => 0) 0 0 c9))) :: (s9, .inr (2, [.ref u, .int 0, .int 0, .int 0])) :: Wd)) (va_A ((s9, .inr (2, [.null, .int 0, .int 0, .int 0])) :: Wd) sz)) 1 34 (va_A ((s9, .inr (2, [.null, .int 0, .int 0, .int 0])) :: Wd) sz) := by
  refine Met.ofW (cc := cJ0_init_db425) (maxL := 5) (ret := none) (by decide) rfl ?_
  intro p e s m args below meth c s₁ B hml hv
  obtain ⟨rfl, hsz, ⟨hP, hK⟩, hD0, hJ⟩ := hv
  have hx := B.exec
  have hb := B.bytes
  have hr := B.returns
  have hts := atoms_spec (ws := ws_ yJ0_init_db425 cJ0_init_db425 5 none) B.pre
  have hts : ∀ w ∈ lw_all, w.before _ s = true := fun w h => hts w (List.mem_cons_of_mem _ h)
  have hown : s.vm.findClass RJ0 = some m.cls := findClass_of_methodNamed B.named
  have hlocks := B.notSynchronized
  have hin : meth.name = "<init>" := (name_of_methodNamed B.named B.method).1
  have hC : CallFix p m c cJ0_init_db425 5 s _ lw_all RJ0 := ⟨hx, hb, hml, hown, hts⟩
  subst hsz
  have hD := hD0.self (sz := s.heap.size)
  generalize hAe : va_A ((s9, .inr (2, [.null, .int 0, .int 0, .int 0])) :: Wd) s.heap.size = A at hD hJ ⊢
  have hA : ∀ q : Nat, s.heap.size ≤ q → A q := fun q h => by rw [← hAe]; exact Or.inr h
  have hS : va_S A s.heap s.heap [] := va_S.rf
  have hl := lv_entry ([.ref s9, .ref b9, .null]) (n := 5) (Nat.le_of_ble_eq_true rfl)
  rw [lg_entry_eq]
  generalize (lg_sl ([.ref s9, .ref b9, .null]) ++ List.replicate (5 - (lg_sl ([.ref s9, .ref b9, .null])).length) Slot.unset).toArray = ls at hl ⊢
  have hl : lv_has ls 5 [(0, .ref s9), (1, .ref b9), (2, .null)] := hl
  obtain ⟨H, hH⟩ : ∃ H : Heap, H = s.heap := ⟨_, rfl⟩
  rw [← hH] at hP
  have hS : va_S A s.heap H [] := by rw [hH]; exact va_S.rf
  rw [← hH]
  refine lv_aload_n hx hb dJ0_init_db425_0 rfl (lv_at hl 0 rfl) ?_
  refine W.objInit hx hb hown (hts _ mM_J0_1) (hts _ mV_obj) (hts _ mC_obj) rfl (by rw [hml]; exact hl.1) rfl dJ0_init_db425_1 (Nat.le_of_ble_eq_true rfl) (Nat.le_of_ble_eq_true rfl) ?_
  refine W.eq (g2 := F0 m 4 ls []) rfl ?_
  refine lv_aload_n hx hb dJ0_init_db425_4 rfl (lv_at hl 1 rfl) ?_
  have hF := wj_F hD hS hA
  refine va_callr (va_runU (As := []) (rest := []) hC (c_J5_getValue_6d5f1 l H.size (q0 := (1 + q0)) (wj_rt (X := [_]) hb9)) (va_cwU 0 hts (gi_U mM_J0_552 mE_AbstractStringBuilder___getValue___B mS_J5_getValue_6d5f1_StringBuilder mV_J5_getValue_6d5f1 mI_AbstractStringBuilder mC_J5_getValue_6d5f1) rfl rfl rfl rfl (by decide +kernel) ⟨Nat.le_of_ble_eq_true rfl, Nat.le_of_ble_eq_true rfl⟩) ⟨fun a1 U g mk q9 => ⟨q9.1, q9.2.1, ⟨q9.2.2.1.1, va_K.moved (u := U) (U := U.calling g mk a1) (Vm.Alike.refl U.vm) q9.2.2.1.2⟩, q9.2.2.2.1, trivial⟩, va_recv (q := (RJ4, TJ4, 4)) hK hP (ci := 3) (q0 := (1 + q0)) rfl (wj_rt (X := [_]) hb9), fun U hU hW => ⟨rfl, by rw [hU], ⟨by rw [hU]; exact hP, va_K.moved hW.alike hK⟩, hD.weaken (fun _ _ _ _ => trivial), trivial⟩⟩ rfl rfl hl.1 rfl (lv_room (Nat.le_of_ble_eq_true rfl)) dJ0_init_db425_5 ⟨Nat.zero_le _, Nat.zero_le _⟩) hS (fun q _ h => hF q h) hF (fun u9 ra9 t H locs ht hvm hw hB hz1 hk1 hS => ?_)
  obtain ⟨hP, hD, hra⟩ := hB
  rw [ht] at hP
  have hD := hD.weaken (fun _ q9 _ h => hF q9.1 h)
  rw [hra]
  refine lv_astore_n (lv' := [(3, .ref v9), (0, .ref s9), (1, .ref b9), (2, .null)]) hx hb dJ0_init_db425_8 rfl hl (by decide) rfl (fun ls hl => ?_)
  refine lv_aload_n hx hb dJ0_init_db425_9 rfl (lv_at hl 2 rfl) ?_
  have hF := wj_F hD hS hA
  refine va_calli (va_runU (As := []) (rest := []) hC (c_J4_length_8abf5 l H.size (q0 := (1 + q0)) (wj_rt (X := [_]) hb9)) (va_cwO 0 hts (gi_O mM_J0_549 mE_AbstractStringBuilder___length___I mV_J5_length_8abf5 mS_J5_length_8abf5_StringBuilder mV_J4_length_8abf5 mI_StringBuilder mC_J4_length_8abf5) rfl rfl rfl mC_J5_length_8abf5 (by decide +kernel) ⟨Nat.le_of_ble_eq_true rfl, Nat.le_of_ble_eq_true rfl⟩) ⟨fun a1 U g mk q9 => ⟨q9.1, q9.2.1, ⟨q9.2.2.1.1, va_K.moved (u := U) (U := U.calling g mk a1) (Vm.Alike.refl U.vm) q9.2.2.1.2⟩, q9.2.2.2.1, trivial⟩, va_recv (q := (RJ4, TJ4, 4)) hK hP (ci := 3) (q0 := (1 + q0)) rfl (wj_rt (X := [_]) hb9), fun U hU hW => ⟨rfl, by rw [hU], ⟨by rw [hU]; exact hP, va_K.moved hW.alike hK⟩, hD.weaken (fun _ _ _ _ => trivial), trivial⟩⟩ rfl rfl hl.1 rfl (lv_room (Nat.le_of_ble_eq_true rfl)) dJ0_init_db425_10 ⟨Nat.zero_le _, Nat.zero_le _⟩) hS (fun q _ h => hF q h) hF (fun r9 u9 t H locs ht hvm hw hB hz1 hk1 hS => ?_)
  obtain ⟨hP, hD⟩ := hB
  rw [ht] at hP
  have hD := hD.weaken (fun _ q9 _ h => hF q9.1 h)
  have hw9 := hw
  rw [hw9]
  refine lv_istore (lv' := [(4, .int (nI c9)), (3, .ref v9), (0, .ref s9), (1, .ref b9), (2, .null)]) hx hb dJ0_init_db425_13 hl (by decide) rfl (fun ls hl => ?_)
  refine lv_aload_n hx hb dJ0_init_db425_15 rfl (lv_at hl 3 rfl) ?_
  have hF := wj_F hD hS hA
  refine va_calli (va_runU (As := []) (rest := []) hC (c_J5_isLatin1_aae02 l H.size (q0 := (1 + q0)) (wj_rt (X := [_]) hb9)) (va_cwU 0 hts (gi_U mM_J0_1047 mE_AbstractStringBuilder___isLatin1___Z mS_J5_isLatin1_aae02_StringBuilder mV_J5_isLatin1_aae02 mI_AbstractStringBuilder mC_J5_isLatin1_aae02) rfl rfl rfl rfl (by decide +kernel) ⟨Nat.le_of_ble_eq_true rfl, Nat.le_of_ble_eq_true rfl⟩) ⟨fun a1 U g mk q9 => ⟨q9.1, q9.2.1, ⟨q9.2.2.1.1, va_K.moved (u := U) (U := U.calling g mk a1) (Vm.Alike.refl U.vm) q9.2.2.1.2⟩, q9.2.2.2.1, jH.moved (u := U) (U := U.calling g mk a1) (Vm.Alike.refl U.vm) q9.2.2.2.2⟩, va_recv (q := (RJ4, TJ4, 4)) hK hP (ci := 3) (q0 := (1 + q0)) rfl (wj_rt (X := [_]) hb9), fun U hU hW => ⟨rfl, by rw [hU], ⟨by rw [hU]; exact hP, va_K.moved hW.alike hK⟩, hD.weaken (fun _ _ _ _ => trivial), (by rw [hU]; exact ((hJ.kept hS.2.1).narrow hF).moved hW.alike)⟩⟩ rfl rfl hl.1 rfl (lv_room (Nat.le_of_ble_eq_true rfl)) dJ0_init_db425_16 ⟨Nat.zero_le _, Nat.zero_le _⟩) hS (fun q _ h => hF q h) hF (fun r9 u9 t H locs ht hvm hw hB hz1 hk1 hS => ?_)
  obtain ⟨hP, hD⟩ := hB
  rw [ht] at hP
  have hD := hD.weaken (fun _ q9 _ h => hF q9.1 h)
  have hw9 := hw
  rw [hw9]
  refine lv_if_eq (tgt := 41) hx hb dJ0_init_db425_19 (by decide) (fun c_19 => ?_) (fun c_19 => ?_)
  · exact absurd c_19 (by decide)
  · refine lv_aload_n hx hb dJ0_init_db425_22 rfl (lv_at hl 2 rfl) ?_
    refine lv_iconst (v := 0) hx hb dJ0_init_db425_23 (by decide) ?_
    refine va_putF (D := D) (ci := 2) (v := .int 0) (ty := .byte) (C := RJ0) (T := TJ0) (N := 4) hx hb hts lays_J0 tyJ0 tyJ0_ok nmJ0 hown hK hP hD hS 0 rfl rfl 1 (by decide) (hts _ mF_J0_15) (fun _ h9 => h9) rfl hin rfl (by decide +kernel) rfl rfl (Nat.le_of_ble_eq_true rfl) dJ0_init_db425_24 (fun H locs hP hD hS => ?_)
    have hP : va_P D vwCl ((s9, .inr (2, [.null, .int 0, .int 0, .int 0])) :: Wd) H := hP
    have hD : va_D A ((s9, .inr (2, [.null, .int 0, .int 0, .int 0])) :: Wd) := hD
    refine lv_aload_n hx hb dJ0_init_db425_27 rfl (lv_at hl 2 rfl) ?_
    refine lv_aload_n hx hb dJ0_init_db425_28 rfl (lv_at hl 1 rfl) ?_
    refine lv_iconst (v := 0) hx hb dJ0_init_db425_29 (by decide) ?_
    refine lv_iload hx hb dJ0_init_db425_30 (lv_at hl 0 rfl) ?_
    have hF := wj_F hD hS hA
    refine va_callr (va_runS (As := [.ref v9, .int 0, .int (nI c9)]) (rest := [.ref s9]) hC (c_J7_copyOfRange_39247 l H.size (q1 := (1 + q1)) (wj_rt (X := [_]) hv9) hc hm hfit) (va_cwS 3 hts (gi_S mM_J0_54 mT_J7_copyOfRange_39247 mI_Arrays mC_J7_copyOfRange_39247) rfl rfl rfl (by decide +kernel) ⟨Nat.le_of_ble_eq_true rfl, Nat.le_of_ble_eq_true rfl⟩) ⟨fun a1 U g mk q9 => ⟨q9.1, q9.2.1, ⟨q9.2.2.1.1, va_K.moved (u := U) (U := U.calling g mk a1) (Vm.Alike.refl U.vm) q9.2.2.1.2⟩, q9.2.2.2.1, trivial⟩, fun U hU hW => ⟨rfl, by rw [hU], ⟨by rw [hU]; exact hP, va_K.moved hW.alike hK⟩, hD.weaken (fun _ _ _ _ => trivial), trivial⟩⟩ rfl rfl hl.1 rfl (lv_room (Nat.le_of_ble_eq_true rfl)) dJ0_init_db425_32 ⟨(by show _ ≤ 1; omega), (by show _ ≤ 34; omega)⟩) hS (fun q _ h => hF q h) hF (fun u9 ra9 t H locs ht hvm hw hB hz1 hk1 hS => ?_)
    obtain ⟨hP, hD⟩ := hB
    rw [ht] at hP
    have hD := hD.weaken (fun _ q9 _ h => hF q9.1 h)
    have hP : va_P D vwCl ((ra9, .inl (cB, c9, .inl (va_cpy g9 (fun _ => 0) 0 0 c9))) :: (s9, .inr (2, [.null, .int 0, .int 0, .int 0])) :: Wd) H := hP
    have hD : va_D A ((ra9, .inl (cB, c9, .inl (va_cpy g9 (fun _ => 0) 0 0 c9))) :: (s9, .inr (2, [.null, .int 0, .int 0, .int 0])) :: Wd) := hD
    refine va_putF (D := D) (ci := 2) (v := .ref ra9) (ty := .array .byte) (C := RJ0) (T := TJ0) (N := 4) hx hb hts lays_J0 tyJ0 tyJ0_ok nmJ0 hown hK hP hD hS 1 rfl rfl 0 (by decide) (hts _ mF_J0_9) (fun _ h9 => h9) rfl hin rfl (by decide +kernel) rfl rfl (Nat.le_of_ble_eq_true rfl) dJ0_init_db425_35 (fun H locs hP hD hS => ?_)
    have hP : va_P D vwCl ((ra9, .inl (cB, c9, .inl (va_cpy g9 (fun _ => 0) 0 0 c9))) :: (s9, .inr (2, [.ref ra9, .int 0, .int 0, .int 0])) :: Wd) H := hP
    have hD : va_D A ((ra9, .inl (cB, c9, .inl (va_cpy g9 (fun _ => 0) 0 0 c9))) :: (s9, .inr (2, [.ref ra9, .int 0, .int 0, .int 0])) :: Wd) := hD
    refine lv_goto (tgt := 97) hx hb dJ0_init_db425_38 (by decide) ?_
    have hP : va_P D vwCl ((ra9, .inl (cB, c9, .inl (va_cpy g9 (fun _ => 0) 0 0 c9))) :: (s9, .inr (2, [.ref ra9, .int 0, .int 0, .int 0])) :: Wd) H := hP
    have hD : va_D A ((ra9, .inl (cB, c9, .inl (va_cpy g9 (fun _ => 0) 0 0 c9))) :: (s9, .inr (2, [.ref ra9, .int 0, .int 0, .int 0])) :: Wd) := hD
    refine W.widen (k := 1) (n := 34) (by omega) (by omega) ?_
    exact W.vret hx hb hr (fun t ht hW => ⟨⟨ra9, rfl, trivial, by rw [ht]; exact hP, hD⟩, hS.F ht⟩) hS.2.2 dJ0_init_db425_97
set_option maxHeartbeats 4000000 in
set_option maxRecDepth 100000 in
theorem c_J0_init_81219 (l : Launch) (sz : Nat) {D : va_G} {cB : ClassId}  {Wd : va_W} {b9 v9 c9 m9 q0 q1 s9 : Nat} {g9 : Nat → Int32} (hb9 : Wd[q0]? = some (b9, .inr (3, [.ref v9, .int 0, .int 0, .int (nI c9)]))) (hv9 : Wd[q1]? = some (v9, .inl (cB, m9, .inl g9))) (hc : c9 < m9) (hm : m9 ≤ 34) (hfit : sb_Fit g9) : Met l yJ0_init_81219 (ws_ yJ0_init_81219 cJ0_init_81219 2 none) ({ frames := 4, cells := 1, slots := 34, locals := 91 } : Room) (va_Pc [.ref s9, .ref b9] (fun U => U.heap.size = sz ∧ (va_P D vwCl ((s9, .inr (2, [.null, .int 0, .int 0, .int 0])) :: Wd) U.heap ∧ va_K D vwCl [(cB, .byte)] U) ∧ va_D (fun _ => True) ((s9, .inr (2, [.null, .int 0, .int 0, .int 0])) :: Wd) ∧ jH (va_A ((s9, .inr (2, [.null, .int 0, .int 0, .int 0])) :: Wd) sz) U U.heap)) (va_Qv (fun u : Nat => True) (fun u t9 => va_P D vwCl ((u, .inl (cB, c9, .inl (va_cpy g9 (fun _ => 0) 0 0 c9))) :: (s9, .inr (2, [.ref u, .int 0, .int 0, .int 0])) :: Wd) t9.heap ∧ va_D (va_A ((s9, .inr (2, [.null, .int 0, .int 0, .int 0])) :: Wd) sz) ((u, .inl (cB, c9, .inl (va_cpy g9 (fun _ => 0) 0 0 c9))) :: (s9, .inr (2, [.ref u, .int 0, .int 0, .int 0])) :: Wd)) (va_A ((s9, .inr (2, [.null, .int 0, .int 0, .int 0])) :: Wd) sz)) 1 34 (va_A ((s9, .inr (2, [.null, .int 0, .int 0, .int 0])) :: Wd) sz) := by
  refine Met.ofW (cc := cJ0_init_81219) (maxL := 2) (ret := none) (by decide) rfl ?_
  intro p e s m args below meth c s₁ B hml hv
  obtain ⟨rfl, hsz, ⟨hP, hK⟩, hD0, hJ⟩ := hv
  have hx := B.exec
  have hb := B.bytes
  have hr := B.returns
  have hts := atoms_spec (ws := ws_ yJ0_init_81219 cJ0_init_81219 2 none) B.pre
  have hts : ∀ w ∈ lw_all, w.before _ s = true := fun w h => hts w (List.mem_cons_of_mem _ h)
  have hown : s.vm.findClass RJ0 = some m.cls := findClass_of_methodNamed B.named
  have hlocks := B.notSynchronized
  have hC : CallFix p m c cJ0_init_81219 2 s _ lw_all RJ0 := ⟨hx, hb, hml, hown, hts⟩
  subst hsz
  have hD := hD0.self (sz := s.heap.size)
  generalize hAe : va_A ((s9, .inr (2, [.null, .int 0, .int 0, .int 0])) :: Wd) s.heap.size = A at hD hJ ⊢
  have hA : ∀ q : Nat, s.heap.size ≤ q → A q := fun q h => by rw [← hAe]; exact Or.inr h
  have hS : va_S A s.heap s.heap [] := va_S.rf
  have hl := lv_entry ([.ref s9, .ref b9]) (n := 2) (Nat.le_of_ble_eq_true rfl)
  rw [lg_entry_eq]
  generalize (lg_sl ([.ref s9, .ref b9]) ++ List.replicate (2 - (lg_sl ([.ref s9, .ref b9])).length) Slot.unset).toArray = ls at hl ⊢
  have hl : lv_has ls 2 [(0, .ref s9), (1, .ref b9)] := hl
  obtain ⟨H, hH⟩ : ∃ H : Heap, H = s.heap := ⟨_, rfl⟩
  rw [← hH] at hP
  have hS : va_S A s.heap H [] := by rw [hH]; exact va_S.rf
  rw [← hH]
  refine lv_aload_n hx hb dJ0_init_81219_0 rfl (lv_at hl 0 rfl) ?_
  refine lv_aload_n hx hb dJ0_init_81219_1 rfl (lv_at hl 1 rfl) ?_
  refine lv_null hx hb dJ0_init_81219_2 ?_
  have hF := wj_F hD hS hA
  refine va_callv (va_runI (As := [.ref b9, .null]) (rest := []) hC (c_J0_init_db425 l H.size (q0 := q0) (q1 := q1) hb9 hv9 hc hm hfit) (cwI 2 hts (gi_cons mC_J0_init_db425) rfl rfl rfl (hts _ mI_String) (hts _ mM_J0_489) (hts _ mV_J0_init_db425) rfl (by decide +kernel) ⟨Nat.le_of_ble_eq_true rfl, Nat.le_of_ble_eq_true rfl⟩) ⟨fun a1 U g mk q9 => ⟨q9.1, q9.2.1, ⟨q9.2.2.1.1, va_K.moved (u := U) (U := U.calling g mk a1) (Vm.Alike.refl U.vm) q9.2.2.1.2⟩, q9.2.2.2.1, jH.moved (u := U) (U := U.calling g mk a1) (Vm.Alike.refl U.vm) q9.2.2.2.2⟩, fun U hU hW => ⟨rfl, by rw [hU], ⟨by rw [hU]; exact hP, va_K.moved hW.alike hK⟩, hD.weaken (fun _ _ _ _ => trivial), (by rw [hU]; exact ((hJ.kept hS.2.1).narrow hF).moved hW.alike)⟩⟩ rfl rfl hl.1 rfl (lv_room (Nat.le_of_ble_eq_true rfl)) dJ0_init_81219_3 ⟨(by show _ ≤ 1; omega), (by show _ ≤ 34; omega)⟩) hS (fun q _ h => hF q h) hF (fun u9 t H locs ht hvm hw hB hz1 hk1 hS => ?_)
  obtain ⟨hP, hD⟩ := hB
  rw [ht] at hP
  have hD := hD.weaken (fun _ q9 _ h => hF q9.1 h)
  have hP : va_P D vwCl ((u9, .inl (cB, c9, .inl (va_cpy g9 (fun _ => 0) 0 0 c9))) :: (s9, .inr (2, [.ref u9, .int 0, .int 0, .int 0])) :: Wd) H := hP
  have hD : va_D A ((u9, .inl (cB, c9, .inl (va_cpy g9 (fun _ => 0) 0 0 c9))) :: (s9, .inr (2, [.ref u9, .int 0, .int 0, .int 0])) :: Wd) := hD
  have hP : va_P D vwCl ((u9, .inl (cB, c9, .inl (va_cpy g9 (fun _ => 0) 0 0 c9))) :: (s9, .inr (2, [.ref u9, .int 0, .int 0, .int 0])) :: Wd) H := hP
  have hD : va_D A ((u9, .inl (cB, c9, .inl (va_cpy g9 (fun _ => 0) 0 0 c9))) :: (s9, .inr (2, [.ref u9, .int 0, .int 0, .int 0])) :: Wd) := hD
  refine W.widen (k := 1) (n := 34) (by omega) (by omega) ?_
  exact W.vret hx hb hr (fun t ht hW => ⟨⟨u9, rfl, trivial, by rw [ht]; exact hP, hD⟩, hS.F ht⟩) hS.2.2 dJ0_init_81219_6
set_option maxHeartbeats 4000000 in
set_option maxRecDepth 100000 in
theorem c_J4_toString_0e30d (l : Launch) (sz : Nat) {D : va_G} {cB : ClassId}  {Wd : va_W} {b9 v9 c9 m9 q0 q1 : Nat} {g9 : Nat → Int32} (hb9 : Wd[q0]? = some (b9, .inr (3, [.ref v9, .int 0, .int 0, .int (nI c9)]))) (hv9 : Wd[q1]? = some (v9, .inl (cB, m9, .inl g9))) (hc : c9 < m9) (hm : m9 ≤ 34) (hfit : sb_Fit g9) : Met l yJ4_toString_0e30d (ws_ yJ4_toString_0e30d cJ4_toString_0e30d 1 (some (.object "java/lang/String"))) ({ frames := 5, cells := 2, slots := 38, locals := 112 } : Room) (va_Pc [.ref b9] (fun U => U.heap.size = sz ∧ (va_P D vwCl (Wd) U.heap ∧ va_K D vwCl [(cB, .byte)] U) ∧ va_D (fun _ => True) (Wd) ∧ jH (va_A (Wd) sz) U U.heap)) (va_Qr (fun u : Nat => True) (fun u ra t9 => va_P D vwCl ((u, .inl (cB, c9, .inl (va_cpy g9 (fun _ => 0) 0 0 c9))) :: (ra, .inr (2, [.ref u, .int 0, .int 0, .int 0])) :: Wd) t9.heap ∧ va_D (va_A (Wd) sz) ((u, .inl (cB, c9, .inl (va_cpy g9 (fun _ => 0) 0 0 c9))) :: (ra, .inr (2, [.ref u, .int 0, .int 0, .int 0])) :: Wd)) (va_A (Wd) sz)) 2 38 (va_A (Wd) sz) := by
  refine Met.ofW (cc := cJ4_toString_0e30d) (maxL := 1) (ret := (some (.object "java/lang/String"))) (by decide) rfl ?_
  intro p e s m args below meth c s₁ B hml hv
  obtain ⟨rfl, hsz, ⟨hP, hK⟩, hD0, hJ⟩ := hv
  have hx := B.exec
  have hb := B.bytes
  have hr := B.returns
  have hts := atoms_spec (ws := ws_ yJ4_toString_0e30d cJ4_toString_0e30d 1 (some (.object "java/lang/String"))) B.pre
  have hts : ∀ w ∈ lw_all, w.before _ s = true := fun w h => hts w (List.mem_cons_of_mem _ h)
  have hown : s.vm.findClass RJ4 = some m.cls := findClass_of_methodNamed B.named
  have hlocks := B.notSynchronized
  have hC : CallFix p m c cJ4_toString_0e30d 1 s _ lw_all RJ4 := ⟨hx, hb, hml, hown, hts⟩
  subst hsz
  have hD := hD0.self (sz := s.heap.size)
  generalize hAe : va_A (Wd) s.heap.size = A at hD hJ ⊢
  have hA : ∀ q : Nat, s.heap.size ≤ q → A q := fun q h => by rw [← hAe]; exact Or.inr h
  have hS : va_S A s.heap s.heap [] := va_S.rf
  have hl := lv_entry ([.ref b9]) (n := 1) (Nat.le_of_ble_eq_true rfl)
  rw [lg_entry_eq]
  generalize (lg_sl ([.ref b9]) ++ List.replicate (1 - (lg_sl ([.ref b9])).length) Slot.unset).toArray = ls at hl ⊢
  have hl : lv_has ls 1 [(0, .ref b9)] := hl
  obtain ⟨H, hH⟩ : ∃ H : Heap, H = s.heap := ⟨_, rfl⟩
  rw [← hH] at hP
  have hS : va_S A s.heap H [] := by rw [hH]; exact va_S.rf
  rw [← hH]
  refine va_new (ci := 2) (fs := [.null, .int 0, .int 0, .int 0]) (C := RJ0) (T := TJ0) (N := 4) hx hb hts lays_J0 tyJ0 tyJ0_ok hown (hts _ mK_RJ4_18) (hts _ mB_String) (hts _ mI_String) hK hP hD hS hA rfl (fun j hj => by
        match j, hj with
        | 0, _ => rfl
        | 1, _ => rfl
        | 2, _ => rfl
        | 3, _ => rfl
        | k + 4, h => exact absurd h (by omega)) (Nat.le_of_ble_eq_true rfl) (Nat.le_of_ble_eq_true rfl) dJ4_toString_0e30d_0 (fun s9 H hP hD hS => ?_)
  have hP := wj_sP (M := [(s9, .inr (2, [.null, .int 0, .int 0, .int 0]))]) hP
  have hD := wj_sD (M := [(s9, .inr (2, [.null, .int 0, .int 0, .int 0]))]) hD
  have hP : va_P D vwCl ((s9, .inr (2, [.null, .int 0, .int 0, .int 0])) :: Wd) H := hP
  have hD : va_D A ((s9, .inr (2, [.null, .int 0, .int 0, .int 0])) :: Wd) := hD
  refine lv_dup hx hb dJ4_toString_0e30d_3 rfl ?_
  refine lv_aload_n hx hb dJ4_toString_0e30d_4 rfl (lv_at hl 0 rfl) ?_
  have hF := wj_F hD hS hA
  refine va_callv (va_runI (As := [.ref b9]) (rest := [.ref s9]) hC (c_J0_init_81219 l H.size (q0 := q0) (q1 := q1) hb9 hv9 hc hm hfit) (cwI 1 hts (gi_cons mC_J0_init_81219) rfl rfl rfl (hts _ mI_String) (hts _ mM_J4_137) (hts _ mV_J0_init_81219) rfl (by decide +kernel) ⟨Nat.le_of_ble_eq_true rfl, Nat.le_of_ble_eq_true rfl⟩) ⟨fun a1 U g mk q9 => ⟨q9.1, q9.2.1, ⟨q9.2.2.1.1, va_K.moved (u := U) (U := U.calling g mk a1) (Vm.Alike.refl U.vm) q9.2.2.1.2⟩, q9.2.2.2.1, jH.moved (u := U) (U := U.calling g mk a1) (Vm.Alike.refl U.vm) q9.2.2.2.2⟩, fun U hU hW => ⟨rfl, by rw [hU], ⟨by rw [hU]; exact hP, va_K.moved hW.alike hK⟩, hD.weaken (fun _ _ _ _ => trivial), (by rw [hU]; exact ((hJ.kept hS.2.1).narrow hF).moved hW.alike)⟩⟩ rfl rfl hl.1 rfl (lv_room (Nat.le_of_ble_eq_true rfl)) dJ4_toString_0e30d_5 ⟨(by show _ ≤ 2; omega), (by show _ ≤ 38; omega)⟩) hS (fun q _ h => hF q h) hF (fun u9 t H locs ht hvm hw hB hz1 hk1 hS => ?_)
  obtain ⟨hP, hD⟩ := hB
  rw [ht] at hP
  have hD := hD.weaken (fun _ q9 _ h => hF q9.1 h)
  have hP : va_P D vwCl ((u9, .inl (cB, c9, .inl (va_cpy g9 (fun _ => 0) 0 0 c9))) :: (s9, .inr (2, [.ref u9, .int 0, .int 0, .int 0])) :: Wd) H := hP
  have hD : va_D A ((u9, .inl (cB, c9, .inl (va_cpy g9 (fun _ => 0) 0 0 c9))) :: (s9, .inr (2, [.ref u9, .int 0, .int 0, .int 0])) :: Wd) := hD
  have hP : va_P D vwCl ((u9, .inl (cB, c9, .inl (va_cpy g9 (fun _ => 0) 0 0 c9))) :: (s9, .inr (2, [.ref u9, .int 0, .int 0, .int 0])) :: Wd) H := hP
  have hD : va_D A ((u9, .inl (cB, c9, .inl (va_cpy g9 (fun _ => 0) 0 0 c9))) :: (s9, .inr (2, [.ref u9, .int 0, .int 0, .int 0])) :: Wd) := hD
  refine W.widen (k := 2) (n := 38) (by omega) (by omega) ?_
  exact W.aret (v := .ref s9) hx hb hr (by first | exact Or.inl ⟨_, rfl⟩ | exact Or.inr ⟨_, rfl⟩) (Or.inr ⟨_, rfl⟩) (fun t ht hW => ⟨⟨u9, s9, rfl, trivial, by rw [ht]; exact hP, hD⟩, hS.F ht⟩) hS.2.2 dJ4_toString_0e30d_8

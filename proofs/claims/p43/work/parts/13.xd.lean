set_option maxHeartbeats 4000000 in
set_option maxRecDepth 100000 in
theorem c_X0_wouldCertify (l : Launch) (sz : Nat) {D : va_G} {z : ClassId × ClassId} {a : Nat → Nat} {lv lk pu fa he : Nat → Int32} {n : Nat} {nv du ta : Nat → Int32} {w : Nat} {mp mi : Nat → Int32} {k : Nat} {nt fu re : Int32} (b : Int32) (h1 : ¬ b < 1) (h2 : b ≤ 60) (hw : w ≤ 6) : Met l yX0_wouldCertify (ws_ yX0_wouldCertify cX0_wouldCertify 2 (some .int)) ({ frames := 3, cells := 0, slots := 0, locals := 66 } : Room) (va_Pc [.ref (a 0), .int b] (fun U => U.heap.size = sz ∧ xI D z a lv lk pu fa he n nv du ta w mp mi k nt fu re U ∧ va_D (fun _ => True) (xW z a lv lk pu fa he n nv du ta w mp mi k nt fu re))) (va_Qi (fun (r : Int32) (_ : Unit) => r = sp_mid du nv b ta w) (fun _ t9 => va_P D vwCl (xW z a lv lk pu fa he n nv du (sp_tarr du nv b ta w) w mp mi k nt fu re) t9.heap ∧ kK D z t9 ∧ va_D (va_A (xW z a lv lk pu fa he n nv du ta w mp mi k nt fu re) sz) (xW z a lv lk pu fa he n nv du (sp_tarr du nv b ta w) w mp mi k nt fu re)) (va_A (xW z a lv lk pu fa he n nv du ta w mp mi k nt fu re) sz)) 0 0 (va_A (xW z a lv lk pu fa he n nv du ta w mp mi k nt fu re) sz) := by
  refine Met.ofW (cc := cX0_wouldCertify) (maxL := 2) (ret := (some .int)) (by decide) rfl ?_
  intro p e s m args below meth c s₁ B hml hv
  obtain ⟨rfl, hsz, ⟨hP, hK⟩, hD0⟩ := hv
  have hx := B.exec
  have hb := B.bytes
  have hr := B.returns
  have hts := atoms_spec (ws := ws_ yX0_wouldCertify cX0_wouldCertify 2 (some .int)) B.pre
  have hts : ∀ w ∈ lw_all, w.before _ s = true := fun w h => hts w (List.mem_cons_of_mem _ h)
  have hown : s.vm.findClass RX0 = some m.cls := findClass_of_methodNamed B.named
  have hlocks := B.notSynchronized
  have hC : CallFix p m c cX0_wouldCertify 2 s _ lw_all RX0 := ⟨hx, hb, hml, hown, hts⟩
  subst hsz
  have hD := hD0.self (sz := s.heap.size)
  generalize hAe : va_A (xW z a lv lk pu fa he n nv du ta w mp mi k nt fu re) s.heap.size = A at hD ⊢
  have hA : ∀ q : Nat, s.heap.size ≤ q → A q := fun q h => by rw [← hAe]; exact Or.inr h
  have hS : va_S A s.heap s.heap [] := va_S.rf
  have hl := lv_entry ([.ref (a 0), .int b]) (n := 2) (Nat.le_of_ble_eq_true rfl)
  rw [lg_entry_eq]
  generalize (lg_sl ([.ref (a 0), .int b]) ++ List.replicate (2 - (lg_sl ([.ref (a 0), .int b])).length) Slot.unset).toArray = ls at hl ⊢
  have hl : lv_has ls 2 [(0, .ref (a 0)), (1, .int b)] := hl
  refine lv_aload_n hx hb dX0_wouldCertify_0 rfl (lv_at hl 0 rfl) ?_
  refine lv_iload_n hx hb dX0_wouldCertify_1 rfl (lv_at hl 1 rfl) ?_
  refine k_X0_requireInches hC hK hP hl.1 ⟨Nat.le_of_ble_eq_true rfl, Nat.le_of_ble_eq_true rfl⟩ ⟨Nat.zero_le _, Nat.zero_le _⟩ (Nat.le_of_ble_eq_true rfl)  (by first | assumption | omega) (by first | assumption | omega) dX0_wouldCertify_2 ?_
  refine lv_aload_n hx hb dX0_wouldCertify_5 rfl (lv_at hl 0 rfl) ?_
  refine lv_iload_n hx hb dX0_wouldCertify_6 rfl (lv_at hl 1 rfl) ?_
  refine k_X0_middleTale hC hK hP hD hS hA hl.1 ⟨Nat.le_of_ble_eq_true rfl, Nat.le_of_ble_eq_true rfl⟩ ⟨Nat.zero_le _, Nat.zero_le _⟩ (Nat.le_of_ble_eq_true rfl)  (by first | assumption | omega) dX0_wouldCertify_7 (fun H locs hP hD hS => ?_)
  exact W.iret (v := sp_mid du nv b ta w) hx hb hr (fun t ht hW => ⟨⟨sp_mid du nv b ta w, (), rfl, rfl, by rw [ht]; exact hP, va_K.moved hW.alike hK, hD⟩, hS.F ht⟩) hS.2.2 dX0_wouldCertify_10
set_option maxHeartbeats 4000000 in
set_option maxRecDepth 100000 in
theorem c_X0_sealOf (l : Launch) {D : va_G} {z : ClassId × ClassId} {a : Nat → Nat} {lv lk pu fa he : Nat → Int32} {n : Nat} {nv du ta : Nat → Int32} {w : Nat} {mp mi : Nat → Int32} {k : Nat} {nt fu re : Int32} {q9 t9 : Nat → Nat} (i : Nat) (hi : i < k) (hk : k ≤ 60) : Met l yX0_sealOf (ws_ yX0_sealOf cX0_sealOf 2 (some .int)) ({ frames := 6, cells := 0, slots := 0, locals := 129 } : Room) (va_Pc [.ref (a 0), .int (nI i)] (fun U => xI D z a lv lk pu fa he n nv du ta w mp mi k nt fu re U ∧ cH q9 t9 nA U U.heap)) (vp_Si (fun r : Int32 => r = sp_seal (mp i) (mi i))) 0 0 (fun _ => False) := by
  refine Met.ofW (cc := cX0_sealOf) (maxL := 2) (ret := (some .int)) (by decide) rfl ?_
  intro p e s m args below meth c s₁ B hml hv
  obtain ⟨rfl, ⟨hP, hK⟩, hE⟩ := hv
  have hx := B.exec
  have hb := B.bytes
  have hr := B.returns
  have hts := atoms_spec (ws := ws_ yX0_sealOf cX0_sealOf 2 (some .int)) B.pre
  have hts : ∀ w ∈ lw_all, w.before _ s = true := fun w h => hts w (List.mem_cons_of_mem _ h)
  have hown : s.vm.findClass RX0 = some m.cls := findClass_of_methodNamed B.named
  have hlocks := B.notSynchronized
  have hC : CallFix p m c cX0_sealOf 2 s _ lw_all RX0 := ⟨hx, hb, hml, hown, hts⟩
  have hl := lv_entry ([.ref (a 0), .int (nI i)]) (n := 2) (Nat.le_of_ble_eq_true rfl)
  rw [lg_entry_eq]
  generalize (lg_sl ([.ref (a 0), .int (nI i)]) ++ List.replicate (2 - (lg_sl ([.ref (a 0), .int (nI i)])).length) Slot.unset).toArray = ls at hl ⊢
  have hl : lv_has ls 2 [(0, .ref (a 0)), (1, .int (nI i))] := hl
  refine lv_aload_n hx hb dX0_sealOf_0 rfl (lv_at hl 0 rfl) ?_
  refine lv_iload_n hx hb dX0_sealOf_1 rfl (lv_at hl 1 rfl) ?_
  refine k_X0_requireMiss hC hK hP hl.1 ⟨Nat.le_of_ble_eq_true rfl, Nat.le_of_ble_eq_true rfl⟩ ⟨Nat.zero_le _, Nat.zero_le _⟩ (Nat.le_of_ble_eq_true rfl) rfl (by first | assumption | omega) (by first | assumption | omega) dX0_sealOf_2 ?_
  refine lv_aload_n hx hb dX0_sealOf_5 rfl (lv_at hl 0 rfl) ?_
  refine xg_mp hC hK hP dX0_sealOf_6 ?_
  refine lv_iload_n hx hb dX0_sealOf_9 rfl (lv_at hl 1 rfl) ?_
  refine xl_mp hC hK hP i rfl (by omega) dX0_sealOf_10 ?_
  refine lv_aload_n hx hb dX0_sealOf_11 rfl (lv_at hl 0 rfl) ?_
  refine xg_mi hC hK hP dX0_sealOf_12 ?_
  refine lv_iload_n hx hb dX0_sealOf_15 rfl (lv_at hl 1 rfl) ?_
  refine xl_mi hC hK hP i rfl (by omega) dX0_sealOf_16 ?_
  refine k_X0_certificateSeal hC mM_X0_148 hE hl.1 ⟨Nat.le_of_ble_eq_true rfl, Nat.le_of_ble_eq_true rfl⟩ ⟨Nat.zero_le _, Nat.zero_le _⟩ (Nat.le_of_ble_eq_true rfl) dX0_sealOf_17 ?_
  exact W.iret (v := sp_seal (mp i) (mi i)) hx hb hr (fun t ht hW => ⟨sp_seal (mp i) (mi i), rfl, rfl, ht⟩) (fun q hq => absurd hq List.not_mem_nil) dX0_sealOf_20

set_option maxHeartbeats 4000000 in
set_option maxRecDepth 100000 in
theorem ct_X0_requirePerson_a (l : Launch) (hst : l.stackTraces = false) {D : va_G} {z : ClassId × ClassId} {a : Nat → Nat} {lv lk pu fa he : Nat → Int32} {n : Nat} {nv du ta : Nat → Int32} {w : Nat} {mp mi : Nat → Int32} {k : Nat} {nt fu re : Int32} (x : Int32) (hbad : sp_isP n x = 0) : vx_Met l yX0_requirePerson (ws_ yX0_requirePerson cX0_requirePerson 2 none) ({ frames := 6, cells := 1, slots := 6, locals := 90 } : Room) (va_Pc [.ref (a 0), .int x] (fun U => xI D z a lv lk pu fa he n nv du ta w mp mi k nt fu re U ∧ tH nA U U.heap)) (va_Qv (fun _ : Unit => False) (fun _ _ => True) nA) (tX "java/lang/IndexOutOfBoundsException") 1 6 nA := by
  refine vx_ofW (cc := cX0_requirePerson) (maxL := 2) (ret := none) (by decide) rfl ?_
  intro p e s m args below meth c s₁ B hml hnt hv
  obtain ⟨rfl, ⟨hP, hK⟩, hT⟩ := hv
  have hx := B.exec
  have hb := B.bytes
  have hr := B.returns
  have hts := atoms_spec (ws := ws_ yX0_requirePerson cX0_requirePerson 2 none) B.pre
  have hts : ∀ w ∈ lw_all, w.before _ s = true := fun w h => hts w (List.mem_cons_of_mem _ h)
  have hown : s.vm.findClass RX0 = some m.cls := findClass_of_methodNamed B.named
  have hlocks := B.notSynchronized
  have hC : CallFix p m c cX0_requirePerson 2 s _ lw_all RX0 := ⟨hx, hb, hml, hown, hts⟩
  have hl := lv_entry ([.ref (a 0), .int x]) (n := 2) (Nat.le_of_ble_eq_true rfl)
  rw [lg_entry_eq]
  generalize (lg_sl ([.ref (a 0), .int x]) ++ List.replicate (2 - (lg_sl ([.ref (a 0), .int x])).length) Slot.unset).toArray = ls at hl ⊢
  have hl : lv_has ls 2 [(0, .ref (a 0)), (1, .int x)] := hl
  refine lv_aload_n hx hb dX0_requirePerson_0 rfl (lv_at hl 0 rfl) ?_
  refine lv_iload_n hx hb dX0_requirePerson_1 rfl (lv_at hl 1 rfl) ?_
  refine k_X0_isPerson hC hK hP hl.1 ⟨Nat.le_of_ble_eq_true rfl, Nat.le_of_ble_eq_true rfl⟩ ⟨Nat.zero_le _, Nat.zero_le _⟩ (Nat.le_of_ble_eq_true rfl)   dX0_requirePerson_2 ?_
  refine lv_if_ne (tgt := 18) hx hb dX0_requirePerson_5 (by decide) (fun c_5 => ?_) (fun c_5 => ?_)
  · exact absurd hbad c_5
  · exact th_IOB hC hst hnt hlocks hT (hT.2.2.2 (186, "there is no such person") (by decide)) hl.1 ⟨Nat.le_of_ble_eq_true rfl, Nat.le_of_ble_eq_true rfl⟩ ⟨Nat.le_of_ble_eq_true rfl, Nat.le_of_ble_eq_true rfl⟩ dX0_requirePerson_8 dX0_requirePerson_11 dX0_requirePerson_12 dX0_requirePerson_14 dX0_requirePerson_17
set_option maxRecDepth 100000 in
theorem kt_X0_requirePerson_a {p : Program} {l : Launch} {e : Env} {R : Room} {s : State} {m : MethodId} {args : Array Value} {below : List Frame} {meth : Method} {c : Code} {D : va_G} {z : ClassId × ClassId} {a : Nat → Nat} {lv lk pu fa he : Nat → Int32} {n : Nat} {nv du ta : Nat → Int32} {w : Nat} {mp mi : Nat → Int32} {k : Nat} {nt fu re : Int32} {cc : ByteArray} {nL pc : Nat} {ls : Array Slot} {rest : List Value} {Qc : Array Value → State → Outcome → State → Prop} (hC : CallFix p m c cc nL s args lw_all RX0) (hst : l.stackTraces = false) (hnt : ∀ x ∈ c.exceptionTable.toList, False) (hlocks : meth.locks = false) (hK : kK D z s) (hP : va_P D vwCl (xW z a lv lk pu fa he n nv du ta w mp mi k nt fu re) s.heap) (hT : tH nA s s.heap) (hl : ls.size = nL) (hR : 7 ≤ R.frames ∧ 111 ≤ R.locals) (hZ : 1 ≤ R.cells ∧ 6 ≤ R.slots) (hr : (rest.map fun v => v.category).sum ≤ 8) {x : Int32}  (hbad : sp_isP n x = 0) (hdg : decode cc pc = .ok (.invokevirtual 64, 3)) : W p l e R s m args below meth c s.heap [] 0 0 (vx_MQ below Qc (tX "java/lang/IndexOutOfBoundsException") args s 1 6 nA) (F0 m pc ls (.int x :: .ref (a 0) :: rest)) := by
  refine vx_callv (vx_runV (As := [.int x]) (rest := rest) hC (ct_X0_requirePerson_a l hst x hbad) (cwV 1 hC.2.2.2.2 (gi_V mM_X0_64 mV_X0_requirePerson mS_X0_requirePerson mI_MissRegistry mC_X0_requirePerson) rfl rfl rfl (by decide +kernel) hR) ⟨fun a1 U g mk q8 => ⟨q8.1, ⟨q8.2.1.1, va_K.moved (u := U) (U := U.calling g mk a1) (Vm.Alike.refl U.vm) q8.2.1.2⟩, tH.same (u := U) (U := U.calling g mk a1) rfl q8.2.2⟩, va_recv hK hP (ci := 0) (q0 := 0) rfl rfl, fun U hU hW => ⟨rfl, ⟨by rw [hU]; exact hP, va_K.moved hW.alike hK⟩, by rw [hU]; exact hT.warm hW⟩⟩ rfl rfl hl rfl (lv_room hr) hdg (by simpa using hZ)) (va_S.rf (A := nA)) (fun _ _ h => h.elim) (fun _ h => h.elim) (fun _ _ h => h.elim) (fun E9 ce q9 u t H1 locs1 ht hvm hp hB hz hk hS hce hcv hcl => ?_) (fun u t H1 locs1 ht hvm hw hB hz hk hS => hw.elim)
  have hB : E9 = _ := hB
  subst hB
  exact vx_out (fun x hx => (hnt x hx).elim) hlocks hce hcv hcl (fun t9 ht9 hvm9 => ⟨(), trivial, rfl, by rw [ht9]; exact hz, fun q hq _ => by rw [ht9]; exact hk q hq (fun h => h)⟩) hS.2.2 (by omega) (by omega)
set_option maxHeartbeats 4000000 in
set_option maxRecDepth 100000 in
theorem ct_X0_requireWitness_a (l : Launch) (hst : l.stackTraces = false) {D : va_G} {z : ClassId × ClassId} {a : Nat → Nat} {lv lk pu fa he : Nat → Int32} {n : Nat} {nv du ta : Nat → Int32} {w : Nat} {mp mi : Nat → Int32} {k : Nat} {nt fu re : Int32} (x : Int32) (hbad : sp_isP w x = 0) : vx_Met l yX0_requireWitness (ws_ yX0_requireWitness cX0_requireWitness 2 none) ({ frames := 6, cells := 1, slots := 6, locals := 90 } : Room) (va_Pc [.ref (a 0), .int x] (fun U => xI D z a lv lk pu fa he n nv du ta w mp mi k nt fu re U ∧ tH nA U U.heap)) (va_Qv (fun _ : Unit => False) (fun _ _ => True) nA) (tX "java/lang/IndexOutOfBoundsException") 1 6 nA := by
  refine vx_ofW (cc := cX0_requireWitness) (maxL := 2) (ret := none) (by decide) rfl ?_
  intro p e s m args below meth c s₁ B hml hnt hv
  obtain ⟨rfl, ⟨hP, hK⟩, hT⟩ := hv
  have hx := B.exec
  have hb := B.bytes
  have hr := B.returns
  have hts := atoms_spec (ws := ws_ yX0_requireWitness cX0_requireWitness 2 none) B.pre
  have hts : ∀ w ∈ lw_all, w.before _ s = true := fun w h => hts w (List.mem_cons_of_mem _ h)
  have hown : s.vm.findClass RX0 = some m.cls := findClass_of_methodNamed B.named
  have hlocks := B.notSynchronized
  have hC : CallFix p m c cX0_requireWitness 2 s _ lw_all RX0 := ⟨hx, hb, hml, hown, hts⟩
  have hl := lv_entry ([.ref (a 0), .int x]) (n := 2) (Nat.le_of_ble_eq_true rfl)
  rw [lg_entry_eq]
  generalize (lg_sl ([.ref (a 0), .int x]) ++ List.replicate (2 - (lg_sl ([.ref (a 0), .int x])).length) Slot.unset).toArray = ls at hl ⊢
  have hl : lv_has ls 2 [(0, .ref (a 0)), (1, .int x)] := hl
  refine lv_aload_n hx hb dX0_requireWitness_0 rfl (lv_at hl 0 rfl) ?_
  refine lv_iload_n hx hb dX0_requireWitness_1 rfl (lv_at hl 1 rfl) ?_
  refine k_X0_isWitness hC hK hP hl.1 ⟨Nat.le_of_ble_eq_true rfl, Nat.le_of_ble_eq_true rfl⟩ ⟨Nat.zero_le _, Nat.zero_le _⟩ (Nat.le_of_ble_eq_true rfl)   dX0_requireWitness_2 ?_
  refine lv_if_ne (tgt := 18) hx hb dX0_requireWitness_5 (by decide) (fun c_5 => ?_) (fun c_5 => ?_)
  · exact absurd hbad c_5
  · exact th_IOB hC hst hnt hlocks hT (hT.2.2.2 (191, "there is no such witness") (by decide)) hl.1 ⟨Nat.le_of_ble_eq_true rfl, Nat.le_of_ble_eq_true rfl⟩ ⟨Nat.le_of_ble_eq_true rfl, Nat.le_of_ble_eq_true rfl⟩ dX0_requireWitness_8 dX0_requireWitness_11 dX0_requireWitness_12 dX0_requireWitness_14 dX0_requireWitness_17
set_option maxRecDepth 100000 in
theorem kt_X0_requireWitness_a {p : Program} {l : Launch} {e : Env} {R : Room} {s : State} {m : MethodId} {args : Array Value} {below : List Frame} {meth : Method} {c : Code} {D : va_G} {z : ClassId × ClassId} {a : Nat → Nat} {lv lk pu fa he : Nat → Int32} {n : Nat} {nv du ta : Nat → Int32} {w : Nat} {mp mi : Nat → Int32} {k : Nat} {nt fu re : Int32} {cc : ByteArray} {nL pc : Nat} {ls : Array Slot} {rest : List Value} {Qc : Array Value → State → Outcome → State → Prop} (hC : CallFix p m c cc nL s args lw_all RX0) (hst : l.stackTraces = false) (hnt : ∀ x ∈ c.exceptionTable.toList, False) (hlocks : meth.locks = false) (hK : kK D z s) (hP : va_P D vwCl (xW z a lv lk pu fa he n nv du ta w mp mi k nt fu re) s.heap) (hT : tH nA s s.heap) (hl : ls.size = nL) (hR : 7 ≤ R.frames ∧ 111 ≤ R.locals) (hZ : 1 ≤ R.cells ∧ 6 ≤ R.slots) (hr : (rest.map fun v => v.category).sum ≤ 8) {x : Int32}  (hbad : sp_isP w x = 0) (hdg : decode cc pc = .ok (.invokevirtual 84, 3)) : W p l e R s m args below meth c s.heap [] 0 0 (vx_MQ below Qc (tX "java/lang/IndexOutOfBoundsException") args s 1 6 nA) (F0 m pc ls (.int x :: .ref (a 0) :: rest)) := by
  refine vx_callv (vx_runV (As := [.int x]) (rest := rest) hC (ct_X0_requireWitness_a l hst x hbad) (cwV 1 hC.2.2.2.2 (gi_V mM_X0_84 mV_X0_requireWitness mS_X0_requireWitness mI_MissRegistry mC_X0_requireWitness) rfl rfl rfl (by decide +kernel) hR) ⟨fun a1 U g mk q8 => ⟨q8.1, ⟨q8.2.1.1, va_K.moved (u := U) (U := U.calling g mk a1) (Vm.Alike.refl U.vm) q8.2.1.2⟩, tH.same (u := U) (U := U.calling g mk a1) rfl q8.2.2⟩, va_recv hK hP (ci := 0) (q0 := 0) rfl rfl, fun U hU hW => ⟨rfl, ⟨by rw [hU]; exact hP, va_K.moved hW.alike hK⟩, by rw [hU]; exact hT.warm hW⟩⟩ rfl rfl hl rfl (lv_room hr) hdg (by simpa using hZ)) (va_S.rf (A := nA)) (fun _ _ h => h.elim) (fun _ h => h.elim) (fun _ _ h => h.elim) (fun E9 ce q9 u t H1 locs1 ht hvm hp hB hz hk hS hce hcv hcl => ?_) (fun u t H1 locs1 ht hvm hw hB hz hk hS => hw.elim)
  have hB : E9 = _ := hB
  subst hB
  exact vx_out (fun x hx => (hnt x hx).elim) hlocks hce hcv hcl (fun t9 ht9 hvm9 => ⟨(), trivial, rfl, by rw [ht9]; exact hz, fun q hq _ => by rw [ht9]; exact hk q hq (fun h => h)⟩) hS.2.2 (by omega) (by omega)
theorem isP_0 {n : Nat} {x : Int32} (h1 : ¬ x < 0) (h2 : ¬ nI n ≤ x) : ¬ sp_isP n x = 0 := by unfold sp_isP; rw [if_neg h1, if_neg h2]; decide
theorem lt_nle {x y : Int32} (h : x < y) : ¬ y ≤ x := by rw [Int32.le_iff_toInt_le]; rw [Int32.lt_iff_toInt_lt] at h; omega
set_option maxHeartbeats 4000000 in
set_option maxRecDepth 100000 in
theorem ct_X0_requireMiss_a (l : Launch) (hst : l.stackTraces = false) {D : va_G} {z : ClassId × ClassId} {a : Nat → Nat} {lv lk pu fa he : Nat → Int32} {n : Nat} {nv du ta : Nat → Int32} {w : Nat} {mp mi : Nat → Int32} {k : Nat} {nt fu re : Int32} (x : Int32) (hbad : sp_isP k x = 0) : vx_Met l yX0_requireMiss (ws_ yX0_requireMiss cX0_requireMiss 2 none) ({ frames := 6, cells := 1, slots := 6, locals := 90 } : Room) (va_Pc [.ref (a 0), .int x] (fun U => xI D z a lv lk pu fa he n nv du ta w mp mi k nt fu re U ∧ tH nA U U.heap)) (va_Qv (fun _ : Unit => False) (fun _ _ => True) nA) (tX "java/lang/IndexOutOfBoundsException") 1 6 nA := by
  refine vx_ofW (cc := cX0_requireMiss) (maxL := 2) (ret := none) (by decide) rfl ?_
  intro p e s m args below meth c s₁ B hml hnt hv
  obtain ⟨rfl, ⟨hP, hK⟩, hT⟩ := hv
  have hx := B.exec
  have hb := B.bytes
  have hr := B.returns
  have hts := atoms_spec (ws := ws_ yX0_requireMiss cX0_requireMiss 2 none) B.pre
  have hts : ∀ w ∈ lw_all, w.before _ s = true := fun w h => hts w (List.mem_cons_of_mem _ h)
  have hown : s.vm.findClass RX0 = some m.cls := findClass_of_methodNamed B.named
  have hlocks := B.notSynchronized
  have hC : CallFix p m c cX0_requireMiss 2 s _ lw_all RX0 := ⟨hx, hb, hml, hown, hts⟩
  have hl := lv_entry ([.ref (a 0), .int x]) (n := 2) (Nat.le_of_ble_eq_true rfl)
  rw [lg_entry_eq]
  generalize (lg_sl ([.ref (a 0), .int x]) ++ List.replicate (2 - (lg_sl ([.ref (a 0), .int x])).length) Slot.unset).toArray = ls at hl ⊢
  have hl : lv_has ls 2 [(0, .ref (a 0)), (1, .int x)] := hl
  refine lv_iload_n hx hb dX0_requireMiss_0 rfl (lv_at hl 1 rfl) ?_
  refine lv_if_lt (tgt := 12) hx hb dX0_requireMiss_1 (by decide) (fun c_1 => ?_) (fun c_1 => ?_)
  · exact th_IOB hC hst hnt hlocks hT (hT.2.2.2 (193, "there is no such miss") (by decide)) hl.1 ⟨Nat.le_of_ble_eq_true rfl, Nat.le_of_ble_eq_true rfl⟩ ⟨Nat.le_of_ble_eq_true rfl, Nat.le_of_ble_eq_true rfl⟩ dX0_requireMiss_12 dX0_requireMiss_15 dX0_requireMiss_16 dX0_requireMiss_18 dX0_requireMiss_21
  · refine lv_iload_n hx hb dX0_requireMiss_4 rfl (lv_at hl 1 rfl) ?_
    refine lv_aload_n hx hb dX0_requireMiss_5 rfl (lv_at hl 0 rfl) ?_
    refine xg_k hC hK hP dX0_requireMiss_6 ?_
    refine lv_icmp_lt (tgt := 22) hx hb dX0_requireMiss_9 (by decide) (fun c_9 => ?_) (fun c_9 => ?_)
    · exact absurd hbad (isP_0 c_1 (lt_nle c_9))
    · exact th_IOB hC hst hnt hlocks hT (hT.2.2.2 (193, "there is no such miss") (by decide)) hl.1 ⟨Nat.le_of_ble_eq_true rfl, Nat.le_of_ble_eq_true rfl⟩ ⟨Nat.le_of_ble_eq_true rfl, Nat.le_of_ble_eq_true rfl⟩ dX0_requireMiss_12 dX0_requireMiss_15 dX0_requireMiss_16 dX0_requireMiss_18 dX0_requireMiss_21
set_option maxRecDepth 100000 in
theorem kt_X0_requireMiss_a {p : Program} {l : Launch} {e : Env} {R : Room} {s : State} {m : MethodId} {args : Array Value} {below : List Frame} {meth : Method} {c : Code} {D : va_G} {z : ClassId × ClassId} {a : Nat → Nat} {lv lk pu fa he : Nat → Int32} {n : Nat} {nv du ta : Nat → Int32} {w : Nat} {mp mi : Nat → Int32} {k : Nat} {nt fu re : Int32} {cc : ByteArray} {nL pc : Nat} {ls : Array Slot} {rest : List Value} {Qc : Array Value → State → Outcome → State → Prop} (hC : CallFix p m c cc nL s args lw_all RX0) (hst : l.stackTraces = false) (hnt : ∀ x ∈ c.exceptionTable.toList, False) (hlocks : meth.locks = false) (hK : kK D z s) (hP : va_P D vwCl (xW z a lv lk pu fa he n nv du ta w mp mi k nt fu re) s.heap) (hT : tH nA s s.heap) (hl : ls.size = nL) (hR : 7 ≤ R.frames ∧ 111 ≤ R.locals) (hZ : 1 ≤ R.cells ∧ 6 ≤ R.slots) (hr : (rest.map fun v => v.category).sum ≤ 8) {x : Int32}  (hbad : sp_isP k x = 0) (hdg : decode cc pc = .ok (.invokevirtual 145, 3)) : W p l e R s m args below meth c s.heap [] 0 0 (vx_MQ below Qc (tX "java/lang/IndexOutOfBoundsException") args s 1 6 nA) (F0 m pc ls (.int x :: .ref (a 0) :: rest)) := by
  refine vx_callv (vx_runV (As := [.int x]) (rest := rest) hC (ct_X0_requireMiss_a l hst x hbad) (cwV 1 hC.2.2.2.2 (gi_V mM_X0_145 mV_X0_requireMiss mS_X0_requireMiss mI_MissRegistry mC_X0_requireMiss) rfl rfl rfl (by decide +kernel) hR) ⟨fun a1 U g mk q8 => ⟨q8.1, ⟨q8.2.1.1, va_K.moved (u := U) (U := U.calling g mk a1) (Vm.Alike.refl U.vm) q8.2.1.2⟩, tH.same (u := U) (U := U.calling g mk a1) rfl q8.2.2⟩, va_recv hK hP (ci := 0) (q0 := 0) rfl rfl, fun U hU hW => ⟨rfl, ⟨by rw [hU]; exact hP, va_K.moved hW.alike hK⟩, by rw [hU]; exact hT.warm hW⟩⟩ rfl rfl hl rfl (lv_room hr) hdg (by simpa using hZ)) (va_S.rf (A := nA)) (fun _ _ h => h.elim) (fun _ h => h.elim) (fun _ _ h => h.elim) (fun E9 ce q9 u t H1 locs1 ht hvm hp hB hz hk hS hce hcv hcl => ?_) (fun u t H1 locs1 ht hvm hw hB hz hk hS => hw.elim)
  have hB : E9 = _ := hB
  subst hB
  exact vx_out (fun x hx => (hnt x hx).elim) hlocks hce hcv hcl (fun t9 ht9 hvm9 => ⟨(), trivial, rfl, by rw [ht9]; exact hz, fun q hq _ => by rw [ht9]; exact hk q hq (fun h => h)⟩) hS.2.2 (by omega) (by omega)
set_option maxHeartbeats 4000000 in
set_option maxRecDepth 100000 in
theorem ct_X0_requireInches_a (l : Launch) (hst : l.stackTraces = false) {D : va_G} {z : ClassId × ClassId} {a : Nat → Nat} {lv lk pu fa he : Nat → Int32} {n : Nat} {nv du ta : Nat → Int32} {w : Nat} {mp mi : Nat → Int32} {k : Nat} {nt fu re : Int32} (x : Int32) (hbad : x < 1 ∨ ¬ x ≤ 60) : vx_Met l yX0_requireInches (ws_ yX0_requireInches cX0_requireInches 2 none) ({ frames := 6, cells := 1, slots := 6, locals := 90 } : Room) (va_Pc [.ref (a 0), .int x] (fun U => xI D z a lv lk pu fa he n nv du ta w mp mi k nt fu re U ∧ tH nA U U.heap)) (va_Qv (fun _ : Unit => False) (fun _ _ => True) nA) (tX "java/lang/IllegalArgumentException") 1 6 nA := by
  refine vx_ofW (cc := cX0_requireInches) (maxL := 2) (ret := none) (by decide) rfl ?_
  intro p e s m args below meth c s₁ B hml hnt hv
  obtain ⟨rfl, ⟨hP, hK⟩, hT⟩ := hv
  have hx := B.exec
  have hb := B.bytes
  have hr := B.returns
  have hts := atoms_spec (ws := ws_ yX0_requireInches cX0_requireInches 2 none) B.pre
  have hts : ∀ w ∈ lw_all, w.before _ s = true := fun w h => hts w (List.mem_cons_of_mem _ h)
  have hown : s.vm.findClass RX0 = some m.cls := findClass_of_methodNamed B.named
  have hlocks := B.notSynchronized
  have hC : CallFix p m c cX0_requireInches 2 s _ lw_all RX0 := ⟨hx, hb, hml, hown, hts⟩
  have hl := lv_entry ([.ref (a 0), .int x]) (n := 2) (Nat.le_of_ble_eq_true rfl)
  rw [lg_entry_eq]
  generalize (lg_sl ([.ref (a 0), .int x]) ++ List.replicate (2 - (lg_sl ([.ref (a 0), .int x])).length) Slot.unset).toArray = ls at hl ⊢
  have hl : lv_has ls 2 [(0, .ref (a 0)), (1, .int x)] := hl
  refine lv_iload_n hx hb dX0_requireInches_0 rfl (lv_at hl 1 rfl) ?_
  refine lv_iconst (v := 1) hx hb dX0_requireInches_1 (by decide) ?_
  refine lv_icmp_lt (tgt := 11) hx hb dX0_requireInches_2 (by decide) (fun c_2 => ?_) (fun c_2 => ?_)
  · exact th_IAE hC hst hnt hlocks hT (hT.2.2.2 (195, "inches are not 1 to 60") (by decide)) hl.1 ⟨Nat.le_of_ble_eq_true rfl, Nat.le_of_ble_eq_true rfl⟩ ⟨Nat.le_of_ble_eq_true rfl, Nat.le_of_ble_eq_true rfl⟩ dX0_requireInches_11 dX0_requireInches_14 dX0_requireInches_15 dX0_requireInches_17 dX0_requireInches_20
  · refine lv_iload_n hx hb dX0_requireInches_5 rfl (lv_at hl 1 rfl) ?_
    refine lv_bipush (v := 60) hx hb dX0_requireInches_6 (by decide) ?_
    refine lv_icmp_le (tgt := 21) hx hb dX0_requireInches_8 (by decide) (fun c_8 => ?_) (fun c_8 => ?_)
    · exact absurd hbad (fun h => h.elim c_2 (fun q => q c_8))
    · exact th_IAE hC hst hnt hlocks hT (hT.2.2.2 (195, "inches are not 1 to 60") (by decide)) hl.1 ⟨Nat.le_of_ble_eq_true rfl, Nat.le_of_ble_eq_true rfl⟩ ⟨Nat.le_of_ble_eq_true rfl, Nat.le_of_ble_eq_true rfl⟩ dX0_requireInches_11 dX0_requireInches_14 dX0_requireInches_15 dX0_requireInches_17 dX0_requireInches_20
set_option maxRecDepth 100000 in
theorem kt_X0_requireInches_a {p : Program} {l : Launch} {e : Env} {R : Room} {s : State} {m : MethodId} {args : Array Value} {below : List Frame} {meth : Method} {c : Code} {D : va_G} {z : ClassId × ClassId} {a : Nat → Nat} {lv lk pu fa he : Nat → Int32} {n : Nat} {nv du ta : Nat → Int32} {w : Nat} {mp mi : Nat → Int32} {k : Nat} {nt fu re : Int32} {cc : ByteArray} {nL pc : Nat} {ls : Array Slot} {rest : List Value} {Qc : Array Value → State → Outcome → State → Prop} (hC : CallFix p m c cc nL s args lw_all RX0) (hst : l.stackTraces = false) (hnt : ∀ x ∈ c.exceptionTable.toList, False) (hlocks : meth.locks = false) (hK : kK D z s) (hP : va_P D vwCl (xW z a lv lk pu fa he n nv du ta w mp mi k nt fu re) s.heap) (hT : tH nA s s.heap) (hl : ls.size = nL) (hR : 7 ≤ R.frames ∧ 111 ≤ R.locals) (hZ : 1 ≤ R.cells ∧ 6 ≤ R.slots) (hr : (rest.map fun v => v.category).sum ≤ 8) {x : Int32}  (hbad : x < 1 ∨ ¬ x ≤ 60) (hdg : decode cc pc = .ok (.invokevirtual 87, 3)) : W p l e R s m args below meth c s.heap [] 0 0 (vx_MQ below Qc (tX "java/lang/IllegalArgumentException") args s 1 6 nA) (F0 m pc ls (.int x :: .ref (a 0) :: rest)) := by
  refine vx_callv (vx_runV (As := [.int x]) (rest := rest) hC (ct_X0_requireInches_a l hst x hbad) (cwV 1 hC.2.2.2.2 (gi_V mM_X0_87 mV_X0_requireInches mS_X0_requireInches mI_MissRegistry mC_X0_requireInches) rfl rfl rfl (by decide +kernel) hR) ⟨fun a1 U g mk q8 => ⟨q8.1, ⟨q8.2.1.1, va_K.moved (u := U) (U := U.calling g mk a1) (Vm.Alike.refl U.vm) q8.2.1.2⟩, tH.same (u := U) (U := U.calling g mk a1) rfl q8.2.2⟩, va_recv hK hP (ci := 0) (q0 := 0) rfl rfl, fun U hU hW => ⟨rfl, ⟨by rw [hU]; exact hP, va_K.moved hW.alike hK⟩, by rw [hU]; exact hT.warm hW⟩⟩ rfl rfl hl rfl (lv_room hr) hdg (by simpa using hZ)) (va_S.rf (A := nA)) (fun _ _ h => h.elim) (fun _ h => h.elim) (fun _ _ h => h.elim) (fun E9 ce q9 u t H1 locs1 ht hvm hp hB hz hk hS hce hcv hcl => ?_) (fun u t H1 locs1 ht hvm hw hB hz hk hS => hw.elim)
  have hB : E9 = _ := hB
  subst hB
  exact vx_out (fun x hx => (hnt x hx).elim) hlocks hce hcv hcl (fun t9 ht9 hvm9 => ⟨(), trivial, rfl, by rw [ht9]; exact hz, fun q hq _ => by rw [ht9]; exact hk q hq (fun h => h)⟩) hS.2.2 (by omega) (by omega)
set_option maxHeartbeats 4000000 in
set_option maxRecDepth 100000 in
theorem ct_X0_requireAlive_a (l : Launch) (hst : l.stackTraces = false) {D : va_G} {z : ClassId × ClassId} {a : Nat → Nat} {lv lk pu fa he : Nat → Int32} {n : Nat} {nv du ta : Nat → Int32} {w : Nat} {mp mi : Nat → Int32} {k : Nat} {nt fu re : Int32} (i : Nat) (hi : i < 10) (ha : lv i = 0) : vx_Met l yX0_requireAlive (ws_ yX0_requireAlive cX0_requireAlive 2 none) ({ frames := 6, cells := 1, slots := 6, locals := 90 } : Room) (va_Pc [.ref (a 0), .int (nI i)] (fun U => xI D z a lv lk pu fa he n nv du ta w mp mi k nt fu re U ∧ tH nA U U.heap)) (va_Qv (fun _ : Unit => False) (fun _ _ => True) nA) (tX "java/lang/IllegalStateException") 1 6 nA := by
  refine vx_ofW (cc := cX0_requireAlive) (maxL := 2) (ret := none) (by decide) rfl ?_
  intro p e s m args below meth c s₁ B hml hnt hv
  obtain ⟨rfl, ⟨hP, hK⟩, hT⟩ := hv
  have hx := B.exec
  have hb := B.bytes
  have hr := B.returns
  have hts := atoms_spec (ws := ws_ yX0_requireAlive cX0_requireAlive 2 none) B.pre
  have hts : ∀ w ∈ lw_all, w.before _ s = true := fun w h => hts w (List.mem_cons_of_mem _ h)
  have hown : s.vm.findClass RX0 = some m.cls := findClass_of_methodNamed B.named
  have hlocks := B.notSynchronized
  have hC : CallFix p m c cX0_requireAlive 2 s _ lw_all RX0 := ⟨hx, hb, hml, hown, hts⟩
  have hl := lv_entry ([.ref (a 0), .int (nI i)]) (n := 2) (Nat.le_of_ble_eq_true rfl)
  rw [lg_entry_eq]
  generalize (lg_sl ([.ref (a 0), .int (nI i)]) ++ List.replicate (2 - (lg_sl ([.ref (a 0), .int (nI i)])).length) Slot.unset).toArray = ls at hl ⊢
  have hl : lv_has ls 2 [(0, .ref (a 0)), (1, .int (nI i))] := hl
  refine lv_aload_n hx hb dX0_requireAlive_0 rfl (lv_at hl 0 rfl) ?_
  refine xg_lv hC hK hP dX0_requireAlive_1 ?_
  refine lv_iload_n hx hb dX0_requireAlive_4 rfl (lv_at hl 1 rfl) ?_
  refine xl_lv hC hK hP i rfl (by omega) dX0_requireAlive_5 ?_
  refine lv_if_ne (tgt := 19) hx hb dX0_requireAlive_6 (by decide) (fun c_6 => ?_) (fun c_6 => ?_)
  · exact absurd ha c_6
  · exact th_ISE hC hst hnt hlocks hT (hT.2.2.2 (189, "the person is gone") (by decide)) hl.1 ⟨Nat.le_of_ble_eq_true rfl, Nat.le_of_ble_eq_true rfl⟩ ⟨Nat.le_of_ble_eq_true rfl, Nat.le_of_ble_eq_true rfl⟩ dX0_requireAlive_9 dX0_requireAlive_12 dX0_requireAlive_13 dX0_requireAlive_15 dX0_requireAlive_18
set_option maxRecDepth 100000 in
theorem kt_X0_requireAlive_a {p : Program} {l : Launch} {e : Env} {R : Room} {s : State} {m : MethodId} {args : Array Value} {below : List Frame} {meth : Method} {c : Code} {D : va_G} {z : ClassId × ClassId} {a : Nat → Nat} {lv lk pu fa he : Nat → Int32} {n : Nat} {nv du ta : Nat → Int32} {w : Nat} {mp mi : Nat → Int32} {k : Nat} {nt fu re : Int32} {cc : ByteArray} {nL pc : Nat} {ls : Array Slot} {rest : List Value} {Qc : Array Value → State → Outcome → State → Prop} (hC : CallFix p m c cc nL s args lw_all RX0) (hst : l.stackTraces = false) (hnt : ∀ x ∈ c.exceptionTable.toList, False) (hlocks : meth.locks = false) (hK : kK D z s) (hP : va_P D vwCl (xW z a lv lk pu fa he n nv du ta w mp mi k nt fu re) s.heap) (hT : tH nA s s.heap) (hl : ls.size = nL) (hR : 7 ≤ R.frames ∧ 111 ≤ R.locals) (hZ : 1 ≤ R.cells ∧ 6 ≤ R.slots) (hr : (rest.map fun v => v.category).sum ≤ 8) {i : Nat} {x0 : Int32} (hx0 : x0 = nI i) (hi : i < 10) (ha : lv i = 0) (hdg : decode cc pc = .ok (.invokevirtual 70, 3)) : W p l e R s m args below meth c s.heap [] 0 0 (vx_MQ below Qc (tX "java/lang/IllegalStateException") args s 1 6 nA) (F0 m pc ls (.int x0 :: .ref (a 0) :: rest)) := by
  subst hx0
  refine vx_callv (vx_runV (As := [.int (nI i)]) (rest := rest) hC (ct_X0_requireAlive_a l hst i hi ha) (cwV 1 hC.2.2.2.2 (gi_V mM_X0_70 mV_X0_requireAlive mS_X0_requireAlive mI_MissRegistry mC_X0_requireAlive) rfl rfl rfl (by decide +kernel) hR) ⟨fun a1 U g mk q8 => ⟨q8.1, ⟨q8.2.1.1, va_K.moved (u := U) (U := U.calling g mk a1) (Vm.Alike.refl U.vm) q8.2.1.2⟩, tH.same (u := U) (U := U.calling g mk a1) rfl q8.2.2⟩, va_recv hK hP (ci := 0) (q0 := 0) rfl rfl, fun U hU hW => ⟨rfl, ⟨by rw [hU]; exact hP, va_K.moved hW.alike hK⟩, by rw [hU]; exact hT.warm hW⟩⟩ rfl rfl hl rfl (lv_room hr) hdg (by simpa using hZ)) (va_S.rf (A := nA)) (fun _ _ h => h.elim) (fun _ h => h.elim) (fun _ _ h => h.elim) (fun E9 ce q9 u t H1 locs1 ht hvm hp hB hz hk hS hce hcv hcl => ?_) (fun u t H1 locs1 ht hvm hw hB hz hk hS => hw.elim)
  have hB : E9 = _ := hB
  subst hB
  exact vx_out (fun x hx => (hnt x hx).elim) hlocks hce hcv hcl (fun t9 ht9 hvm9 => ⟨(), trivial, rfl, by rw [ht9]; exact hz, fun q hq _ => by rw [ht9]; exact hk q hq (fun h => h)⟩) hS.2.2 (by omega) (by omega)
set_option maxHeartbeats 4000000 in
set_option maxRecDepth 100000 in
theorem ct_X0_addPerson_a (l : Launch) (hst : l.stackTraces = false) {D : va_G} {z : ClassId × ClassId} {a : Nat → Nat} {lv lk pu fa he : Nat → Int32} {n : Nat} {nv du ta : Nat → Int32} {w : Nat} {mp mi : Nat → Int32} {k : Nat} {nt fu re : Int32} (x : Int32) (hbad : x < 0 ∨ ¬ x ≤ 99) : vx_Met l yX0_addPerson (ws_ yX0_addPerson cX0_addPerson 3 (some .int)) ({ frames := 6, cells := 1, slots := 6, locals := 90 } : Room) (va_Pc [.ref (a 0), .int x] (fun U => xI D z a lv lk pu fa he n nv du ta w mp mi k nt fu re U ∧ tH nA U U.heap)) (va_Qi (fun (_ : Int32) (_ : Unit) => False) (fun _ _ => True) nA) (tX "java/lang/IllegalArgumentException") 1 6 nA := by
  refine vx_ofW (cc := cX0_addPerson) (maxL := 3) (ret := (some .int)) (by decide) rfl ?_
  intro p e s m args below meth c s₁ B hml hnt hv
  obtain ⟨rfl, ⟨hP, hK⟩, hT⟩ := hv
  have hx := B.exec
  have hb := B.bytes
  have hr := B.returns
  have hts := atoms_spec (ws := ws_ yX0_addPerson cX0_addPerson 3 (some .int)) B.pre
  have hts : ∀ w ∈ lw_all, w.before _ s = true := fun w h => hts w (List.mem_cons_of_mem _ h)
  have hown : s.vm.findClass RX0 = some m.cls := findClass_of_methodNamed B.named
  have hlocks := B.notSynchronized
  have hC : CallFix p m c cX0_addPerson 3 s _ lw_all RX0 := ⟨hx, hb, hml, hown, hts⟩
  have hl := lv_entry ([.ref (a 0), .int x]) (n := 3) (Nat.le_of_ble_eq_true rfl)
  rw [lg_entry_eq]
  generalize (lg_sl ([.ref (a 0), .int x]) ++ List.replicate (3 - (lg_sl ([.ref (a 0), .int x])).length) Slot.unset).toArray = ls at hl ⊢
  have hl : lv_has ls 3 [(0, .ref (a 0)), (1, .int x)] := hl
  refine lv_iload_n hx hb dX0_addPerson_0 rfl (lv_at hl 1 rfl) ?_
  refine lv_if_lt (tgt := 10) hx hb dX0_addPerson_1 (by decide) (fun c_1 => ?_) (fun c_1 => ?_)
  · exact th_IAE hC hst hnt hlocks hT (hT.2.2.2 (43, "luck is not 0 to 99") (by decide)) hl.1 ⟨Nat.le_of_ble_eq_true rfl, Nat.le_of_ble_eq_true rfl⟩ ⟨Nat.le_of_ble_eq_true rfl, Nat.le_of_ble_eq_true rfl⟩ dX0_addPerson_10 dX0_addPerson_13 dX0_addPerson_14 dX0_addPerson_16 dX0_addPerson_19
  · refine lv_iload_n hx hb dX0_addPerson_4 rfl (lv_at hl 1 rfl) ?_
    refine lv_bipush (v := 99) hx hb dX0_addPerson_5 (by decide) ?_
    refine lv_icmp_le (tgt := 20) hx hb dX0_addPerson_7 (by decide) (fun c_7 => ?_) (fun c_7 => ?_)
    · exact absurd hbad (fun h => h.elim c_1 (fun q => q c_7))
    · exact th_IAE hC hst hnt hlocks hT (hT.2.2.2 (43, "luck is not 0 to 99") (by decide)) hl.1 ⟨Nat.le_of_ble_eq_true rfl, Nat.le_of_ble_eq_true rfl⟩ ⟨Nat.le_of_ble_eq_true rfl, Nat.le_of_ble_eq_true rfl⟩ dX0_addPerson_10 dX0_addPerson_13 dX0_addPerson_14 dX0_addPerson_16 dX0_addPerson_19
set_option maxHeartbeats 4000000 in
set_option maxRecDepth 100000 in
theorem ct_X0_addPerson_b (l : Launch) (hst : l.stackTraces = false) {D : va_G} {z : ClassId × ClassId} {a : Nat → Nat} {lv lk pu fa he : Nat → Int32} {n : Nat} {nv du ta : Nat → Int32} {w : Nat} {mp mi : Nat → Int32} {k : Nat} {nt fu re : Int32} (x : Int32) (h1 : ¬ x < 0) (h2 : x ≤ 99) (hn : n = 10) : vx_Met l yX0_addPerson (ws_ yX0_addPerson cX0_addPerson 3 (some .int)) ({ frames := 6, cells := 1, slots := 6, locals := 90 } : Room) (va_Pc [.ref (a 0), .int x] (fun U => xI D z a lv lk pu fa he n nv du ta w mp mi k nt fu re U ∧ tH nA U U.heap)) (va_Qi (fun (_ : Int32) (_ : Unit) => False) (fun _ _ => True) nA) (tX "java/lang/IllegalStateException") 1 6 nA := by
  refine vx_ofW (cc := cX0_addPerson) (maxL := 3) (ret := (some .int)) (by decide) rfl ?_
  intro p e s m args below meth c s₁ B hml hnt hv
  obtain ⟨rfl, ⟨hP, hK⟩, hT⟩ := hv
  have hx := B.exec
  have hb := B.bytes
  have hr := B.returns
  have hts := atoms_spec (ws := ws_ yX0_addPerson cX0_addPerson 3 (some .int)) B.pre
  have hts : ∀ w ∈ lw_all, w.before _ s = true := fun w h => hts w (List.mem_cons_of_mem _ h)
  have hown : s.vm.findClass RX0 = some m.cls := findClass_of_methodNamed B.named
  have hlocks := B.notSynchronized
  have hC : CallFix p m c cX0_addPerson 3 s _ lw_all RX0 := ⟨hx, hb, hml, hown, hts⟩
  have hl := lv_entry ([.ref (a 0), .int x]) (n := 3) (Nat.le_of_ble_eq_true rfl)
  rw [lg_entry_eq]
  generalize (lg_sl ([.ref (a 0), .int x]) ++ List.replicate (3 - (lg_sl ([.ref (a 0), .int x])).length) Slot.unset).toArray = ls at hl ⊢
  have hl : lv_has ls 3 [(0, .ref (a 0)), (1, .int x)] := hl
  refine lv_iload_n hx hb dX0_addPerson_0 rfl (lv_at hl 1 rfl) ?_
  refine lv_if_lt (tgt := 10) hx hb dX0_addPerson_1 (by decide) (fun c_1 => ?_) (fun c_1 => ?_)
  · exact absurd c_1 h1
  · refine lv_iload_n hx hb dX0_addPerson_4 rfl (lv_at hl 1 rfl) ?_
    refine lv_bipush (v := 99) hx hb dX0_addPerson_5 (by decide) ?_
    refine lv_icmp_le (tgt := 20) hx hb dX0_addPerson_7 (by decide) (fun c_7 => ?_) (fun c_7 => ?_)
    · refine lv_aload_n hx hb dX0_addPerson_20 rfl (lv_at hl 0 rfl) ?_
      refine xg_n hC hK hP dX0_addPerson_21 ?_
      refine lv_bipush (v := 10) hx hb dX0_addPerson_24 (by decide) ?_
      refine lv_icmp_lt (tgt := 39) hx hb dX0_addPerson_26 (by decide) (fun c_26 => ?_) (fun c_26 => ?_)
      · exact absurd c_26 (nI_nlt (b := 10) (by omega) (by omega))
      · have nc_26 : 10 ≤ n := nn_nlt (by omega) c_26
        exact th_ISE hC hst hnt hlocks hT (hT.2.2.2 (54, "there are 10 persons") (by decide)) hl.1 ⟨Nat.le_of_ble_eq_true rfl, Nat.le_of_ble_eq_true rfl⟩ ⟨Nat.le_of_ble_eq_true rfl, Nat.le_of_ble_eq_true rfl⟩ dX0_addPerson_29 dX0_addPerson_32 dX0_addPerson_33 dX0_addPerson_35 dX0_addPerson_38
    · exact absurd h2 c_7
set_option maxHeartbeats 4000000 in
set_option maxRecDepth 100000 in
theorem ct_X0_addWitness_a (l : Launch) (hst : l.stackTraces = false) {D : va_G} {z : ClassId × ClassId} {a : Nat → Nat} {lv lk pu fa he : Nat → Int32} {n : Nat} {nv du ta : Nat → Int32} {w : Nat} {mp mi : Nat → Int32} {k : Nat} {nt fu re : Int32} (x : Int32) (hbad : x < 0 ∨ ¬ x ≤ 9) : vx_Met l yX0_addWitness (ws_ yX0_addWitness cX0_addWitness 3 (some .int)) ({ frames := 6, cells := 1, slots := 6, locals := 90 } : Room) (va_Pc [.ref (a 0), .int x] (fun U => xI D z a lv lk pu fa he n nv du ta w mp mi k nt fu re U ∧ tH nA U U.heap)) (va_Qi (fun (_ : Int32) (_ : Unit) => False) (fun _ _ => True) nA) (tX "java/lang/IllegalArgumentException") 1 6 nA := by
  refine vx_ofW (cc := cX0_addWitness) (maxL := 3) (ret := (some .int)) (by decide) rfl ?_
  intro p e s m args below meth c s₁ B hml hnt hv
  obtain ⟨rfl, ⟨hP, hK⟩, hT⟩ := hv
  have hx := B.exec
  have hb := B.bytes
  have hr := B.returns
  have hts := atoms_spec (ws := ws_ yX0_addWitness cX0_addWitness 3 (some .int)) B.pre
  have hts : ∀ w ∈ lw_all, w.before _ s = true := fun w h => hts w (List.mem_cons_of_mem _ h)
  have hown : s.vm.findClass RX0 = some m.cls := findClass_of_methodNamed B.named
  have hlocks := B.notSynchronized
  have hC : CallFix p m c cX0_addWitness 3 s _ lw_all RX0 := ⟨hx, hb, hml, hown, hts⟩
  have hl := lv_entry ([.ref (a 0), .int x]) (n := 3) (Nat.le_of_ble_eq_true rfl)
  rw [lg_entry_eq]
  generalize (lg_sl ([.ref (a 0), .int x]) ++ List.replicate (3 - (lg_sl ([.ref (a 0), .int x])).length) Slot.unset).toArray = ls at hl ⊢
  have hl : lv_has ls 3 [(0, .ref (a 0)), (1, .int x)] := hl
  refine lv_iload_n hx hb dX0_addWitness_0 rfl (lv_at hl 1 rfl) ?_
  refine lv_if_lt (tgt := 10) hx hb dX0_addWitness_1 (by decide) (fun c_1 => ?_) (fun c_1 => ?_)
  · exact th_IAE hC hst hnt hlocks hT (hT.2.2.2 (57, "nerve is not 0 to 9") (by decide)) hl.1 ⟨Nat.le_of_ble_eq_true rfl, Nat.le_of_ble_eq_true rfl⟩ ⟨Nat.le_of_ble_eq_true rfl, Nat.le_of_ble_eq_true rfl⟩ dX0_addWitness_10 dX0_addWitness_13 dX0_addWitness_14 dX0_addWitness_16 dX0_addWitness_19
  · refine lv_iload_n hx hb dX0_addWitness_4 rfl (lv_at hl 1 rfl) ?_
    refine lv_bipush (v := 9) hx hb dX0_addWitness_5 (by decide) ?_
    refine lv_icmp_le (tgt := 20) hx hb dX0_addWitness_7 (by decide) (fun c_7 => ?_) (fun c_7 => ?_)
    · exact absurd hbad (fun h => h.elim c_1 (fun q => q c_7))
    · exact th_IAE hC hst hnt hlocks hT (hT.2.2.2 (57, "nerve is not 0 to 9") (by decide)) hl.1 ⟨Nat.le_of_ble_eq_true rfl, Nat.le_of_ble_eq_true rfl⟩ ⟨Nat.le_of_ble_eq_true rfl, Nat.le_of_ble_eq_true rfl⟩ dX0_addWitness_10 dX0_addWitness_13 dX0_addWitness_14 dX0_addWitness_16 dX0_addWitness_19
set_option maxHeartbeats 4000000 in
set_option maxRecDepth 100000 in
theorem ct_X0_addWitness_b (l : Launch) (hst : l.stackTraces = false) {D : va_G} {z : ClassId × ClassId} {a : Nat → Nat} {lv lk pu fa he : Nat → Int32} {n : Nat} {nv du ta : Nat → Int32} {w : Nat} {mp mi : Nat → Int32} {k : Nat} {nt fu re : Int32} (x : Int32) (h1 : ¬ x < 0) (h2 : x ≤ 9) (hw : w = 6) : vx_Met l yX0_addWitness (ws_ yX0_addWitness cX0_addWitness 3 (some .int)) ({ frames := 6, cells := 1, slots := 6, locals := 90 } : Room) (va_Pc [.ref (a 0), .int x] (fun U => xI D z a lv lk pu fa he n nv du ta w mp mi k nt fu re U ∧ tH nA U U.heap)) (va_Qi (fun (_ : Int32) (_ : Unit) => False) (fun _ _ => True) nA) (tX "java/lang/IllegalStateException") 1 6 nA := by
  refine vx_ofW (cc := cX0_addWitness) (maxL := 3) (ret := (some .int)) (by decide) rfl ?_
  intro p e s m args below meth c s₁ B hml hnt hv
  obtain ⟨rfl, ⟨hP, hK⟩, hT⟩ := hv
  have hx := B.exec
  have hb := B.bytes
  have hr := B.returns
  have hts := atoms_spec (ws := ws_ yX0_addWitness cX0_addWitness 3 (some .int)) B.pre
  have hts : ∀ w ∈ lw_all, w.before _ s = true := fun w h => hts w (List.mem_cons_of_mem _ h)
  have hown : s.vm.findClass RX0 = some m.cls := findClass_of_methodNamed B.named
  have hlocks := B.notSynchronized
  have hC : CallFix p m c cX0_addWitness 3 s _ lw_all RX0 := ⟨hx, hb, hml, hown, hts⟩
  have hl := lv_entry ([.ref (a 0), .int x]) (n := 3) (Nat.le_of_ble_eq_true rfl)
  rw [lg_entry_eq]
  generalize (lg_sl ([.ref (a 0), .int x]) ++ List.replicate (3 - (lg_sl ([.ref (a 0), .int x])).length) Slot.unset).toArray = ls at hl ⊢
  have hl : lv_has ls 3 [(0, .ref (a 0)), (1, .int x)] := hl
  refine lv_iload_n hx hb dX0_addWitness_0 rfl (lv_at hl 1 rfl) ?_
  refine lv_if_lt (tgt := 10) hx hb dX0_addWitness_1 (by decide) (fun c_1 => ?_) (fun c_1 => ?_)
  · exact absurd c_1 h1
  · refine lv_iload_n hx hb dX0_addWitness_4 rfl (lv_at hl 1 rfl) ?_
    refine lv_bipush (v := 9) hx hb dX0_addWitness_5 (by decide) ?_
    refine lv_icmp_le (tgt := 20) hx hb dX0_addWitness_7 (by decide) (fun c_7 => ?_) (fun c_7 => ?_)
    · refine lv_aload_n hx hb dX0_addWitness_20 rfl (lv_at hl 0 rfl) ?_
      refine xg_w hC hK hP dX0_addWitness_21 ?_
      refine lv_bipush (v := 6) hx hb dX0_addWitness_24 (by decide) ?_
      refine lv_icmp_lt (tgt := 39) hx hb dX0_addWitness_26 (by decide) (fun c_26 => ?_) (fun c_26 => ?_)
      · exact absurd c_26 (nI_nlt (b := 6) (by omega) (by omega))
      · have nc_26 : 6 ≤ w := nn_nlt (by omega) c_26
        exact th_ISE hC hst hnt hlocks hT (hT.2.2.2 (62, "there are 6 witnesses") (by decide)) hl.1 ⟨Nat.le_of_ble_eq_true rfl, Nat.le_of_ble_eq_true rfl⟩ ⟨Nat.le_of_ble_eq_true rfl, Nat.le_of_ble_eq_true rfl⟩ dX0_addWitness_29 dX0_addWitness_32 dX0_addWitness_33 dX0_addWitness_35 dX0_addWitness_38
    · exact absurd h2 c_7
set_option maxHeartbeats 4000000 in
set_option maxRecDepth 100000 in
theorem ct_X0_setHeir_a (l : Launch) (hst : l.stackTraces = false) {D : va_G} {z : ClassId × ClassId} {a : Nat → Nat} {lv lk pu fa he : Nat → Int32} {n : Nat} {nv du ta : Nat → Int32} {w : Nat} {mp mi : Nat → Int32} {k : Nat} {nt fu re : Int32} (x y : Int32) (hbad : sp_isP n x = 0) : vx_Met l yX0_setHeir (ws_ yX0_setHeir cX0_setHeir 4 (some .int)) ({ frames := 7, cells := 1, slots := 6, locals := 111 } : Room) (va_Pc [.ref (a 0), .int x, .int y] (fun U => xI D z a lv lk pu fa he n nv du ta w mp mi k nt fu re U ∧ tH nA U U.heap)) (va_Qi (fun (_ : Int32) (_ : Unit) => False) (fun _ _ => True) nA) (tX "java/lang/IndexOutOfBoundsException") 1 6 nA := by
  refine vx_ofW (cc := cX0_setHeir) (maxL := 4) (ret := (some .int)) (by decide) rfl ?_
  intro p e s m args below meth c s₁ B hml hnt hv
  obtain ⟨rfl, ⟨hP, hK⟩, hT⟩ := hv
  have hx := B.exec
  have hb := B.bytes
  have hr := B.returns
  have hts := atoms_spec (ws := ws_ yX0_setHeir cX0_setHeir 4 (some .int)) B.pre
  have hts : ∀ w ∈ lw_all, w.before _ s = true := fun w h => hts w (List.mem_cons_of_mem _ h)
  have hown : s.vm.findClass RX0 = some m.cls := findClass_of_methodNamed B.named
  have hlocks := B.notSynchronized
  have hC : CallFix p m c cX0_setHeir 4 s _ lw_all RX0 := ⟨hx, hb, hml, hown, hts⟩
  have hl := lv_entry ([.ref (a 0), .int x, .int y]) (n := 4) (Nat.le_of_ble_eq_true rfl)
  rw [lg_entry_eq]
  generalize (lg_sl ([.ref (a 0), .int x, .int y]) ++ List.replicate (4 - (lg_sl ([.ref (a 0), .int x, .int y])).length) Slot.unset).toArray = ls at hl ⊢
  have hl : lv_has ls 4 [(0, .ref (a 0)), (1, .int x), (2, .int y)] := hl
  refine lv_aload_n hx hb dX0_setHeir_0 rfl (lv_at hl 0 rfl) ?_
  refine lv_iload_n hx hb dX0_setHeir_1 rfl (lv_at hl 1 rfl) ?_
  exact kt_X0_requirePerson_a hC hst hnt hlocks hK hP hT hl.1 ⟨Nat.le_of_ble_eq_true rfl, Nat.le_of_ble_eq_true rfl⟩ ⟨Nat.le_of_ble_eq_true rfl, Nat.le_of_ble_eq_true rfl⟩ (Nat.le_of_ble_eq_true rfl) hbad dX0_setHeir_2
set_option maxHeartbeats 4000000 in
set_option maxRecDepth 100000 in
theorem ct_X0_setHeir_b (l : Launch) (hst : l.stackTraces = false) {D : va_G} {z : ClassId × ClassId} {a : Nat → Nat} {lv lk pu fa he : Nat → Int32} {n : Nat} {nv du ta : Nat → Int32} {w : Nat} {mp mi : Nat → Int32} {k : Nat} {nt fu re : Int32} (i : Nat) (hi : i < n) (hn : n ≤ 10) (y : Int32) (hy : ¬ y = -1) (hbad : sp_isP n y = 0) : vx_Met l yX0_setHeir (ws_ yX0_setHeir cX0_setHeir 4 (some .int)) ({ frames := 7, cells := 1, slots := 6, locals := 111 } : Room) (va_Pc [.ref (a 0), .int (nI i), .int y] (fun U => xI D z a lv lk pu fa he n nv du ta w mp mi k nt fu re U ∧ tH nA U U.heap)) (va_Qi (fun (_ : Int32) (_ : Unit) => False) (fun _ _ => True) nA) (tX "java/lang/IndexOutOfBoundsException") 1 6 nA := by
  refine vx_ofW (cc := cX0_setHeir) (maxL := 4) (ret := (some .int)) (by decide) rfl ?_
  intro p e s m args below meth c s₁ B hml hnt hv
  obtain ⟨rfl, ⟨hP, hK⟩, hT⟩ := hv
  have hx := B.exec
  have hb := B.bytes
  have hr := B.returns
  have hts := atoms_spec (ws := ws_ yX0_setHeir cX0_setHeir 4 (some .int)) B.pre
  have hts : ∀ w ∈ lw_all, w.before _ s = true := fun w h => hts w (List.mem_cons_of_mem _ h)
  have hown : s.vm.findClass RX0 = some m.cls := findClass_of_methodNamed B.named
  have hlocks := B.notSynchronized
  have hC : CallFix p m c cX0_setHeir 4 s _ lw_all RX0 := ⟨hx, hb, hml, hown, hts⟩
  have hl := lv_entry ([.ref (a 0), .int (nI i), .int y]) (n := 4) (Nat.le_of_ble_eq_true rfl)
  rw [lg_entry_eq]
  generalize (lg_sl ([.ref (a 0), .int (nI i), .int y]) ++ List.replicate (4 - (lg_sl ([.ref (a 0), .int (nI i), .int y])).length) Slot.unset).toArray = ls at hl ⊢
  have hl : lv_has ls 4 [(0, .ref (a 0)), (1, .int (nI i)), (2, .int y)] := hl
  refine lv_aload_n hx hb dX0_setHeir_0 rfl (lv_at hl 0 rfl) ?_
  refine lv_iload_n hx hb dX0_setHeir_1 rfl (lv_at hl 1 rfl) ?_
  refine k_X0_requirePerson hC hK hP hl.1 ⟨Nat.le_of_ble_eq_true rfl, Nat.le_of_ble_eq_true rfl⟩ ⟨Nat.zero_le _, Nat.zero_le _⟩ (Nat.le_of_ble_eq_true rfl) rfl (by first | assumption | omega) (by first | assumption | omega) dX0_setHeir_2 ?_
  refine lv_iload_n hx hb dX0_setHeir_5 rfl (lv_at hl 2 rfl) ?_
  refine lv_iconst (v := (-1)) hx hb dX0_setHeir_6 (by decide) ?_
  refine lv_icmp_eq (tgt := 15) hx hb dX0_setHeir_7 (by decide) (fun c_7 => ?_) (fun c_7 => ?_)
  · exact absurd c_7 hy
  · refine lv_aload_n hx hb dX0_setHeir_10 rfl (lv_at hl 0 rfl) ?_
    refine lv_iload_n hx hb dX0_setHeir_11 rfl (lv_at hl 2 rfl) ?_
    exact kt_X0_requirePerson_a hC hst hnt hlocks hK hP hT hl.1 ⟨Nat.le_of_ble_eq_true rfl, Nat.le_of_ble_eq_true rfl⟩ ⟨Nat.le_of_ble_eq_true rfl, Nat.le_of_ble_eq_true rfl⟩ (Nat.le_of_ble_eq_true rfl) hbad dX0_setHeir_12
set_option maxHeartbeats 4000000 in
set_option maxRecDepth 100000 in
theorem ct_X0_setHeir_c (l : Launch) (hst : l.stackTraces = false) {D : va_G} {z : ClassId × ClassId} {a : Nat → Nat} {lv lk pu fa he : Nat → Int32} {n : Nat} {nv du ta : Nat → Int32} {w : Nat} {mp mi : Nat → Int32} {k : Nat} {nt fu re : Int32} (i : Nat) (hi : i < n) (hn : n ≤ 10) : vx_Met l yX0_setHeir (ws_ yX0_setHeir cX0_setHeir 4 (some .int)) ({ frames := 6, cells := 1, slots := 6, locals := 90 } : Room) (va_Pc [.ref (a 0), .int (nI i), .int (nI i)] (fun U => xI D z a lv lk pu fa he n nv du ta w mp mi k nt fu re U ∧ tH nA U U.heap)) (va_Qi (fun (_ : Int32) (_ : Unit) => False) (fun _ _ => True) nA) (tX "java/lang/IllegalArgumentException") 1 6 nA := by
  refine vx_ofW (cc := cX0_setHeir) (maxL := 4) (ret := (some .int)) (by decide) rfl ?_
  intro p e s m args below meth c s₁ B hml hnt hv
  obtain ⟨rfl, ⟨hP, hK⟩, hT⟩ := hv
  have hx := B.exec
  have hb := B.bytes
  have hr := B.returns
  have hts := atoms_spec (ws := ws_ yX0_setHeir cX0_setHeir 4 (some .int)) B.pre
  have hts : ∀ w ∈ lw_all, w.before _ s = true := fun w h => hts w (List.mem_cons_of_mem _ h)
  have hown : s.vm.findClass RX0 = some m.cls := findClass_of_methodNamed B.named
  have hlocks := B.notSynchronized
  have hC : CallFix p m c cX0_setHeir 4 s _ lw_all RX0 := ⟨hx, hb, hml, hown, hts⟩
  have hl := lv_entry ([.ref (a 0), .int (nI i), .int (nI i)]) (n := 4) (Nat.le_of_ble_eq_true rfl)
  rw [lg_entry_eq]
  generalize (lg_sl ([.ref (a 0), .int (nI i), .int (nI i)]) ++ List.replicate (4 - (lg_sl ([.ref (a 0), .int (nI i), .int (nI i)])).length) Slot.unset).toArray = ls at hl ⊢
  have hl : lv_has ls 4 [(0, .ref (a 0)), (1, .int (nI i)), (2, .int (nI i))] := hl
  refine lv_aload_n hx hb dX0_setHeir_0 rfl (lv_at hl 0 rfl) ?_
  refine lv_iload_n hx hb dX0_setHeir_1 rfl (lv_at hl 1 rfl) ?_
  refine k_X0_requirePerson hC hK hP hl.1 ⟨Nat.le_of_ble_eq_true rfl, Nat.le_of_ble_eq_true rfl⟩ ⟨Nat.zero_le _, Nat.zero_le _⟩ (Nat.le_of_ble_eq_true rfl) rfl (by first | assumption | omega) (by first | assumption | omega) dX0_setHeir_2 ?_
  refine lv_iload_n hx hb dX0_setHeir_5 rfl (lv_at hl 2 rfl) ?_
  refine lv_iconst (v := (-1)) hx hb dX0_setHeir_6 (by decide) ?_
  refine lv_icmp_eq (tgt := 15) hx hb dX0_setHeir_7 (by decide) (fun c_7 => ?_) (fun c_7 => ?_)
  · exact absurd c_7 (ni_m1 (by omega))
  · refine lv_aload_n hx hb dX0_setHeir_10 rfl (lv_at hl 0 rfl) ?_
    refine lv_iload_n hx hb dX0_setHeir_11 rfl (lv_at hl 2 rfl) ?_
    refine k_X0_requirePerson hC hK hP hl.1 ⟨Nat.le_of_ble_eq_true rfl, Nat.le_of_ble_eq_true rfl⟩ ⟨Nat.zero_le _, Nat.zero_le _⟩ (Nat.le_of_ble_eq_true rfl) rfl (by first | assumption | omega) (by first | assumption | omega) dX0_setHeir_12 ?_
    refine lv_iload_n hx hb dX0_setHeir_15 rfl (lv_at hl 1 rfl) ?_
    refine lv_iload_n hx hb dX0_setHeir_16 rfl (lv_at hl 2 rfl) ?_
    refine lv_icmp_ne (tgt := 30) hx hb dX0_setHeir_17 (by decide) (fun c_17 => ?_) (fun c_17 => ?_)
    · exact absurd rfl c_17
    · exact th_IAE hC hst hnt hlocks hT (hT.2.2.2 (68, "a person is no heir of itself") (by decide)) hl.1 ⟨Nat.le_of_ble_eq_true rfl, Nat.le_of_ble_eq_true rfl⟩ ⟨Nat.le_of_ble_eq_true rfl, Nat.le_of_ble_eq_true rfl⟩ dX0_setHeir_20 dX0_setHeir_23 dX0_setHeir_24 dX0_setHeir_26 dX0_setHeir_29
set_option maxHeartbeats 4000000 in
set_option maxRecDepth 100000 in
theorem ct_X0_setHeir_d (l : Launch) (hst : l.stackTraces = false) {D : va_G} {z : ClassId × ClassId} {a : Nat → Nat} {lv lk pu fa he : Nat → Int32} {n : Nat} {nv du ta : Nat → Int32} {w : Nat} {mp mi : Nat → Int32} {k : Nat} {nt fu re : Int32} (i : Nat) (hi : i < n) (hn : n ≤ 10) (ha : lv i = 0) : vx_Met l yX0_setHeir (ws_ yX0_setHeir cX0_setHeir 4 (some .int)) ({ frames := 7, cells := 1, slots := 6, locals := 111 } : Room) (va_Pc [.ref (a 0), .int (nI i), .int (-1)] (fun U => xI D z a lv lk pu fa he n nv du ta w mp mi k nt fu re U ∧ tH nA U U.heap)) (va_Qi (fun (_ : Int32) (_ : Unit) => False) (fun _ _ => True) nA) (tX "java/lang/IllegalStateException") 1 6 nA := by
  refine vx_ofW (cc := cX0_setHeir) (maxL := 4) (ret := (some .int)) (by decide) rfl ?_
  intro p e s m args below meth c s₁ B hml hnt hv
  obtain ⟨rfl, ⟨hP, hK⟩, hT⟩ := hv
  have hx := B.exec
  have hb := B.bytes
  have hr := B.returns
  have hts := atoms_spec (ws := ws_ yX0_setHeir cX0_setHeir 4 (some .int)) B.pre
  have hts : ∀ w ∈ lw_all, w.before _ s = true := fun w h => hts w (List.mem_cons_of_mem _ h)
  have hown : s.vm.findClass RX0 = some m.cls := findClass_of_methodNamed B.named
  have hlocks := B.notSynchronized
  have hC : CallFix p m c cX0_setHeir 4 s _ lw_all RX0 := ⟨hx, hb, hml, hown, hts⟩
  have hl := lv_entry ([.ref (a 0), .int (nI i), .int (-1)]) (n := 4) (Nat.le_of_ble_eq_true rfl)
  rw [lg_entry_eq]
  generalize (lg_sl ([.ref (a 0), .int (nI i), .int (-1)]) ++ List.replicate (4 - (lg_sl ([.ref (a 0), .int (nI i), .int (-1)])).length) Slot.unset).toArray = ls at hl ⊢
  have hl : lv_has ls 4 [(0, .ref (a 0)), (1, .int (nI i)), (2, .int (-1))] := hl
  refine lv_aload_n hx hb dX0_setHeir_0 rfl (lv_at hl 0 rfl) ?_
  refine lv_iload_n hx hb dX0_setHeir_1 rfl (lv_at hl 1 rfl) ?_
  refine k_X0_requirePerson hC hK hP hl.1 ⟨Nat.le_of_ble_eq_true rfl, Nat.le_of_ble_eq_true rfl⟩ ⟨Nat.zero_le _, Nat.zero_le _⟩ (Nat.le_of_ble_eq_true rfl) rfl (by first | assumption | omega) (by first | assumption | omega) dX0_setHeir_2 ?_
  refine lv_iload_n hx hb dX0_setHeir_5 rfl (lv_at hl 2 rfl) ?_
  refine lv_iconst (v := (-1)) hx hb dX0_setHeir_6 (by decide) ?_
  refine lv_icmp_eq (tgt := 15) hx hb dX0_setHeir_7 (by decide) (fun c_7 => ?_) (fun c_7 => ?_)
  · refine lv_iload_n hx hb dX0_setHeir_15 rfl (lv_at hl 1 rfl) ?_
    refine lv_iload_n hx hb dX0_setHeir_16 rfl (lv_at hl 2 rfl) ?_
    refine lv_icmp_ne (tgt := 30) hx hb dX0_setHeir_17 (by decide) (fun c_17 => ?_) (fun c_17 => ?_)
    · refine lv_aload_n hx hb dX0_setHeir_30 rfl (lv_at hl 0 rfl) ?_
      refine lv_iload_n hx hb dX0_setHeir_31 rfl (lv_at hl 1 rfl) ?_
      exact kt_X0_requireAlive_a hC hst hnt hlocks hK hP hT hl.1 ⟨Nat.le_of_ble_eq_true rfl, Nat.le_of_ble_eq_true rfl⟩ ⟨Nat.le_of_ble_eq_true rfl, Nat.le_of_ble_eq_true rfl⟩ (Nat.le_of_ble_eq_true rfl) rfl (by omega) ha dX0_setHeir_32
    · exact absurd c_17 (ni_m1 (by omega))
  · exact absurd rfl c_7
set_option maxHeartbeats 4000000 in
set_option maxRecDepth 100000 in
theorem ct_X0_setHeir_e (l : Launch) (hst : l.stackTraces = false) {D : va_G} {z : ClassId × ClassId} {a : Nat → Nat} {lv lk pu fa he : Nat → Int32} {n : Nat} {nv du ta : Nat → Int32} {w : Nat} {mp mi : Nat → Int32} {k : Nat} {nt fu re : Int32} (i : Nat) (j : Nat) (hi : i < n) (hj : j < n) (hn : n ≤ 10) (hij : ¬ i = j) (ha : lv i = 0) : vx_Met l yX0_setHeir (ws_ yX0_setHeir cX0_setHeir 4 (some .int)) ({ frames := 7, cells := 1, slots := 6, locals := 111 } : Room) (va_Pc [.ref (a 0), .int (nI i), .int (nI j)] (fun U => xI D z a lv lk pu fa he n nv du ta w mp mi k nt fu re U ∧ tH nA U U.heap)) (va_Qi (fun (_ : Int32) (_ : Unit) => False) (fun _ _ => True) nA) (tX "java/lang/IllegalStateException") 1 6 nA := by
  refine vx_ofW (cc := cX0_setHeir) (maxL := 4) (ret := (some .int)) (by decide) rfl ?_
  intro p e s m args below meth c s₁ B hml hnt hv
  obtain ⟨rfl, ⟨hP, hK⟩, hT⟩ := hv
  have hx := B.exec
  have hb := B.bytes
  have hr := B.returns
  have hts := atoms_spec (ws := ws_ yX0_setHeir cX0_setHeir 4 (some .int)) B.pre
  have hts : ∀ w ∈ lw_all, w.before _ s = true := fun w h => hts w (List.mem_cons_of_mem _ h)
  have hown : s.vm.findClass RX0 = some m.cls := findClass_of_methodNamed B.named
  have hlocks := B.notSynchronized
  have hC : CallFix p m c cX0_setHeir 4 s _ lw_all RX0 := ⟨hx, hb, hml, hown, hts⟩
  have hl := lv_entry ([.ref (a 0), .int (nI i), .int (nI j)]) (n := 4) (Nat.le_of_ble_eq_true rfl)
  rw [lg_entry_eq]
  generalize (lg_sl ([.ref (a 0), .int (nI i), .int (nI j)]) ++ List.replicate (4 - (lg_sl ([.ref (a 0), .int (nI i), .int (nI j)])).length) Slot.unset).toArray = ls at hl ⊢
  have hl : lv_has ls 4 [(0, .ref (a 0)), (1, .int (nI i)), (2, .int (nI j))] := hl
  refine lv_aload_n hx hb dX0_setHeir_0 rfl (lv_at hl 0 rfl) ?_
  refine lv_iload_n hx hb dX0_setHeir_1 rfl (lv_at hl 1 rfl) ?_
  refine k_X0_requirePerson hC hK hP hl.1 ⟨Nat.le_of_ble_eq_true rfl, Nat.le_of_ble_eq_true rfl⟩ ⟨Nat.zero_le _, Nat.zero_le _⟩ (Nat.le_of_ble_eq_true rfl) rfl (by first | assumption | omega) (by first | assumption | omega) dX0_setHeir_2 ?_
  refine lv_iload_n hx hb dX0_setHeir_5 rfl (lv_at hl 2 rfl) ?_
  refine lv_iconst (v := (-1)) hx hb dX0_setHeir_6 (by decide) ?_
  refine lv_icmp_eq (tgt := 15) hx hb dX0_setHeir_7 (by decide) (fun c_7 => ?_) (fun c_7 => ?_)
  · exact absurd c_7 (ni_m1 (by omega))
  · refine lv_aload_n hx hb dX0_setHeir_10 rfl (lv_at hl 0 rfl) ?_
    refine lv_iload_n hx hb dX0_setHeir_11 rfl (lv_at hl 2 rfl) ?_
    refine k_X0_requirePerson hC hK hP hl.1 ⟨Nat.le_of_ble_eq_true rfl, Nat.le_of_ble_eq_true rfl⟩ ⟨Nat.zero_le _, Nat.zero_le _⟩ (Nat.le_of_ble_eq_true rfl) rfl (by first | assumption | omega) (by first | assumption | omega) dX0_setHeir_12 ?_
    refine lv_iload_n hx hb dX0_setHeir_15 rfl (lv_at hl 1 rfl) ?_
    refine lv_iload_n hx hb dX0_setHeir_16 rfl (lv_at hl 2 rfl) ?_
    refine lv_icmp_ne (tgt := 30) hx hb dX0_setHeir_17 (by decide) (fun c_17 => ?_) (fun c_17 => ?_)
    · refine lv_aload_n hx hb dX0_setHeir_30 rfl (lv_at hl 0 rfl) ?_
      refine lv_iload_n hx hb dX0_setHeir_31 rfl (lv_at hl 1 rfl) ?_
      exact kt_X0_requireAlive_a hC hst hnt hlocks hK hP hT hl.1 ⟨Nat.le_of_ble_eq_true rfl, Nat.le_of_ble_eq_true rfl⟩ ⟨Nat.le_of_ble_eq_true rfl, Nat.le_of_ble_eq_true rfl⟩ (Nat.le_of_ble_eq_true rfl) rfl (by omega) ha dX0_setHeir_32
    · exact absurd c_17 (fun q => hij (nn_eq (by omega) q))
set_option maxHeartbeats 4000000 in
set_option maxRecDepth 100000 in
theorem ct_X0_buyFate_a (l : Launch) (hst : l.stackTraces = false) {D : va_G} {z : ClassId × ClassId} {a : Nat → Nat} {lv lk pu fa he : Nat → Int32} {n : Nat} {nv du ta : Nat → Int32} {w : Nat} {mp mi : Nat → Int32} {k : Nat} {nt fu re : Int32} (x : Int32) (hbad : sp_isP n x = 0) : vx_Met l yX0_buyFate (ws_ yX0_buyFate cX0_buyFate 3 (some .int)) ({ frames := 7, cells := 1, slots := 6, locals := 111 } : Room) (va_Pc [.ref (a 0), .int x] (fun U => xI D z a lv lk pu fa he n nv du ta w mp mi k nt fu re U ∧ tH nA U U.heap)) (va_Qi (fun (_ : Int32) (_ : Unit) => False) (fun _ _ => True) nA) (tX "java/lang/IndexOutOfBoundsException") 1 6 nA := by
  refine vx_ofW (cc := cX0_buyFate) (maxL := 3) (ret := (some .int)) (by decide) rfl ?_
  intro p e s m args below meth c s₁ B hml hnt hv
  obtain ⟨rfl, ⟨hP, hK⟩, hT⟩ := hv
  have hx := B.exec
  have hb := B.bytes
  have hr := B.returns
  have hts := atoms_spec (ws := ws_ yX0_buyFate cX0_buyFate 3 (some .int)) B.pre
  have hts : ∀ w ∈ lw_all, w.before _ s = true := fun w h => hts w (List.mem_cons_of_mem _ h)
  have hown : s.vm.findClass RX0 = some m.cls := findClass_of_methodNamed B.named
  have hlocks := B.notSynchronized
  have hC : CallFix p m c cX0_buyFate 3 s _ lw_all RX0 := ⟨hx, hb, hml, hown, hts⟩
  have hl := lv_entry ([.ref (a 0), .int x]) (n := 3) (Nat.le_of_ble_eq_true rfl)
  rw [lg_entry_eq]
  generalize (lg_sl ([.ref (a 0), .int x]) ++ List.replicate (3 - (lg_sl ([.ref (a 0), .int x])).length) Slot.unset).toArray = ls at hl ⊢
  have hl : lv_has ls 3 [(0, .ref (a 0)), (1, .int x)] := hl
  refine lv_aload_n hx hb dX0_buyFate_0 rfl (lv_at hl 0 rfl) ?_
  refine lv_iload_n hx hb dX0_buyFate_1 rfl (lv_at hl 1 rfl) ?_
  exact kt_X0_requirePerson_a hC hst hnt hlocks hK hP hT hl.1 ⟨Nat.le_of_ble_eq_true rfl, Nat.le_of_ble_eq_true rfl⟩ ⟨Nat.le_of_ble_eq_true rfl, Nat.le_of_ble_eq_true rfl⟩ (Nat.le_of_ble_eq_true rfl) hbad dX0_buyFate_2
set_option maxHeartbeats 4000000 in
set_option maxRecDepth 100000 in
theorem ct_X0_buyFate_b (l : Launch) (hst : l.stackTraces = false) {D : va_G} {z : ClassId × ClassId} {a : Nat → Nat} {lv lk pu fa he : Nat → Int32} {n : Nat} {nv du ta : Nat → Int32} {w : Nat} {mp mi : Nat → Int32} {k : Nat} {nt fu re : Int32} (i : Nat) (hi : i < n) (hn : n ≤ 10) (ha : lv i = 0) : vx_Met l yX0_buyFate (ws_ yX0_buyFate cX0_buyFate 3 (some .int)) ({ frames := 7, cells := 1, slots := 6, locals := 111 } : Room) (va_Pc [.ref (a 0), .int (nI i)] (fun U => xI D z a lv lk pu fa he n nv du ta w mp mi k nt fu re U ∧ tH nA U U.heap)) (va_Qi (fun (_ : Int32) (_ : Unit) => False) (fun _ _ => True) nA) (tX "java/lang/IllegalStateException") 1 6 nA := by
  refine vx_ofW (cc := cX0_buyFate) (maxL := 3) (ret := (some .int)) (by decide) rfl ?_
  intro p e s m args below meth c s₁ B hml hnt hv
  obtain ⟨rfl, ⟨hP, hK⟩, hT⟩ := hv
  have hx := B.exec
  have hb := B.bytes
  have hr := B.returns
  have hts := atoms_spec (ws := ws_ yX0_buyFate cX0_buyFate 3 (some .int)) B.pre
  have hts : ∀ w ∈ lw_all, w.before _ s = true := fun w h => hts w (List.mem_cons_of_mem _ h)
  have hown : s.vm.findClass RX0 = some m.cls := findClass_of_methodNamed B.named
  have hlocks := B.notSynchronized
  have hC : CallFix p m c cX0_buyFate 3 s _ lw_all RX0 := ⟨hx, hb, hml, hown, hts⟩
  have hl := lv_entry ([.ref (a 0), .int (nI i)]) (n := 3) (Nat.le_of_ble_eq_true rfl)
  rw [lg_entry_eq]
  generalize (lg_sl ([.ref (a 0), .int (nI i)]) ++ List.replicate (3 - (lg_sl ([.ref (a 0), .int (nI i)])).length) Slot.unset).toArray = ls at hl ⊢
  have hl : lv_has ls 3 [(0, .ref (a 0)), (1, .int (nI i))] := hl
  refine lv_aload_n hx hb dX0_buyFate_0 rfl (lv_at hl 0 rfl) ?_
  refine lv_iload_n hx hb dX0_buyFate_1 rfl (lv_at hl 1 rfl) ?_
  refine k_X0_requirePerson hC hK hP hl.1 ⟨Nat.le_of_ble_eq_true rfl, Nat.le_of_ble_eq_true rfl⟩ ⟨Nat.zero_le _, Nat.zero_le _⟩ (Nat.le_of_ble_eq_true rfl) rfl (by first | assumption | omega) (by first | assumption | omega) dX0_buyFate_2 ?_
  refine lv_aload_n hx hb dX0_buyFate_5 rfl (lv_at hl 0 rfl) ?_
  refine lv_iload_n hx hb dX0_buyFate_6 rfl (lv_at hl 1 rfl) ?_
  exact kt_X0_requireAlive_a hC hst hnt hlocks hK hP hT hl.1 ⟨Nat.le_of_ble_eq_true rfl, Nat.le_of_ble_eq_true rfl⟩ ⟨Nat.le_of_ble_eq_true rfl, Nat.le_of_ble_eq_true rfl⟩ (Nat.le_of_ble_eq_true rfl) rfl (by omega) ha dX0_buyFate_7
set_option maxHeartbeats 4000000 in
set_option maxRecDepth 100000 in
theorem ct_X0_buyFate_c (l : Launch) (hst : l.stackTraces = false) {D : va_G} {z : ClassId × ClassId} {a : Nat → Nat} {lv lk pu fa he : Nat → Int32} {n : Nat} {nv du ta : Nat → Int32} {w : Nat} {mp mi : Nat → Int32} {k : Nat} {nt fu re : Int32} (i : Nat) (hi : i < n) (hn : n ≤ 10) (ha : ¬ lv i = 0) (hf : ¬ fa i < 9) : vx_Met l yX0_buyFate (ws_ yX0_buyFate cX0_buyFate 3 (some .int)) ({ frames := 6, cells := 1, slots := 6, locals := 90 } : Room) (va_Pc [.ref (a 0), .int (nI i)] (fun U => xI D z a lv lk pu fa he n nv du ta w mp mi k nt fu re U ∧ tH nA U U.heap)) (va_Qi (fun (_ : Int32) (_ : Unit) => False) (fun _ _ => True) nA) (tX "java/lang/IllegalStateException") 1 6 nA := by
  refine vx_ofW (cc := cX0_buyFate) (maxL := 3) (ret := (some .int)) (by decide) rfl ?_
  intro p e s m args below meth c s₁ B hml hnt hv
  obtain ⟨rfl, ⟨hP, hK⟩, hT⟩ := hv
  have hx := B.exec
  have hb := B.bytes
  have hr := B.returns
  have hts := atoms_spec (ws := ws_ yX0_buyFate cX0_buyFate 3 (some .int)) B.pre
  have hts : ∀ w ∈ lw_all, w.before _ s = true := fun w h => hts w (List.mem_cons_of_mem _ h)
  have hown : s.vm.findClass RX0 = some m.cls := findClass_of_methodNamed B.named
  have hlocks := B.notSynchronized
  have hC : CallFix p m c cX0_buyFate 3 s _ lw_all RX0 := ⟨hx, hb, hml, hown, hts⟩
  have hl := lv_entry ([.ref (a 0), .int (nI i)]) (n := 3) (Nat.le_of_ble_eq_true rfl)
  rw [lg_entry_eq]
  generalize (lg_sl ([.ref (a 0), .int (nI i)]) ++ List.replicate (3 - (lg_sl ([.ref (a 0), .int (nI i)])).length) Slot.unset).toArray = ls at hl ⊢
  have hl : lv_has ls 3 [(0, .ref (a 0)), (1, .int (nI i))] := hl
  refine lv_aload_n hx hb dX0_buyFate_0 rfl (lv_at hl 0 rfl) ?_
  refine lv_iload_n hx hb dX0_buyFate_1 rfl (lv_at hl 1 rfl) ?_
  refine k_X0_requirePerson hC hK hP hl.1 ⟨Nat.le_of_ble_eq_true rfl, Nat.le_of_ble_eq_true rfl⟩ ⟨Nat.zero_le _, Nat.zero_le _⟩ (Nat.le_of_ble_eq_true rfl) rfl (by first | assumption | omega) (by first | assumption | omega) dX0_buyFate_2 ?_
  refine lv_aload_n hx hb dX0_buyFate_5 rfl (lv_at hl 0 rfl) ?_
  refine lv_iload_n hx hb dX0_buyFate_6 rfl (lv_at hl 1 rfl) ?_
  refine k_X0_requireAlive hC hK hP hl.1 ⟨Nat.le_of_ble_eq_true rfl, Nat.le_of_ble_eq_true rfl⟩ ⟨Nat.zero_le _, Nat.zero_le _⟩ (Nat.le_of_ble_eq_true rfl) rfl (by first | assumption | omega) (by first | assumption | omega) dX0_buyFate_7 ?_
  refine lv_aload_n hx hb dX0_buyFate_10 rfl (lv_at hl 0 rfl) ?_
  refine xg_fa hC hK hP dX0_buyFate_11 ?_
  refine lv_iload_n hx hb dX0_buyFate_14 rfl (lv_at hl 1 rfl) ?_
  refine xl_fa hC hK hP i rfl (by omega) dX0_buyFate_15 ?_
  refine lv_bipush (v := 9) hx hb dX0_buyFate_16 (by decide) ?_
  refine lv_icmp_lt (tgt := 31) hx hb dX0_buyFate_18 (by decide) (fun c_18 => ?_) (fun c_18 => ?_)
  · exact absurd c_18 hf
  · exact th_ISE hC hst hnt hlocks hT (hT.2.2.2 (73, "the person has 9 fates") (by decide)) hl.1 ⟨Nat.le_of_ble_eq_true rfl, Nat.le_of_ble_eq_true rfl⟩ ⟨Nat.le_of_ble_eq_true rfl, Nat.le_of_ble_eq_true rfl⟩ dX0_buyFate_21 dX0_buyFate_24 dX0_buyFate_25 dX0_buyFate_27 dX0_buyFate_30
set_option maxHeartbeats 4000000 in
set_option maxRecDepth 100000 in
theorem ct_X0_buyFate_d (l : Launch) (hst : l.stackTraces = false) {D : va_G} {z : ClassId × ClassId} {a : Nat → Nat} {lv lk pu fa he : Nat → Int32} {n : Nat} {nv du ta : Nat → Int32} {w : Nat} {mp mi : Nat → Int32} {k : Nat} {nt fu re : Int32} (i : Nat) (hi : i < n) (hn : n ≤ 10) (ha : ¬ lv i = 0) (hf : fa i < 9) (hp : ¬ sp_price (lk i) ≤ pu i) : vx_Met l yX0_buyFate (ws_ yX0_buyFate cX0_buyFate 3 (some .int)) ({ frames := 6, cells := 1, slots := 6, locals := 90 } : Room) (va_Pc [.ref (a 0), .int (nI i)] (fun U => xI D z a lv lk pu fa he n nv du ta w mp mi k nt fu re U ∧ tH nA U U.heap)) (va_Qi (fun (_ : Int32) (_ : Unit) => False) (fun _ _ => True) nA) (tX "java/lang/IllegalStateException") 1 6 nA := by
  refine vx_ofW (cc := cX0_buyFate) (maxL := 3) (ret := (some .int)) (by decide) rfl ?_
  intro p e s m args below meth c s₁ B hml hnt hv
  obtain ⟨rfl, ⟨hP, hK⟩, hT⟩ := hv
  have hx := B.exec
  have hb := B.bytes
  have hr := B.returns
  have hts := atoms_spec (ws := ws_ yX0_buyFate cX0_buyFate 3 (some .int)) B.pre
  have hts : ∀ w ∈ lw_all, w.before _ s = true := fun w h => hts w (List.mem_cons_of_mem _ h)
  have hown : s.vm.findClass RX0 = some m.cls := findClass_of_methodNamed B.named
  have hlocks := B.notSynchronized
  have hC : CallFix p m c cX0_buyFate 3 s _ lw_all RX0 := ⟨hx, hb, hml, hown, hts⟩
  have hl := lv_entry ([.ref (a 0), .int (nI i)]) (n := 3) (Nat.le_of_ble_eq_true rfl)
  rw [lg_entry_eq]
  generalize (lg_sl ([.ref (a 0), .int (nI i)]) ++ List.replicate (3 - (lg_sl ([.ref (a 0), .int (nI i)])).length) Slot.unset).toArray = ls at hl ⊢
  have hl : lv_has ls 3 [(0, .ref (a 0)), (1, .int (nI i))] := hl
  refine lv_aload_n hx hb dX0_buyFate_0 rfl (lv_at hl 0 rfl) ?_
  refine lv_iload_n hx hb dX0_buyFate_1 rfl (lv_at hl 1 rfl) ?_
  refine k_X0_requirePerson hC hK hP hl.1 ⟨Nat.le_of_ble_eq_true rfl, Nat.le_of_ble_eq_true rfl⟩ ⟨Nat.zero_le _, Nat.zero_le _⟩ (Nat.le_of_ble_eq_true rfl) rfl (by first | assumption | omega) (by first | assumption | omega) dX0_buyFate_2 ?_
  refine lv_aload_n hx hb dX0_buyFate_5 rfl (lv_at hl 0 rfl) ?_
  refine lv_iload_n hx hb dX0_buyFate_6 rfl (lv_at hl 1 rfl) ?_
  refine k_X0_requireAlive hC hK hP hl.1 ⟨Nat.le_of_ble_eq_true rfl, Nat.le_of_ble_eq_true rfl⟩ ⟨Nat.zero_le _, Nat.zero_le _⟩ (Nat.le_of_ble_eq_true rfl) rfl (by first | assumption | omega) (by first | assumption | omega) dX0_buyFate_7 ?_
  refine lv_aload_n hx hb dX0_buyFate_10 rfl (lv_at hl 0 rfl) ?_
  refine xg_fa hC hK hP dX0_buyFate_11 ?_
  refine lv_iload_n hx hb dX0_buyFate_14 rfl (lv_at hl 1 rfl) ?_
  refine xl_fa hC hK hP i rfl (by omega) dX0_buyFate_15 ?_
  refine lv_bipush (v := 9) hx hb dX0_buyFate_16 (by decide) ?_
  refine lv_icmp_lt (tgt := 31) hx hb dX0_buyFate_18 (by decide) (fun c_18 => ?_) (fun c_18 => ?_)
  · refine lv_aload_n hx hb dX0_buyFate_31 rfl (lv_at hl 0 rfl) ?_
    refine lv_iload_n hx hb dX0_buyFate_32 rfl (lv_at hl 1 rfl) ?_
    refine k_X0_fatePrice hC hK hP hl.1 ⟨Nat.le_of_ble_eq_true rfl, Nat.le_of_ble_eq_true rfl⟩ ⟨Nat.zero_le _, Nat.zero_le _⟩ (Nat.le_of_ble_eq_true rfl) rfl (by first | assumption | omega) dX0_buyFate_33 ?_
    refine lv_istore_n (lv' := [(2, .int (sp_price (lk i))), (0, .ref (a 0)), (1, .int (nI i))]) hx hb dX0_buyFate_36 rfl hl (by decide) rfl (fun ls hl => ?_)
    refine lv_aload_n hx hb dX0_buyFate_37 rfl (lv_at hl 1 rfl) ?_
    refine xg_pu hC hK hP dX0_buyFate_38 ?_
    refine lv_iload_n hx hb dX0_buyFate_41 rfl (lv_at hl 2 rfl) ?_
    refine xl_pu hC hK hP i rfl (by omega) dX0_buyFate_42 ?_
    refine lv_iload_n hx hb dX0_buyFate_43 rfl (lv_at hl 0 rfl) ?_
    refine lv_icmp_ge (tgt := 57) hx hb dX0_buyFate_44 (by decide) (fun c_44 => ?_) (fun c_44 => ?_)
    · exact absurd c_44 hp
    · exact th_ISE hC hst hnt hlocks hT (hT.2.2.2 (79, "the person has too few coins") (by decide)) hl.1 ⟨Nat.le_of_ble_eq_true rfl, Nat.le_of_ble_eq_true rfl⟩ ⟨Nat.le_of_ble_eq_true rfl, Nat.le_of_ble_eq_true rfl⟩ dX0_buyFate_47 dX0_buyFate_50 dX0_buyFate_51 dX0_buyFate_53 dX0_buyFate_56
  · exact absurd hf c_18
set_option maxHeartbeats 4000000 in
set_option maxRecDepth 100000 in
theorem ct_X0_turnDuty_a (l : Launch) (hst : l.stackTraces = false) {D : va_G} {z : ClassId × ClassId} {a : Nat → Nat} {lv lk pu fa he : Nat → Int32} {n : Nat} {nv du ta : Nat → Int32} {w : Nat} {mp mi : Nat → Int32} {k : Nat} {nt fu re : Int32} (x : Int32) (hbad : sp_isP w x = 0) : vx_Met l yX0_turnDuty (ws_ yX0_turnDuty cX0_turnDuty 2 (some .boolean)) ({ frames := 7, cells := 1, slots := 6, locals := 111 } : Room) (va_Pc [.ref (a 0), .int x] (fun U => xI D z a lv lk pu fa he n nv du ta w mp mi k nt fu re U ∧ tH nA U U.heap)) (va_Qi (fun (_ : Int32) (_ : Unit) => False) (fun _ _ => True) nA) (tX "java/lang/IndexOutOfBoundsException") 1 6 nA := by
  refine vx_ofW (cc := cX0_turnDuty) (maxL := 2) (ret := (some .boolean)) (by decide) rfl ?_
  intro p e s m args below meth c s₁ B hml hnt hv
  obtain ⟨rfl, ⟨hP, hK⟩, hT⟩ := hv
  have hx := B.exec
  have hb := B.bytes
  have hr := B.returns
  have hts := atoms_spec (ws := ws_ yX0_turnDuty cX0_turnDuty 2 (some .boolean)) B.pre
  have hts : ∀ w ∈ lw_all, w.before _ s = true := fun w h => hts w (List.mem_cons_of_mem _ h)
  have hown : s.vm.findClass RX0 = some m.cls := findClass_of_methodNamed B.named
  have hlocks := B.notSynchronized
  have hC : CallFix p m c cX0_turnDuty 2 s _ lw_all RX0 := ⟨hx, hb, hml, hown, hts⟩
  have hl := lv_entry ([.ref (a 0), .int x]) (n := 2) (Nat.le_of_ble_eq_true rfl)
  rw [lg_entry_eq]
  generalize (lg_sl ([.ref (a 0), .int x]) ++ List.replicate (2 - (lg_sl ([.ref (a 0), .int x])).length) Slot.unset).toArray = ls at hl ⊢
  have hl : lv_has ls 2 [(0, .ref (a 0)), (1, .int x)] := hl
  refine lv_aload_n hx hb dX0_turnDuty_0 rfl (lv_at hl 0 rfl) ?_
  refine lv_iload_n hx hb dX0_turnDuty_1 rfl (lv_at hl 1 rfl) ?_
  exact kt_X0_requireWitness_a hC hst hnt hlocks hK hP hT hl.1 ⟨Nat.le_of_ble_eq_true rfl, Nat.le_of_ble_eq_true rfl⟩ ⟨Nat.le_of_ble_eq_true rfl, Nat.le_of_ble_eq_true rfl⟩ (Nat.le_of_ble_eq_true rfl) hbad dX0_turnDuty_2
set_option maxHeartbeats 4000000 in
set_option maxRecDepth 100000 in
theorem ct_X0_miss_a (l : Launch) (hst : l.stackTraces = false) {D : va_G} {z : ClassId × ClassId} {a : Nat → Nat} {lv lk pu fa he : Nat → Int32} {n : Nat} {nv du ta : Nat → Int32} {w : Nat} {mp mi : Nat → Int32} {k : Nat} {nt fu re : Int32} (x y : Int32) (hbad : sp_isP n x = 0) : vx_Met l yX0_miss (ws_ yX0_miss cX0_miss 4 (some .int)) ({ frames := 7, cells := 1, slots := 6, locals := 111 } : Room) (va_Pc [.ref (a 0), .int x, .int y] (fun U => xI D z a lv lk pu fa he n nv du ta w mp mi k nt fu re U ∧ tH nA U U.heap)) (va_Qi (fun (_ : Int32) (_ : Unit) => False) (fun _ _ => True) nA) (tX "java/lang/IndexOutOfBoundsException") 1 6 nA := by
  refine vx_ofW (cc := cX0_miss) (maxL := 4) (ret := (some .int)) (by decide) rfl ?_
  intro p e s m args below meth c s₁ B hml hnt hv
  obtain ⟨rfl, ⟨hP, hK⟩, hT⟩ := hv
  have hx := B.exec
  have hb := B.bytes
  have hr := B.returns
  have hts := atoms_spec (ws := ws_ yX0_miss cX0_miss 4 (some .int)) B.pre
  have hts : ∀ w ∈ lw_all, w.before _ s = true := fun w h => hts w (List.mem_cons_of_mem _ h)
  have hown : s.vm.findClass RX0 = some m.cls := findClass_of_methodNamed B.named
  have hlocks := B.notSynchronized
  have hC : CallFix p m c cX0_miss 4 s _ lw_all RX0 := ⟨hx, hb, hml, hown, hts⟩
  have hl := lv_entry ([.ref (a 0), .int x, .int y]) (n := 4) (Nat.le_of_ble_eq_true rfl)
  rw [lg_entry_eq]
  generalize (lg_sl ([.ref (a 0), .int x, .int y]) ++ List.replicate (4 - (lg_sl ([.ref (a 0), .int x, .int y])).length) Slot.unset).toArray = ls at hl ⊢
  have hl : lv_has ls 4 [(0, .ref (a 0)), (1, .int x), (2, .int y)] := hl
  refine lv_aload_n hx hb dX0_miss_0 rfl (lv_at hl 0 rfl) ?_
  refine lv_iload_n hx hb dX0_miss_1 rfl (lv_at hl 1 rfl) ?_
  exact kt_X0_requirePerson_a hC hst hnt hlocks hK hP hT hl.1 ⟨Nat.le_of_ble_eq_true rfl, Nat.le_of_ble_eq_true rfl⟩ ⟨Nat.le_of_ble_eq_true rfl, Nat.le_of_ble_eq_true rfl⟩ (Nat.le_of_ble_eq_true rfl) hbad dX0_miss_2
set_option maxHeartbeats 4000000 in
set_option maxRecDepth 100000 in
theorem ct_X0_miss_b (l : Launch) (hst : l.stackTraces = false) {D : va_G} {z : ClassId × ClassId} {a : Nat → Nat} {lv lk pu fa he : Nat → Int32} {n : Nat} {nv du ta : Nat → Int32} {w : Nat} {mp mi : Nat → Int32} {k : Nat} {nt fu re : Int32} (i : Nat) (hi : i < n) (hn : n ≤ 10) (y : Int32) (hbad : y < 1 ∨ ¬ y ≤ 60) : vx_Met l yX0_miss (ws_ yX0_miss cX0_miss 4 (some .int)) ({ frames := 7, cells := 1, slots := 6, locals := 111 } : Room) (va_Pc [.ref (a 0), .int (nI i), .int y] (fun U => xI D z a lv lk pu fa he n nv du ta w mp mi k nt fu re U ∧ tH nA U U.heap)) (va_Qi (fun (_ : Int32) (_ : Unit) => False) (fun _ _ => True) nA) (tX "java/lang/IllegalArgumentException") 1 6 nA := by
  refine vx_ofW (cc := cX0_miss) (maxL := 4) (ret := (some .int)) (by decide) rfl ?_
  intro p e s m args below meth c s₁ B hml hnt hv
  obtain ⟨rfl, ⟨hP, hK⟩, hT⟩ := hv
  have hx := B.exec
  have hb := B.bytes
  have hr := B.returns
  have hts := atoms_spec (ws := ws_ yX0_miss cX0_miss 4 (some .int)) B.pre
  have hts : ∀ w ∈ lw_all, w.before _ s = true := fun w h => hts w (List.mem_cons_of_mem _ h)
  have hown : s.vm.findClass RX0 = some m.cls := findClass_of_methodNamed B.named
  have hlocks := B.notSynchronized
  have hC : CallFix p m c cX0_miss 4 s _ lw_all RX0 := ⟨hx, hb, hml, hown, hts⟩
  have hl := lv_entry ([.ref (a 0), .int (nI i), .int y]) (n := 4) (Nat.le_of_ble_eq_true rfl)
  rw [lg_entry_eq]
  generalize (lg_sl ([.ref (a 0), .int (nI i), .int y]) ++ List.replicate (4 - (lg_sl ([.ref (a 0), .int (nI i), .int y])).length) Slot.unset).toArray = ls at hl ⊢
  have hl : lv_has ls 4 [(0, .ref (a 0)), (1, .int (nI i)), (2, .int y)] := hl
  refine lv_aload_n hx hb dX0_miss_0 rfl (lv_at hl 0 rfl) ?_
  refine lv_iload_n hx hb dX0_miss_1 rfl (lv_at hl 1 rfl) ?_
  refine k_X0_requirePerson hC hK hP hl.1 ⟨Nat.le_of_ble_eq_true rfl, Nat.le_of_ble_eq_true rfl⟩ ⟨Nat.zero_le _, Nat.zero_le _⟩ (Nat.le_of_ble_eq_true rfl) rfl (by first | assumption | omega) (by first | assumption | omega) dX0_miss_2 ?_
  refine lv_aload_n hx hb dX0_miss_5 rfl (lv_at hl 0 rfl) ?_
  refine lv_iload_n hx hb dX0_miss_6 rfl (lv_at hl 2 rfl) ?_
  exact kt_X0_requireInches_a hC hst hnt hlocks hK hP hT hl.1 ⟨Nat.le_of_ble_eq_true rfl, Nat.le_of_ble_eq_true rfl⟩ ⟨Nat.le_of_ble_eq_true rfl, Nat.le_of_ble_eq_true rfl⟩ (Nat.le_of_ble_eq_true rfl) hbad dX0_miss_7
set_option maxHeartbeats 4000000 in
set_option maxRecDepth 100000 in
theorem ct_X0_miss_c (l : Launch) (hst : l.stackTraces = false) {D : va_G} {z : ClassId × ClassId} {a : Nat → Nat} {lv lk pu fa he : Nat → Int32} {n : Nat} {nv du ta : Nat → Int32} {w : Nat} {mp mi : Nat → Int32} {k : Nat} {nt fu re : Int32} (i : Nat) (hi : i < n) (hn : n ≤ 10) (y : Int32) (h1 : ¬ y < 1) (h2 : y ≤ 60) (ha : lv i = 0) : vx_Met l yX0_miss (ws_ yX0_miss cX0_miss 4 (some .int)) ({ frames := 7, cells := 1, slots := 6, locals := 111 } : Room) (va_Pc [.ref (a 0), .int (nI i), .int y] (fun U => xI D z a lv lk pu fa he n nv du ta w mp mi k nt fu re U ∧ tH nA U U.heap)) (va_Qi (fun (_ : Int32) (_ : Unit) => False) (fun _ _ => True) nA) (tX "java/lang/IllegalStateException") 1 6 nA := by
  refine vx_ofW (cc := cX0_miss) (maxL := 4) (ret := (some .int)) (by decide) rfl ?_
  intro p e s m args below meth c s₁ B hml hnt hv
  obtain ⟨rfl, ⟨hP, hK⟩, hT⟩ := hv
  have hx := B.exec
  have hb := B.bytes
  have hr := B.returns
  have hts := atoms_spec (ws := ws_ yX0_miss cX0_miss 4 (some .int)) B.pre
  have hts : ∀ w ∈ lw_all, w.before _ s = true := fun w h => hts w (List.mem_cons_of_mem _ h)
  have hown : s.vm.findClass RX0 = some m.cls := findClass_of_methodNamed B.named
  have hlocks := B.notSynchronized
  have hC : CallFix p m c cX0_miss 4 s _ lw_all RX0 := ⟨hx, hb, hml, hown, hts⟩
  have hl := lv_entry ([.ref (a 0), .int (nI i), .int y]) (n := 4) (Nat.le_of_ble_eq_true rfl)
  rw [lg_entry_eq]
  generalize (lg_sl ([.ref (a 0), .int (nI i), .int y]) ++ List.replicate (4 - (lg_sl ([.ref (a 0), .int (nI i), .int y])).length) Slot.unset).toArray = ls at hl ⊢
  have hl : lv_has ls 4 [(0, .ref (a 0)), (1, .int (nI i)), (2, .int y)] := hl
  refine lv_aload_n hx hb dX0_miss_0 rfl (lv_at hl 0 rfl) ?_
  refine lv_iload_n hx hb dX0_miss_1 rfl (lv_at hl 1 rfl) ?_
  refine k_X0_requirePerson hC hK hP hl.1 ⟨Nat.le_of_ble_eq_true rfl, Nat.le_of_ble_eq_true rfl⟩ ⟨Nat.zero_le _, Nat.zero_le _⟩ (Nat.le_of_ble_eq_true rfl) rfl (by first | assumption | omega) (by first | assumption | omega) dX0_miss_2 ?_
  refine lv_aload_n hx hb dX0_miss_5 rfl (lv_at hl 0 rfl) ?_
  refine lv_iload_n hx hb dX0_miss_6 rfl (lv_at hl 2 rfl) ?_
  refine k_X0_requireInches hC hK hP hl.1 ⟨Nat.le_of_ble_eq_true rfl, Nat.le_of_ble_eq_true rfl⟩ ⟨Nat.zero_le _, Nat.zero_le _⟩ (Nat.le_of_ble_eq_true rfl)  (by first | assumption | omega) (by first | assumption | omega) dX0_miss_7 ?_
  refine lv_aload_n hx hb dX0_miss_10 rfl (lv_at hl 0 rfl) ?_
  refine lv_iload_n hx hb dX0_miss_11 rfl (lv_at hl 1 rfl) ?_
  exact kt_X0_requireAlive_a hC hst hnt hlocks hK hP hT hl.1 ⟨Nat.le_of_ble_eq_true rfl, Nat.le_of_ble_eq_true rfl⟩ ⟨Nat.le_of_ble_eq_true rfl, Nat.le_of_ble_eq_true rfl⟩ (Nat.le_of_ble_eq_true rfl) rfl (by omega) ha dX0_miss_12
set_option maxHeartbeats 4000000 in
set_option maxRecDepth 100000 in
theorem ct_X0_miss_d (l : Launch) (hst : l.stackTraces = false) {D : va_G} {z : ClassId × ClassId} {a : Nat → Nat} {lv lk pu fa he : Nat → Int32} {n : Nat} {nv du ta : Nat → Int32} {w : Nat} {mp mi : Nat → Int32} {k : Nat} {nt fu re : Int32} (i : Nat) (hi : i < n) (hn : n ≤ 10) (y : Int32) (h1 : ¬ y < 1) (h2 : y ≤ 60) (ha : ¬ lv i = 0) (hk : k = 60) : vx_Met l yX0_miss (ws_ yX0_miss cX0_miss 4 (some .int)) ({ frames := 6, cells := 1, slots := 6, locals := 90 } : Room) (va_Pc [.ref (a 0), .int (nI i), .int y] (fun U => xI D z a lv lk pu fa he n nv du ta w mp mi k nt fu re U ∧ tH nA U U.heap)) (va_Qi (fun (_ : Int32) (_ : Unit) => False) (fun _ _ => True) nA) (tX "java/lang/IllegalStateException") 1 6 nA := by
  refine vx_ofW (cc := cX0_miss) (maxL := 4) (ret := (some .int)) (by decide) rfl ?_
  intro p e s m args below meth c s₁ B hml hnt hv
  obtain ⟨rfl, ⟨hP, hK⟩, hT⟩ := hv
  have hx := B.exec
  have hb := B.bytes
  have hr := B.returns
  have hts := atoms_spec (ws := ws_ yX0_miss cX0_miss 4 (some .int)) B.pre
  have hts : ∀ w ∈ lw_all, w.before _ s = true := fun w h => hts w (List.mem_cons_of_mem _ h)
  have hown : s.vm.findClass RX0 = some m.cls := findClass_of_methodNamed B.named
  have hlocks := B.notSynchronized
  have hC : CallFix p m c cX0_miss 4 s _ lw_all RX0 := ⟨hx, hb, hml, hown, hts⟩
  have hl := lv_entry ([.ref (a 0), .int (nI i), .int y]) (n := 4) (Nat.le_of_ble_eq_true rfl)
  rw [lg_entry_eq]
  generalize (lg_sl ([.ref (a 0), .int (nI i), .int y]) ++ List.replicate (4 - (lg_sl ([.ref (a 0), .int (nI i), .int y])).length) Slot.unset).toArray = ls at hl ⊢
  have hl : lv_has ls 4 [(0, .ref (a 0)), (1, .int (nI i)), (2, .int y)] := hl
  refine lv_aload_n hx hb dX0_miss_0 rfl (lv_at hl 0 rfl) ?_
  refine lv_iload_n hx hb dX0_miss_1 rfl (lv_at hl 1 rfl) ?_
  refine k_X0_requirePerson hC hK hP hl.1 ⟨Nat.le_of_ble_eq_true rfl, Nat.le_of_ble_eq_true rfl⟩ ⟨Nat.zero_le _, Nat.zero_le _⟩ (Nat.le_of_ble_eq_true rfl) rfl (by first | assumption | omega) (by first | assumption | omega) dX0_miss_2 ?_
  refine lv_aload_n hx hb dX0_miss_5 rfl (lv_at hl 0 rfl) ?_
  refine lv_iload_n hx hb dX0_miss_6 rfl (lv_at hl 2 rfl) ?_
  refine k_X0_requireInches hC hK hP hl.1 ⟨Nat.le_of_ble_eq_true rfl, Nat.le_of_ble_eq_true rfl⟩ ⟨Nat.zero_le _, Nat.zero_le _⟩ (Nat.le_of_ble_eq_true rfl)  (by first | assumption | omega) (by first | assumption | omega) dX0_miss_7 ?_
  refine lv_aload_n hx hb dX0_miss_10 rfl (lv_at hl 0 rfl) ?_
  refine lv_iload_n hx hb dX0_miss_11 rfl (lv_at hl 1 rfl) ?_
  refine k_X0_requireAlive hC hK hP hl.1 ⟨Nat.le_of_ble_eq_true rfl, Nat.le_of_ble_eq_true rfl⟩ ⟨Nat.zero_le _, Nat.zero_le _⟩ (Nat.le_of_ble_eq_true rfl) rfl (by first | assumption | omega) (by first | assumption | omega) dX0_miss_12 ?_
  refine lv_aload_n hx hb dX0_miss_15 rfl (lv_at hl 0 rfl) ?_
  refine xg_k hC hK hP dX0_miss_16 ?_
  refine lv_bipush (v := 60) hx hb dX0_miss_19 (by decide) ?_
  refine lv_icmp_lt (tgt := 34) hx hb dX0_miss_21 (by decide) (fun c_21 => ?_) (fun c_21 => ?_)
  · exact absurd c_21 (nI_nlt (b := 60) (by omega) (by omega))
  · exact th_ISE hC hst hnt hlocks hT (hT.2.2.2 (93, "there are 60 misses") (by decide)) hl.1 ⟨Nat.le_of_ble_eq_true rfl, Nat.le_of_ble_eq_true rfl⟩ ⟨Nat.le_of_ble_eq_true rfl, Nat.le_of_ble_eq_true rfl⟩ dX0_miss_24 dX0_miss_27 dX0_miss_28 dX0_miss_30 dX0_miss_33
set_option maxHeartbeats 4000000 in
set_option maxRecDepth 100000 in
theorem ct_X0_hit_a (l : Launch) (hst : l.stackTraces = false) {D : va_G} {z : ClassId × ClassId} {a : Nat → Nat} {lv lk pu fa he : Nat → Int32} {n : Nat} {nv du ta : Nat → Int32} {w : Nat} {mp mi : Nat → Int32} {k : Nat} {nt fu re : Int32} (x : Int32) (hbad : sp_isP n x = 0) : vx_Met l yX0_hit (ws_ yX0_hit cX0_hit 3 (some .int)) ({ frames := 7, cells := 1, slots := 6, locals := 111 } : Room) (va_Pc [.ref (a 0), .int x] (fun U => xI D z a lv lk pu fa he n nv du ta w mp mi k nt fu re U ∧ tH nA U U.heap)) (va_Qi (fun (_ : Int32) (_ : Unit) => False) (fun _ _ => True) nA) (tX "java/lang/IndexOutOfBoundsException") 1 6 nA := by
  refine vx_ofW (cc := cX0_hit) (maxL := 3) (ret := (some .int)) (by decide) rfl ?_
  intro p e s m args below meth c s₁ B hml hnt hv
  obtain ⟨rfl, ⟨hP, hK⟩, hT⟩ := hv
  have hx := B.exec
  have hb := B.bytes
  have hr := B.returns
  have hts := atoms_spec (ws := ws_ yX0_hit cX0_hit 3 (some .int)) B.pre
  have hts : ∀ w ∈ lw_all, w.before _ s = true := fun w h => hts w (List.mem_cons_of_mem _ h)
  have hown : s.vm.findClass RX0 = some m.cls := findClass_of_methodNamed B.named
  have hlocks := B.notSynchronized
  have hC : CallFix p m c cX0_hit 3 s _ lw_all RX0 := ⟨hx, hb, hml, hown, hts⟩
  have hl := lv_entry ([.ref (a 0), .int x]) (n := 3) (Nat.le_of_ble_eq_true rfl)
  rw [lg_entry_eq]
  generalize (lg_sl ([.ref (a 0), .int x]) ++ List.replicate (3 - (lg_sl ([.ref (a 0), .int x])).length) Slot.unset).toArray = ls at hl ⊢
  have hl : lv_has ls 3 [(0, .ref (a 0)), (1, .int x)] := hl
  refine lv_aload_n hx hb dX0_hit_0 rfl (lv_at hl 0 rfl) ?_
  refine lv_iload_n hx hb dX0_hit_1 rfl (lv_at hl 1 rfl) ?_
  exact kt_X0_requirePerson_a hC hst hnt hlocks hK hP hT hl.1 ⟨Nat.le_of_ble_eq_true rfl, Nat.le_of_ble_eq_true rfl⟩ ⟨Nat.le_of_ble_eq_true rfl, Nat.le_of_ble_eq_true rfl⟩ (Nat.le_of_ble_eq_true rfl) hbad dX0_hit_2
set_option maxHeartbeats 4000000 in
set_option maxRecDepth 100000 in
theorem ct_X0_hit_b (l : Launch) (hst : l.stackTraces = false) {D : va_G} {z : ClassId × ClassId} {a : Nat → Nat} {lv lk pu fa he : Nat → Int32} {n : Nat} {nv du ta : Nat → Int32} {w : Nat} {mp mi : Nat → Int32} {k : Nat} {nt fu re : Int32} (i : Nat) (hi : i < n) (hn : n ≤ 10) (ha : lv i = 0) : vx_Met l yX0_hit (ws_ yX0_hit cX0_hit 3 (some .int)) ({ frames := 7, cells := 1, slots := 6, locals := 111 } : Room) (va_Pc [.ref (a 0), .int (nI i)] (fun U => xI D z a lv lk pu fa he n nv du ta w mp mi k nt fu re U ∧ tH nA U U.heap)) (va_Qi (fun (_ : Int32) (_ : Unit) => False) (fun _ _ => True) nA) (tX "java/lang/IllegalStateException") 1 6 nA := by
  refine vx_ofW (cc := cX0_hit) (maxL := 3) (ret := (some .int)) (by decide) rfl ?_
  intro p e s m args below meth c s₁ B hml hnt hv
  obtain ⟨rfl, ⟨hP, hK⟩, hT⟩ := hv
  have hx := B.exec
  have hb := B.bytes
  have hr := B.returns
  have hts := atoms_spec (ws := ws_ yX0_hit cX0_hit 3 (some .int)) B.pre
  have hts : ∀ w ∈ lw_all, w.before _ s = true := fun w h => hts w (List.mem_cons_of_mem _ h)
  have hown : s.vm.findClass RX0 = some m.cls := findClass_of_methodNamed B.named
  have hlocks := B.notSynchronized
  have hC : CallFix p m c cX0_hit 3 s _ lw_all RX0 := ⟨hx, hb, hml, hown, hts⟩
  have hl := lv_entry ([.ref (a 0), .int (nI i)]) (n := 3) (Nat.le_of_ble_eq_true rfl)
  rw [lg_entry_eq]
  generalize (lg_sl ([.ref (a 0), .int (nI i)]) ++ List.replicate (3 - (lg_sl ([.ref (a 0), .int (nI i)])).length) Slot.unset).toArray = ls at hl ⊢
  have hl : lv_has ls 3 [(0, .ref (a 0)), (1, .int (nI i))] := hl
  refine lv_aload_n hx hb dX0_hit_0 rfl (lv_at hl 0 rfl) ?_
  refine lv_iload_n hx hb dX0_hit_1 rfl (lv_at hl 1 rfl) ?_
  refine k_X0_requirePerson hC hK hP hl.1 ⟨Nat.le_of_ble_eq_true rfl, Nat.le_of_ble_eq_true rfl⟩ ⟨Nat.zero_le _, Nat.zero_le _⟩ (Nat.le_of_ble_eq_true rfl) rfl (by first | assumption | omega) (by first | assumption | omega) dX0_hit_2 ?_
  refine lv_aload_n hx hb dX0_hit_5 rfl (lv_at hl 0 rfl) ?_
  refine lv_iload_n hx hb dX0_hit_6 rfl (lv_at hl 1 rfl) ?_
  exact kt_X0_requireAlive_a hC hst hnt hlocks hK hP hT hl.1 ⟨Nat.le_of_ble_eq_true rfl, Nat.le_of_ble_eq_true rfl⟩ ⟨Nat.le_of_ble_eq_true rfl, Nat.le_of_ble_eq_true rfl⟩ (Nat.le_of_ble_eq_true rfl) rfl (by omega) ha dX0_hit_7
set_option maxHeartbeats 4000000 in
set_option maxRecDepth 100000 in
theorem ct_X0_pass_a (l : Launch) (hst : l.stackTraces = false) {D : va_G} {z : ClassId × ClassId} {a : Nat → Nat} {lv lk pu fa he : Nat → Int32} {n : Nat} {nv du ta : Nat → Int32} {w : Nat} {mp mi : Nat → Int32} {k : Nat} {nt fu re : Int32} (x : Int32) (hbad : x < 1 ∨ ¬ x ≤ 30) : vx_Met l yX0_pass (ws_ yX0_pass cX0_pass 3 (some .int)) ({ frames := 6, cells := 1, slots := 6, locals := 90 } : Room) (va_Pc [.ref (a 0), .int x] (fun U => xI D z a lv lk pu fa he n nv du ta w mp mi k nt fu re U ∧ tH nA U U.heap)) (va_Qi (fun (_ : Int32) (_ : Unit) => False) (fun _ _ => True) nA) (tX "java/lang/IllegalArgumentException") 1 6 nA := by
  refine vx_ofW (cc := cX0_pass) (maxL := 3) (ret := (some .int)) (by decide) rfl ?_
  intro p e s m args below meth c s₁ B hml hnt hv
  obtain ⟨rfl, ⟨hP, hK⟩, hT⟩ := hv
  have hx := B.exec
  have hb := B.bytes
  have hr := B.returns
  have hts := atoms_spec (ws := ws_ yX0_pass cX0_pass 3 (some .int)) B.pre
  have hts : ∀ w ∈ lw_all, w.before _ s = true := fun w h => hts w (List.mem_cons_of_mem _ h)
  have hown : s.vm.findClass RX0 = some m.cls := findClass_of_methodNamed B.named
  have hlocks := B.notSynchronized
  have hC : CallFix p m c cX0_pass 3 s _ lw_all RX0 := ⟨hx, hb, hml, hown, hts⟩
  have hl := lv_entry ([.ref (a 0), .int x]) (n := 3) (Nat.le_of_ble_eq_true rfl)
  rw [lg_entry_eq]
  generalize (lg_sl ([.ref (a 0), .int x]) ++ List.replicate (3 - (lg_sl ([.ref (a 0), .int x])).length) Slot.unset).toArray = ls at hl ⊢
  have hl : lv_has ls 3 [(0, .ref (a 0)), (1, .int x)] := hl
  refine lv_iload_n hx hb dX0_pass_0 rfl (lv_at hl 1 rfl) ?_
  refine lv_iconst (v := 1) hx hb dX0_pass_1 (by decide) ?_
  refine lv_icmp_lt (tgt := 11) hx hb dX0_pass_2 (by decide) (fun c_2 => ?_) (fun c_2 => ?_)
  · exact th_IAE hC hst hnt hlocks hT (hT.2.2.2 (124, "nights are not 1 to 30") (by decide)) hl.1 ⟨Nat.le_of_ble_eq_true rfl, Nat.le_of_ble_eq_true rfl⟩ ⟨Nat.le_of_ble_eq_true rfl, Nat.le_of_ble_eq_true rfl⟩ dX0_pass_11 dX0_pass_14 dX0_pass_15 dX0_pass_17 dX0_pass_20
  · refine lv_iload_n hx hb dX0_pass_5 rfl (lv_at hl 1 rfl) ?_
    refine lv_bipush (v := 30) hx hb dX0_pass_6 (by decide) ?_
    refine lv_icmp_le (tgt := 21) hx hb dX0_pass_8 (by decide) (fun c_8 => ?_) (fun c_8 => ?_)
    · exact absurd hbad (fun h => h.elim c_2 (fun q => q c_8))
    · exact th_IAE hC hst hnt hlocks hT (hT.2.2.2 (124, "nights are not 1 to 30") (by decide)) hl.1 ⟨Nat.le_of_ble_eq_true rfl, Nat.le_of_ble_eq_true rfl⟩ ⟨Nat.le_of_ble_eq_true rfl, Nat.le_of_ble_eq_true rfl⟩ dX0_pass_11 dX0_pass_14 dX0_pass_15 dX0_pass_17 dX0_pass_20
set_option maxHeartbeats 4000000 in
set_option maxRecDepth 100000 in
theorem ct_X0_isAlive_a (l : Launch) (hst : l.stackTraces = false) {D : va_G} {z : ClassId × ClassId} {a : Nat → Nat} {lv lk pu fa he : Nat → Int32} {n : Nat} {nv du ta : Nat → Int32} {w : Nat} {mp mi : Nat → Int32} {k : Nat} {nt fu re : Int32} (x : Int32) (hbad : sp_isP n x = 0) : vx_Met l yX0_isAlive (ws_ yX0_isAlive cX0_isAlive 2 (some .boolean)) ({ frames := 7, cells := 1, slots := 6, locals := 111 } : Room) (va_Pc [.ref (a 0), .int x] (fun U => xI D z a lv lk pu fa he n nv du ta w mp mi k nt fu re U ∧ tH nA U U.heap)) (va_Qi (fun (_ : Int32) (_ : Unit) => False) (fun _ _ => True) nA) (tX "java/lang/IndexOutOfBoundsException") 1 6 nA := by
  refine vx_ofW (cc := cX0_isAlive) (maxL := 2) (ret := (some .boolean)) (by decide) rfl ?_
  intro p e s m args below meth c s₁ B hml hnt hv
  obtain ⟨rfl, ⟨hP, hK⟩, hT⟩ := hv
  have hx := B.exec
  have hb := B.bytes
  have hr := B.returns
  have hts := atoms_spec (ws := ws_ yX0_isAlive cX0_isAlive 2 (some .boolean)) B.pre
  have hts : ∀ w ∈ lw_all, w.before _ s = true := fun w h => hts w (List.mem_cons_of_mem _ h)
  have hown : s.vm.findClass RX0 = some m.cls := findClass_of_methodNamed B.named
  have hlocks := B.notSynchronized
  have hC : CallFix p m c cX0_isAlive 2 s _ lw_all RX0 := ⟨hx, hb, hml, hown, hts⟩
  have hl := lv_entry ([.ref (a 0), .int x]) (n := 2) (Nat.le_of_ble_eq_true rfl)
  rw [lg_entry_eq]
  generalize (lg_sl ([.ref (a 0), .int x]) ++ List.replicate (2 - (lg_sl ([.ref (a 0), .int x])).length) Slot.unset).toArray = ls at hl ⊢
  have hl : lv_has ls 2 [(0, .ref (a 0)), (1, .int x)] := hl
  refine lv_aload_n hx hb dX0_isAlive_0 rfl (lv_at hl 0 rfl) ?_
  refine lv_iload_n hx hb dX0_isAlive_1 rfl (lv_at hl 1 rfl) ?_
  exact kt_X0_requirePerson_a hC hst hnt hlocks hK hP hT hl.1 ⟨Nat.le_of_ble_eq_true rfl, Nat.le_of_ble_eq_true rfl⟩ ⟨Nat.le_of_ble_eq_true rfl, Nat.le_of_ble_eq_true rfl⟩ (Nat.le_of_ble_eq_true rfl) hbad dX0_isAlive_2
set_option maxHeartbeats 4000000 in
set_option maxRecDepth 100000 in
theorem ct_X0_luckOf_a (l : Launch) (hst : l.stackTraces = false) {D : va_G} {z : ClassId × ClassId} {a : Nat → Nat} {lv lk pu fa he : Nat → Int32} {n : Nat} {nv du ta : Nat → Int32} {w : Nat} {mp mi : Nat → Int32} {k : Nat} {nt fu re : Int32} (x : Int32) (hbad : sp_isP n x = 0) : vx_Met l yX0_luckOf (ws_ yX0_luckOf cX0_luckOf 2 (some .int)) ({ frames := 7, cells := 1, slots := 6, locals := 111 } : Room) (va_Pc [.ref (a 0), .int x] (fun U => xI D z a lv lk pu fa he n nv du ta w mp mi k nt fu re U ∧ tH nA U U.heap)) (va_Qi (fun (_ : Int32) (_ : Unit) => False) (fun _ _ => True) nA) (tX "java/lang/IndexOutOfBoundsException") 1 6 nA := by
  refine vx_ofW (cc := cX0_luckOf) (maxL := 2) (ret := (some .int)) (by decide) rfl ?_
  intro p e s m args below meth c s₁ B hml hnt hv
  obtain ⟨rfl, ⟨hP, hK⟩, hT⟩ := hv
  have hx := B.exec
  have hb := B.bytes
  have hr := B.returns
  have hts := atoms_spec (ws := ws_ yX0_luckOf cX0_luckOf 2 (some .int)) B.pre
  have hts : ∀ w ∈ lw_all, w.before _ s = true := fun w h => hts w (List.mem_cons_of_mem _ h)
  have hown : s.vm.findClass RX0 = some m.cls := findClass_of_methodNamed B.named
  have hlocks := B.notSynchronized
  have hC : CallFix p m c cX0_luckOf 2 s _ lw_all RX0 := ⟨hx, hb, hml, hown, hts⟩
  have hl := lv_entry ([.ref (a 0), .int x]) (n := 2) (Nat.le_of_ble_eq_true rfl)
  rw [lg_entry_eq]
  generalize (lg_sl ([.ref (a 0), .int x]) ++ List.replicate (2 - (lg_sl ([.ref (a 0), .int x])).length) Slot.unset).toArray = ls at hl ⊢
  have hl : lv_has ls 2 [(0, .ref (a 0)), (1, .int x)] := hl
  refine lv_aload_n hx hb dX0_luckOf_0 rfl (lv_at hl 0 rfl) ?_
  refine lv_iload_n hx hb dX0_luckOf_1 rfl (lv_at hl 1 rfl) ?_
  exact kt_X0_requirePerson_a hC hst hnt hlocks hK hP hT hl.1 ⟨Nat.le_of_ble_eq_true rfl, Nat.le_of_ble_eq_true rfl⟩ ⟨Nat.le_of_ble_eq_true rfl, Nat.le_of_ble_eq_true rfl⟩ (Nat.le_of_ble_eq_true rfl) hbad dX0_luckOf_2
set_option maxHeartbeats 4000000 in
set_option maxRecDepth 100000 in
theorem ct_X0_purseOf_a (l : Launch) (hst : l.stackTraces = false) {D : va_G} {z : ClassId × ClassId} {a : Nat → Nat} {lv lk pu fa he : Nat → Int32} {n : Nat} {nv du ta : Nat → Int32} {w : Nat} {mp mi : Nat → Int32} {k : Nat} {nt fu re : Int32} (x : Int32) (hbad : sp_isP n x = 0) : vx_Met l yX0_purseOf (ws_ yX0_purseOf cX0_purseOf 2 (some .int)) ({ frames := 7, cells := 1, slots := 6, locals := 111 } : Room) (va_Pc [.ref (a 0), .int x] (fun U => xI D z a lv lk pu fa he n nv du ta w mp mi k nt fu re U ∧ tH nA U U.heap)) (va_Qi (fun (_ : Int32) (_ : Unit) => False) (fun _ _ => True) nA) (tX "java/lang/IndexOutOfBoundsException") 1 6 nA := by
  refine vx_ofW (cc := cX0_purseOf) (maxL := 2) (ret := (some .int)) (by decide) rfl ?_
  intro p e s m args below meth c s₁ B hml hnt hv
  obtain ⟨rfl, ⟨hP, hK⟩, hT⟩ := hv
  have hx := B.exec
  have hb := B.bytes
  have hr := B.returns
  have hts := atoms_spec (ws := ws_ yX0_purseOf cX0_purseOf 2 (some .int)) B.pre
  have hts : ∀ w ∈ lw_all, w.before _ s = true := fun w h => hts w (List.mem_cons_of_mem _ h)
  have hown : s.vm.findClass RX0 = some m.cls := findClass_of_methodNamed B.named
  have hlocks := B.notSynchronized
  have hC : CallFix p m c cX0_purseOf 2 s _ lw_all RX0 := ⟨hx, hb, hml, hown, hts⟩
  have hl := lv_entry ([.ref (a 0), .int x]) (n := 2) (Nat.le_of_ble_eq_true rfl)
  rw [lg_entry_eq]
  generalize (lg_sl ([.ref (a 0), .int x]) ++ List.replicate (2 - (lg_sl ([.ref (a 0), .int x])).length) Slot.unset).toArray = ls at hl ⊢
  have hl : lv_has ls 2 [(0, .ref (a 0)), (1, .int x)] := hl
  refine lv_aload_n hx hb dX0_purseOf_0 rfl (lv_at hl 0 rfl) ?_
  refine lv_iload_n hx hb dX0_purseOf_1 rfl (lv_at hl 1 rfl) ?_
  exact kt_X0_requirePerson_a hC hst hnt hlocks hK hP hT hl.1 ⟨Nat.le_of_ble_eq_true rfl, Nat.le_of_ble_eq_true rfl⟩ ⟨Nat.le_of_ble_eq_true rfl, Nat.le_of_ble_eq_true rfl⟩ (Nat.le_of_ble_eq_true rfl) hbad dX0_purseOf_2
set_option maxHeartbeats 4000000 in
set_option maxRecDepth 100000 in
theorem ct_X0_fatesOf_a (l : Launch) (hst : l.stackTraces = false) {D : va_G} {z : ClassId × ClassId} {a : Nat → Nat} {lv lk pu fa he : Nat → Int32} {n : Nat} {nv du ta : Nat → Int32} {w : Nat} {mp mi : Nat → Int32} {k : Nat} {nt fu re : Int32} (x : Int32) (hbad : sp_isP n x = 0) : vx_Met l yX0_fatesOf (ws_ yX0_fatesOf cX0_fatesOf 2 (some .int)) ({ frames := 7, cells := 1, slots := 6, locals := 111 } : Room) (va_Pc [.ref (a 0), .int x] (fun U => xI D z a lv lk pu fa he n nv du ta w mp mi k nt fu re U ∧ tH nA U U.heap)) (va_Qi (fun (_ : Int32) (_ : Unit) => False) (fun _ _ => True) nA) (tX "java/lang/IndexOutOfBoundsException") 1 6 nA := by
  refine vx_ofW (cc := cX0_fatesOf) (maxL := 2) (ret := (some .int)) (by decide) rfl ?_
  intro p e s m args below meth c s₁ B hml hnt hv
  obtain ⟨rfl, ⟨hP, hK⟩, hT⟩ := hv
  have hx := B.exec
  have hb := B.bytes
  have hr := B.returns
  have hts := atoms_spec (ws := ws_ yX0_fatesOf cX0_fatesOf 2 (some .int)) B.pre
  have hts : ∀ w ∈ lw_all, w.before _ s = true := fun w h => hts w (List.mem_cons_of_mem _ h)
  have hown : s.vm.findClass RX0 = some m.cls := findClass_of_methodNamed B.named
  have hlocks := B.notSynchronized
  have hC : CallFix p m c cX0_fatesOf 2 s _ lw_all RX0 := ⟨hx, hb, hml, hown, hts⟩
  have hl := lv_entry ([.ref (a 0), .int x]) (n := 2) (Nat.le_of_ble_eq_true rfl)
  rw [lg_entry_eq]
  generalize (lg_sl ([.ref (a 0), .int x]) ++ List.replicate (2 - (lg_sl ([.ref (a 0), .int x])).length) Slot.unset).toArray = ls at hl ⊢
  have hl : lv_has ls 2 [(0, .ref (a 0)), (1, .int x)] := hl
  refine lv_aload_n hx hb dX0_fatesOf_0 rfl (lv_at hl 0 rfl) ?_
  refine lv_iload_n hx hb dX0_fatesOf_1 rfl (lv_at hl 1 rfl) ?_
  exact kt_X0_requirePerson_a hC hst hnt hlocks hK hP hT hl.1 ⟨Nat.le_of_ble_eq_true rfl, Nat.le_of_ble_eq_true rfl⟩ ⟨Nat.le_of_ble_eq_true rfl, Nat.le_of_ble_eq_true rfl⟩ (Nat.le_of_ble_eq_true rfl) hbad dX0_fatesOf_2
set_option maxHeartbeats 4000000 in
set_option maxRecDepth 100000 in
theorem ct_X0_heirOf_a (l : Launch) (hst : l.stackTraces = false) {D : va_G} {z : ClassId × ClassId} {a : Nat → Nat} {lv lk pu fa he : Nat → Int32} {n : Nat} {nv du ta : Nat → Int32} {w : Nat} {mp mi : Nat → Int32} {k : Nat} {nt fu re : Int32} (x : Int32) (hbad : sp_isP n x = 0) : vx_Met l yX0_heirOf (ws_ yX0_heirOf cX0_heirOf 2 (some .int)) ({ frames := 7, cells := 1, slots := 6, locals := 111 } : Room) (va_Pc [.ref (a 0), .int x] (fun U => xI D z a lv lk pu fa he n nv du ta w mp mi k nt fu re U ∧ tH nA U U.heap)) (va_Qi (fun (_ : Int32) (_ : Unit) => False) (fun _ _ => True) nA) (tX "java/lang/IndexOutOfBoundsException") 1 6 nA := by
  refine vx_ofW (cc := cX0_heirOf) (maxL := 2) (ret := (some .int)) (by decide) rfl ?_
  intro p e s m args below meth c s₁ B hml hnt hv
  obtain ⟨rfl, ⟨hP, hK⟩, hT⟩ := hv
  have hx := B.exec
  have hb := B.bytes
  have hr := B.returns
  have hts := atoms_spec (ws := ws_ yX0_heirOf cX0_heirOf 2 (some .int)) B.pre
  have hts : ∀ w ∈ lw_all, w.before _ s = true := fun w h => hts w (List.mem_cons_of_mem _ h)
  have hown : s.vm.findClass RX0 = some m.cls := findClass_of_methodNamed B.named
  have hlocks := B.notSynchronized
  have hC : CallFix p m c cX0_heirOf 2 s _ lw_all RX0 := ⟨hx, hb, hml, hown, hts⟩
  have hl := lv_entry ([.ref (a 0), .int x]) (n := 2) (Nat.le_of_ble_eq_true rfl)
  rw [lg_entry_eq]
  generalize (lg_sl ([.ref (a 0), .int x]) ++ List.replicate (2 - (lg_sl ([.ref (a 0), .int x])).length) Slot.unset).toArray = ls at hl ⊢
  have hl : lv_has ls 2 [(0, .ref (a 0)), (1, .int x)] := hl
  refine lv_aload_n hx hb dX0_heirOf_0 rfl (lv_at hl 0 rfl) ?_
  refine lv_iload_n hx hb dX0_heirOf_1 rfl (lv_at hl 1 rfl) ?_
  exact kt_X0_requirePerson_a hC hst hnt hlocks hK hP hT hl.1 ⟨Nat.le_of_ble_eq_true rfl, Nat.le_of_ble_eq_true rfl⟩ ⟨Nat.le_of_ble_eq_true rfl, Nat.le_of_ble_eq_true rfl⟩ (Nat.le_of_ble_eq_true rfl) hbad dX0_heirOf_2
set_option maxHeartbeats 4000000 in
set_option maxRecDepth 100000 in
theorem ct_X0_lastHeirOf_a (l : Launch) (hst : l.stackTraces = false) {D : va_G} {z : ClassId × ClassId} {a : Nat → Nat} {lv lk pu fa he : Nat → Int32} {n : Nat} {nv du ta : Nat → Int32} {w : Nat} {mp mi : Nat → Int32} {k : Nat} {nt fu re : Int32} (x : Int32) (hbad : sp_isP n x = 0) : vx_Met l yX0_lastHeirOf (ws_ yX0_lastHeirOf cX0_lastHeirOf 2 (some .int)) ({ frames := 7, cells := 1, slots := 6, locals := 111 } : Room) (va_Pc [.ref (a 0), .int x] (fun U => xI D z a lv lk pu fa he n nv du ta w mp mi k nt fu re U ∧ tH nA U U.heap)) (va_Qi (fun (_ : Int32) (_ : Unit) => False) (fun _ _ => True) nA) (tX "java/lang/IndexOutOfBoundsException") 1 6 nA := by
  refine vx_ofW (cc := cX0_lastHeirOf) (maxL := 2) (ret := (some .int)) (by decide) rfl ?_
  intro p e s m args below meth c s₁ B hml hnt hv
  obtain ⟨rfl, ⟨hP, hK⟩, hT⟩ := hv
  have hx := B.exec
  have hb := B.bytes
  have hr := B.returns
  have hts := atoms_spec (ws := ws_ yX0_lastHeirOf cX0_lastHeirOf 2 (some .int)) B.pre
  have hts : ∀ w ∈ lw_all, w.before _ s = true := fun w h => hts w (List.mem_cons_of_mem _ h)
  have hown : s.vm.findClass RX0 = some m.cls := findClass_of_methodNamed B.named
  have hlocks := B.notSynchronized
  have hC : CallFix p m c cX0_lastHeirOf 2 s _ lw_all RX0 := ⟨hx, hb, hml, hown, hts⟩
  have hl := lv_entry ([.ref (a 0), .int x]) (n := 2) (Nat.le_of_ble_eq_true rfl)
  rw [lg_entry_eq]
  generalize (lg_sl ([.ref (a 0), .int x]) ++ List.replicate (2 - (lg_sl ([.ref (a 0), .int x])).length) Slot.unset).toArray = ls at hl ⊢
  have hl : lv_has ls 2 [(0, .ref (a 0)), (1, .int x)] := hl
  refine lv_aload_n hx hb dX0_lastHeirOf_0 rfl (lv_at hl 0 rfl) ?_
  refine lv_iload_n hx hb dX0_lastHeirOf_1 rfl (lv_at hl 1 rfl) ?_
  exact kt_X0_requirePerson_a hC hst hnt hlocks hK hP hT hl.1 ⟨Nat.le_of_ble_eq_true rfl, Nat.le_of_ble_eq_true rfl⟩ ⟨Nat.le_of_ble_eq_true rfl, Nat.le_of_ble_eq_true rfl⟩ (Nat.le_of_ble_eq_true rfl) hbad dX0_lastHeirOf_2
set_option maxHeartbeats 4000000 in
set_option maxRecDepth 100000 in
theorem ct_X0_priceFor_a (l : Launch) (hst : l.stackTraces = false) {D : va_G} {z : ClassId × ClassId} {a : Nat → Nat} {lv lk pu fa he : Nat → Int32} {n : Nat} {nv du ta : Nat → Int32} {w : Nat} {mp mi : Nat → Int32} {k : Nat} {nt fu re : Int32} (x : Int32) (hbad : sp_isP n x = 0) : vx_Met l yX0_priceFor (ws_ yX0_priceFor cX0_priceFor 2 (some .int)) ({ frames := 7, cells := 1, slots := 6, locals := 111 } : Room) (va_Pc [.ref (a 0), .int x] (fun U => xI D z a lv lk pu fa he n nv du ta w mp mi k nt fu re U ∧ tH nA U U.heap)) (va_Qi (fun (_ : Int32) (_ : Unit) => False) (fun _ _ => True) nA) (tX "java/lang/IndexOutOfBoundsException") 1 6 nA := by
  refine vx_ofW (cc := cX0_priceFor) (maxL := 2) (ret := (some .int)) (by decide) rfl ?_
  intro p e s m args below meth c s₁ B hml hnt hv
  obtain ⟨rfl, ⟨hP, hK⟩, hT⟩ := hv
  have hx := B.exec
  have hb := B.bytes
  have hr := B.returns
  have hts := atoms_spec (ws := ws_ yX0_priceFor cX0_priceFor 2 (some .int)) B.pre
  have hts : ∀ w ∈ lw_all, w.before _ s = true := fun w h => hts w (List.mem_cons_of_mem _ h)
  have hown : s.vm.findClass RX0 = some m.cls := findClass_of_methodNamed B.named
  have hlocks := B.notSynchronized
  have hC : CallFix p m c cX0_priceFor 2 s _ lw_all RX0 := ⟨hx, hb, hml, hown, hts⟩
  have hl := lv_entry ([.ref (a 0), .int x]) (n := 2) (Nat.le_of_ble_eq_true rfl)
  rw [lg_entry_eq]
  generalize (lg_sl ([.ref (a 0), .int x]) ++ List.replicate (2 - (lg_sl ([.ref (a 0), .int x])).length) Slot.unset).toArray = ls at hl ⊢
  have hl : lv_has ls 2 [(0, .ref (a 0)), (1, .int x)] := hl
  refine lv_aload_n hx hb dX0_priceFor_0 rfl (lv_at hl 0 rfl) ?_
  refine lv_iload_n hx hb dX0_priceFor_1 rfl (lv_at hl 1 rfl) ?_
  exact kt_X0_requirePerson_a hC hst hnt hlocks hK hP hT hl.1 ⟨Nat.le_of_ble_eq_true rfl, Nat.le_of_ble_eq_true rfl⟩ ⟨Nat.le_of_ble_eq_true rfl, Nat.le_of_ble_eq_true rfl⟩ (Nat.le_of_ble_eq_true rfl) hbad dX0_priceFor_2
set_option maxHeartbeats 4000000 in
set_option maxRecDepth 100000 in
theorem ct_X0_missesOf_a (l : Launch) (hst : l.stackTraces = false) {D : va_G} {z : ClassId × ClassId} {a : Nat → Nat} {lv lk pu fa he : Nat → Int32} {n : Nat} {nv du ta : Nat → Int32} {w : Nat} {mp mi : Nat → Int32} {k : Nat} {nt fu re : Int32} (x : Int32) (hbad : sp_isP n x = 0) : vx_Met l yX0_missesOf (ws_ yX0_missesOf cX0_missesOf 4 (some .int)) ({ frames := 7, cells := 1, slots := 6, locals := 111 } : Room) (va_Pc [.ref (a 0), .int x] (fun U => xI D z a lv lk pu fa he n nv du ta w mp mi k nt fu re U ∧ tH nA U U.heap)) (va_Qi (fun (_ : Int32) (_ : Unit) => False) (fun _ _ => True) nA) (tX "java/lang/IndexOutOfBoundsException") 1 6 nA := by
  refine vx_ofW (cc := cX0_missesOf) (maxL := 4) (ret := (some .int)) (by decide) rfl ?_
  intro p e s m args below meth c s₁ B hml hnt hv
  obtain ⟨rfl, ⟨hP, hK⟩, hT⟩ := hv
  have hx := B.exec
  have hb := B.bytes
  have hr := B.returns
  have hts := atoms_spec (ws := ws_ yX0_missesOf cX0_missesOf 4 (some .int)) B.pre
  have hts : ∀ w ∈ lw_all, w.before _ s = true := fun w h => hts w (List.mem_cons_of_mem _ h)
  have hown : s.vm.findClass RX0 = some m.cls := findClass_of_methodNamed B.named
  have hlocks := B.notSynchronized
  have hC : CallFix p m c cX0_missesOf 4 s _ lw_all RX0 := ⟨hx, hb, hml, hown, hts⟩
  have hl := lv_entry ([.ref (a 0), .int x]) (n := 4) (Nat.le_of_ble_eq_true rfl)
  rw [lg_entry_eq]
  generalize (lg_sl ([.ref (a 0), .int x]) ++ List.replicate (4 - (lg_sl ([.ref (a 0), .int x])).length) Slot.unset).toArray = ls at hl ⊢
  have hl : lv_has ls 4 [(0, .ref (a 0)), (1, .int x)] := hl
  refine lv_aload_n hx hb dX0_missesOf_0 rfl (lv_at hl 0 rfl) ?_
  refine lv_iload_n hx hb dX0_missesOf_1 rfl (lv_at hl 1 rfl) ?_
  exact kt_X0_requirePerson_a hC hst hnt hlocks hK hP hT hl.1 ⟨Nat.le_of_ble_eq_true rfl, Nat.le_of_ble_eq_true rfl⟩ ⟨Nat.le_of_ble_eq_true rfl, Nat.le_of_ble_eq_true rfl⟩ (Nat.le_of_ble_eq_true rfl) hbad dX0_missesOf_2
set_option maxHeartbeats 4000000 in
set_option maxRecDepth 100000 in
theorem ct_X0_closestOf_a (l : Launch) (hst : l.stackTraces = false) {D : va_G} {z : ClassId × ClassId} {a : Nat → Nat} {lv lk pu fa he : Nat → Int32} {n : Nat} {nv du ta : Nat → Int32} {w : Nat} {mp mi : Nat → Int32} {k : Nat} {nt fu re : Int32} (x : Int32) (hbad : sp_isP n x = 0) : vx_Met l yX0_closestOf (ws_ yX0_closestOf cX0_closestOf 5 (some .int)) ({ frames := 7, cells := 1, slots := 6, locals := 111 } : Room) (va_Pc [.ref (a 0), .int x] (fun U => xI D z a lv lk pu fa he n nv du ta w mp mi k nt fu re U ∧ tH nA U U.heap)) (va_Qi (fun (_ : Int32) (_ : Unit) => False) (fun _ _ => True) nA) (tX "java/lang/IndexOutOfBoundsException") 1 6 nA := by
  refine vx_ofW (cc := cX0_closestOf) (maxL := 5) (ret := (some .int)) (by decide) rfl ?_
  intro p e s m args below meth c s₁ B hml hnt hv
  obtain ⟨rfl, ⟨hP, hK⟩, hT⟩ := hv
  have hx := B.exec
  have hb := B.bytes
  have hr := B.returns
  have hts := atoms_spec (ws := ws_ yX0_closestOf cX0_closestOf 5 (some .int)) B.pre
  have hts : ∀ w ∈ lw_all, w.before _ s = true := fun w h => hts w (List.mem_cons_of_mem _ h)
  have hown : s.vm.findClass RX0 = some m.cls := findClass_of_methodNamed B.named
  have hlocks := B.notSynchronized
  have hC : CallFix p m c cX0_closestOf 5 s _ lw_all RX0 := ⟨hx, hb, hml, hown, hts⟩
  have hl := lv_entry ([.ref (a 0), .int x]) (n := 5) (Nat.le_of_ble_eq_true rfl)
  rw [lg_entry_eq]
  generalize (lg_sl ([.ref (a 0), .int x]) ++ List.replicate (5 - (lg_sl ([.ref (a 0), .int x])).length) Slot.unset).toArray = ls at hl ⊢
  have hl : lv_has ls 5 [(0, .ref (a 0)), (1, .int x)] := hl
  refine lv_aload_n hx hb dX0_closestOf_0 rfl (lv_at hl 0 rfl) ?_
  refine lv_iload_n hx hb dX0_closestOf_1 rfl (lv_at hl 1 rfl) ?_
  exact kt_X0_requirePerson_a hC hst hnt hlocks hK hP hT hl.1 ⟨Nat.le_of_ble_eq_true rfl, Nat.le_of_ble_eq_true rfl⟩ ⟨Nat.le_of_ble_eq_true rfl, Nat.le_of_ble_eq_true rfl⟩ (Nat.le_of_ble_eq_true rfl) hbad dX0_closestOf_2
set_option maxHeartbeats 4000000 in
set_option maxRecDepth 100000 in
theorem ct_X0_nerveOf_a (l : Launch) (hst : l.stackTraces = false) {D : va_G} {z : ClassId × ClassId} {a : Nat → Nat} {lv lk pu fa he : Nat → Int32} {n : Nat} {nv du ta : Nat → Int32} {w : Nat} {mp mi : Nat → Int32} {k : Nat} {nt fu re : Int32} (x : Int32) (hbad : sp_isP w x = 0) : vx_Met l yX0_nerveOf (ws_ yX0_nerveOf cX0_nerveOf 2 (some .int)) ({ frames := 7, cells := 1, slots := 6, locals := 111 } : Room) (va_Pc [.ref (a 0), .int x] (fun U => xI D z a lv lk pu fa he n nv du ta w mp mi k nt fu re U ∧ tH nA U U.heap)) (va_Qi (fun (_ : Int32) (_ : Unit) => False) (fun _ _ => True) nA) (tX "java/lang/IndexOutOfBoundsException") 1 6 nA := by
  refine vx_ofW (cc := cX0_nerveOf) (maxL := 2) (ret := (some .int)) (by decide) rfl ?_
  intro p e s m args below meth c s₁ B hml hnt hv
  obtain ⟨rfl, ⟨hP, hK⟩, hT⟩ := hv
  have hx := B.exec
  have hb := B.bytes
  have hr := B.returns
  have hts := atoms_spec (ws := ws_ yX0_nerveOf cX0_nerveOf 2 (some .int)) B.pre
  have hts : ∀ w ∈ lw_all, w.before _ s = true := fun w h => hts w (List.mem_cons_of_mem _ h)
  have hown : s.vm.findClass RX0 = some m.cls := findClass_of_methodNamed B.named
  have hlocks := B.notSynchronized
  have hC : CallFix p m c cX0_nerveOf 2 s _ lw_all RX0 := ⟨hx, hb, hml, hown, hts⟩
  have hl := lv_entry ([.ref (a 0), .int x]) (n := 2) (Nat.le_of_ble_eq_true rfl)
  rw [lg_entry_eq]
  generalize (lg_sl ([.ref (a 0), .int x]) ++ List.replicate (2 - (lg_sl ([.ref (a 0), .int x])).length) Slot.unset).toArray = ls at hl ⊢
  have hl : lv_has ls 2 [(0, .ref (a 0)), (1, .int x)] := hl
  refine lv_aload_n hx hb dX0_nerveOf_0 rfl (lv_at hl 0 rfl) ?_
  refine lv_iload_n hx hb dX0_nerveOf_1 rfl (lv_at hl 1 rfl) ?_
  exact kt_X0_requireWitness_a hC hst hnt hlocks hK hP hT hl.1 ⟨Nat.le_of_ble_eq_true rfl, Nat.le_of_ble_eq_true rfl⟩ ⟨Nat.le_of_ble_eq_true rfl, Nat.le_of_ble_eq_true rfl⟩ (Nat.le_of_ble_eq_true rfl) hbad dX0_nerveOf_2
set_option maxHeartbeats 4000000 in
set_option maxRecDepth 100000 in
theorem ct_X0_isOnDuty_a (l : Launch) (hst : l.stackTraces = false) {D : va_G} {z : ClassId × ClassId} {a : Nat → Nat} {lv lk pu fa he : Nat → Int32} {n : Nat} {nv du ta : Nat → Int32} {w : Nat} {mp mi : Nat → Int32} {k : Nat} {nt fu re : Int32} (x : Int32) (hbad : sp_isP w x = 0) : vx_Met l yX0_isOnDuty (ws_ yX0_isOnDuty cX0_isOnDuty 2 (some .boolean)) ({ frames := 7, cells := 1, slots := 6, locals := 111 } : Room) (va_Pc [.ref (a 0), .int x] (fun U => xI D z a lv lk pu fa he n nv du ta w mp mi k nt fu re U ∧ tH nA U U.heap)) (va_Qi (fun (_ : Int32) (_ : Unit) => False) (fun _ _ => True) nA) (tX "java/lang/IndexOutOfBoundsException") 1 6 nA := by
  refine vx_ofW (cc := cX0_isOnDuty) (maxL := 2) (ret := (some .boolean)) (by decide) rfl ?_
  intro p e s m args below meth c s₁ B hml hnt hv
  obtain ⟨rfl, ⟨hP, hK⟩, hT⟩ := hv
  have hx := B.exec
  have hb := B.bytes
  have hr := B.returns
  have hts := atoms_spec (ws := ws_ yX0_isOnDuty cX0_isOnDuty 2 (some .boolean)) B.pre
  have hts : ∀ w ∈ lw_all, w.before _ s = true := fun w h => hts w (List.mem_cons_of_mem _ h)
  have hown : s.vm.findClass RX0 = some m.cls := findClass_of_methodNamed B.named
  have hlocks := B.notSynchronized
  have hC : CallFix p m c cX0_isOnDuty 2 s _ lw_all RX0 := ⟨hx, hb, hml, hown, hts⟩
  have hl := lv_entry ([.ref (a 0), .int x]) (n := 2) (Nat.le_of_ble_eq_true rfl)
  rw [lg_entry_eq]
  generalize (lg_sl ([.ref (a 0), .int x]) ++ List.replicate (2 - (lg_sl ([.ref (a 0), .int x])).length) Slot.unset).toArray = ls at hl ⊢
  have hl : lv_has ls 2 [(0, .ref (a 0)), (1, .int x)] := hl
  refine lv_aload_n hx hb dX0_isOnDuty_0 rfl (lv_at hl 0 rfl) ?_
  refine lv_iload_n hx hb dX0_isOnDuty_1 rfl (lv_at hl 1 rfl) ?_
  exact kt_X0_requireWitness_a hC hst hnt hlocks hK hP hT hl.1 ⟨Nat.le_of_ble_eq_true rfl, Nat.le_of_ble_eq_true rfl⟩ ⟨Nat.le_of_ble_eq_true rfl, Nat.le_of_ble_eq_true rfl⟩ (Nat.le_of_ble_eq_true rfl) hbad dX0_isOnDuty_2
set_option maxHeartbeats 4000000 in
set_option maxRecDepth 100000 in
theorem ct_X0_wouldTell_a (l : Launch) (hst : l.stackTraces = false) {D : va_G} {z : ClassId × ClassId} {a : Nat → Nat} {lv lk pu fa he : Nat → Int32} {n : Nat} {nv du ta : Nat → Int32} {w : Nat} {mp mi : Nat → Int32} {k : Nat} {nt fu re : Int32} (x y : Int32) (hbad : sp_isP w x = 0) : vx_Met l yX0_wouldTell (ws_ yX0_wouldTell cX0_wouldTell 3 (some .int)) ({ frames := 7, cells := 1, slots := 6, locals := 111 } : Room) (va_Pc [.ref (a 0), .int x, .int y] (fun U => xI D z a lv lk pu fa he n nv du ta w mp mi k nt fu re U ∧ tH nA U U.heap)) (va_Qi (fun (_ : Int32) (_ : Unit) => False) (fun _ _ => True) nA) (tX "java/lang/IndexOutOfBoundsException") 1 6 nA := by
  refine vx_ofW (cc := cX0_wouldTell) (maxL := 3) (ret := (some .int)) (by decide) rfl ?_
  intro p e s m args below meth c s₁ B hml hnt hv
  obtain ⟨rfl, ⟨hP, hK⟩, hT⟩ := hv
  have hx := B.exec
  have hb := B.bytes
  have hr := B.returns
  have hts := atoms_spec (ws := ws_ yX0_wouldTell cX0_wouldTell 3 (some .int)) B.pre
  have hts : ∀ w ∈ lw_all, w.before _ s = true := fun w h => hts w (List.mem_cons_of_mem _ h)
  have hown : s.vm.findClass RX0 = some m.cls := findClass_of_methodNamed B.named
  have hlocks := B.notSynchronized
  have hC : CallFix p m c cX0_wouldTell 3 s _ lw_all RX0 := ⟨hx, hb, hml, hown, hts⟩
  have hl := lv_entry ([.ref (a 0), .int x, .int y]) (n := 3) (Nat.le_of_ble_eq_true rfl)
  rw [lg_entry_eq]
  generalize (lg_sl ([.ref (a 0), .int x, .int y]) ++ List.replicate (3 - (lg_sl ([.ref (a 0), .int x, .int y])).length) Slot.unset).toArray = ls at hl ⊢
  have hl : lv_has ls 3 [(0, .ref (a 0)), (1, .int x), (2, .int y)] := hl
  refine lv_aload_n hx hb dX0_wouldTell_0 rfl (lv_at hl 0 rfl) ?_
  refine lv_iload_n hx hb dX0_wouldTell_1 rfl (lv_at hl 1 rfl) ?_
  exact kt_X0_requireWitness_a hC hst hnt hlocks hK hP hT hl.1 ⟨Nat.le_of_ble_eq_true rfl, Nat.le_of_ble_eq_true rfl⟩ ⟨Nat.le_of_ble_eq_true rfl, Nat.le_of_ble_eq_true rfl⟩ (Nat.le_of_ble_eq_true rfl) hbad dX0_wouldTell_2
set_option maxHeartbeats 4000000 in
set_option maxRecDepth 100000 in
theorem ct_X0_wouldTell_b (l : Launch) (hst : l.stackTraces = false) {D : va_G} {z : ClassId × ClassId} {a : Nat → Nat} {lv lk pu fa he : Nat → Int32} {n : Nat} {nv du ta : Nat → Int32} {w : Nat} {mp mi : Nat → Int32} {k : Nat} {nt fu re : Int32} (i : Nat) (hi : i < w) (hw : w ≤ 6) (y : Int32) (hbad : y < 1 ∨ ¬ y ≤ 60) : vx_Met l yX0_wouldTell (ws_ yX0_wouldTell cX0_wouldTell 3 (some .int)) ({ frames := 7, cells := 1, slots := 6, locals := 111 } : Room) (va_Pc [.ref (a 0), .int (nI i), .int y] (fun U => xI D z a lv lk pu fa he n nv du ta w mp mi k nt fu re U ∧ tH nA U U.heap)) (va_Qi (fun (_ : Int32) (_ : Unit) => False) (fun _ _ => True) nA) (tX "java/lang/IllegalArgumentException") 1 6 nA := by
  refine vx_ofW (cc := cX0_wouldTell) (maxL := 3) (ret := (some .int)) (by decide) rfl ?_
  intro p e s m args below meth c s₁ B hml hnt hv
  obtain ⟨rfl, ⟨hP, hK⟩, hT⟩ := hv
  have hx := B.exec
  have hb := B.bytes
  have hr := B.returns
  have hts := atoms_spec (ws := ws_ yX0_wouldTell cX0_wouldTell 3 (some .int)) B.pre
  have hts : ∀ w ∈ lw_all, w.before _ s = true := fun w h => hts w (List.mem_cons_of_mem _ h)
  have hown : s.vm.findClass RX0 = some m.cls := findClass_of_methodNamed B.named
  have hlocks := B.notSynchronized
  have hC : CallFix p m c cX0_wouldTell 3 s _ lw_all RX0 := ⟨hx, hb, hml, hown, hts⟩
  have hl := lv_entry ([.ref (a 0), .int (nI i), .int y]) (n := 3) (Nat.le_of_ble_eq_true rfl)
  rw [lg_entry_eq]
  generalize (lg_sl ([.ref (a 0), .int (nI i), .int y]) ++ List.replicate (3 - (lg_sl ([.ref (a 0), .int (nI i), .int y])).length) Slot.unset).toArray = ls at hl ⊢
  have hl : lv_has ls 3 [(0, .ref (a 0)), (1, .int (nI i)), (2, .int y)] := hl
  refine lv_aload_n hx hb dX0_wouldTell_0 rfl (lv_at hl 0 rfl) ?_
  refine lv_iload_n hx hb dX0_wouldTell_1 rfl (lv_at hl 1 rfl) ?_
  refine k_X0_requireWitness hC hK hP hl.1 ⟨Nat.le_of_ble_eq_true rfl, Nat.le_of_ble_eq_true rfl⟩ ⟨Nat.zero_le _, Nat.zero_le _⟩ (Nat.le_of_ble_eq_true rfl) rfl (by first | assumption | omega) (by first | assumption | omega) dX0_wouldTell_2 ?_
  refine lv_aload_n hx hb dX0_wouldTell_5 rfl (lv_at hl 0 rfl) ?_
  refine lv_iload_n hx hb dX0_wouldTell_6 rfl (lv_at hl 2 rfl) ?_
  exact kt_X0_requireInches_a hC hst hnt hlocks hK hP hT hl.1 ⟨Nat.le_of_ble_eq_true rfl, Nat.le_of_ble_eq_true rfl⟩ ⟨Nat.le_of_ble_eq_true rfl, Nat.le_of_ble_eq_true rfl⟩ (Nat.le_of_ble_eq_true rfl) hbad dX0_wouldTell_7
set_option maxHeartbeats 4000000 in
set_option maxRecDepth 100000 in
theorem ct_X0_personOf_a (l : Launch) (hst : l.stackTraces = false) {D : va_G} {z : ClassId × ClassId} {a : Nat → Nat} {lv lk pu fa he : Nat → Int32} {n : Nat} {nv du ta : Nat → Int32} {w : Nat} {mp mi : Nat → Int32} {k : Nat} {nt fu re : Int32} (x : Int32) (hbad : sp_isP k x = 0) : vx_Met l yX0_personOf (ws_ yX0_personOf cX0_personOf 2 (some .int)) ({ frames := 7, cells := 1, slots := 6, locals := 111 } : Room) (va_Pc [.ref (a 0), .int x] (fun U => xI D z a lv lk pu fa he n nv du ta w mp mi k nt fu re U ∧ tH nA U U.heap)) (va_Qi (fun (_ : Int32) (_ : Unit) => False) (fun _ _ => True) nA) (tX "java/lang/IndexOutOfBoundsException") 1 6 nA := by
  refine vx_ofW (cc := cX0_personOf) (maxL := 2) (ret := (some .int)) (by decide) rfl ?_
  intro p e s m args below meth c s₁ B hml hnt hv
  obtain ⟨rfl, ⟨hP, hK⟩, hT⟩ := hv
  have hx := B.exec
  have hb := B.bytes
  have hr := B.returns
  have hts := atoms_spec (ws := ws_ yX0_personOf cX0_personOf 2 (some .int)) B.pre
  have hts : ∀ w ∈ lw_all, w.before _ s = true := fun w h => hts w (List.mem_cons_of_mem _ h)
  have hown : s.vm.findClass RX0 = some m.cls := findClass_of_methodNamed B.named
  have hlocks := B.notSynchronized
  have hC : CallFix p m c cX0_personOf 2 s _ lw_all RX0 := ⟨hx, hb, hml, hown, hts⟩
  have hl := lv_entry ([.ref (a 0), .int x]) (n := 2) (Nat.le_of_ble_eq_true rfl)
  rw [lg_entry_eq]
  generalize (lg_sl ([.ref (a 0), .int x]) ++ List.replicate (2 - (lg_sl ([.ref (a 0), .int x])).length) Slot.unset).toArray = ls at hl ⊢
  have hl : lv_has ls 2 [(0, .ref (a 0)), (1, .int x)] := hl
  refine lv_aload_n hx hb dX0_personOf_0 rfl (lv_at hl 0 rfl) ?_
  refine lv_iload_n hx hb dX0_personOf_1 rfl (lv_at hl 1 rfl) ?_
  exact kt_X0_requireMiss_a hC hst hnt hlocks hK hP hT hl.1 ⟨Nat.le_of_ble_eq_true rfl, Nat.le_of_ble_eq_true rfl⟩ ⟨Nat.le_of_ble_eq_true rfl, Nat.le_of_ble_eq_true rfl⟩ (Nat.le_of_ble_eq_true rfl) hbad dX0_personOf_2
set_option maxHeartbeats 4000000 in
set_option maxRecDepth 100000 in
theorem ct_X0_inchesOf_a (l : Launch) (hst : l.stackTraces = false) {D : va_G} {z : ClassId × ClassId} {a : Nat → Nat} {lv lk pu fa he : Nat → Int32} {n : Nat} {nv du ta : Nat → Int32} {w : Nat} {mp mi : Nat → Int32} {k : Nat} {nt fu re : Int32} (x : Int32) (hbad : sp_isP k x = 0) : vx_Met l yX0_inchesOf (ws_ yX0_inchesOf cX0_inchesOf 2 (some .int)) ({ frames := 7, cells := 1, slots := 6, locals := 111 } : Room) (va_Pc [.ref (a 0), .int x] (fun U => xI D z a lv lk pu fa he n nv du ta w mp mi k nt fu re U ∧ tH nA U U.heap)) (va_Qi (fun (_ : Int32) (_ : Unit) => False) (fun _ _ => True) nA) (tX "java/lang/IndexOutOfBoundsException") 1 6 nA := by
  refine vx_ofW (cc := cX0_inchesOf) (maxL := 2) (ret := (some .int)) (by decide) rfl ?_
  intro p e s m args below meth c s₁ B hml hnt hv
  obtain ⟨rfl, ⟨hP, hK⟩, hT⟩ := hv
  have hx := B.exec
  have hb := B.bytes
  have hr := B.returns
  have hts := atoms_spec (ws := ws_ yX0_inchesOf cX0_inchesOf 2 (some .int)) B.pre
  have hts : ∀ w ∈ lw_all, w.before _ s = true := fun w h => hts w (List.mem_cons_of_mem _ h)
  have hown : s.vm.findClass RX0 = some m.cls := findClass_of_methodNamed B.named
  have hlocks := B.notSynchronized
  have hC : CallFix p m c cX0_inchesOf 2 s _ lw_all RX0 := ⟨hx, hb, hml, hown, hts⟩
  have hl := lv_entry ([.ref (a 0), .int x]) (n := 2) (Nat.le_of_ble_eq_true rfl)
  rw [lg_entry_eq]
  generalize (lg_sl ([.ref (a 0), .int x]) ++ List.replicate (2 - (lg_sl ([.ref (a 0), .int x])).length) Slot.unset).toArray = ls at hl ⊢
  have hl : lv_has ls 2 [(0, .ref (a 0)), (1, .int x)] := hl
  refine lv_aload_n hx hb dX0_inchesOf_0 rfl (lv_at hl 0 rfl) ?_
  refine lv_iload_n hx hb dX0_inchesOf_1 rfl (lv_at hl 1 rfl) ?_
  exact kt_X0_requireMiss_a hC hst hnt hlocks hK hP hT hl.1 ⟨Nat.le_of_ble_eq_true rfl, Nat.le_of_ble_eq_true rfl⟩ ⟨Nat.le_of_ble_eq_true rfl, Nat.le_of_ble_eq_true rfl⟩ (Nat.le_of_ble_eq_true rfl) hbad dX0_inchesOf_2
set_option maxHeartbeats 4000000 in
set_option maxRecDepth 100000 in
theorem ct_X0_sealOf_a (l : Launch) (hst : l.stackTraces = false) {D : va_G} {z : ClassId × ClassId} {a : Nat → Nat} {lv lk pu fa he : Nat → Int32} {n : Nat} {nv du ta : Nat → Int32} {w : Nat} {mp mi : Nat → Int32} {k : Nat} {nt fu re : Int32} (x : Int32) (hbad : sp_isP k x = 0) : vx_Met l yX0_sealOf (ws_ yX0_sealOf cX0_sealOf 2 (some .int)) ({ frames := 7, cells := 1, slots := 6, locals := 111 } : Room) (va_Pc [.ref (a 0), .int x] (fun U => xI D z a lv lk pu fa he n nv du ta w mp mi k nt fu re U ∧ tH nA U U.heap)) (va_Qi (fun (_ : Int32) (_ : Unit) => False) (fun _ _ => True) nA) (tX "java/lang/IndexOutOfBoundsException") 1 6 nA := by
  refine vx_ofW (cc := cX0_sealOf) (maxL := 2) (ret := (some .int)) (by decide) rfl ?_
  intro p e s m args below meth c s₁ B hml hnt hv
  obtain ⟨rfl, ⟨hP, hK⟩, hT⟩ := hv
  have hx := B.exec
  have hb := B.bytes
  have hr := B.returns
  have hts := atoms_spec (ws := ws_ yX0_sealOf cX0_sealOf 2 (some .int)) B.pre
  have hts : ∀ w ∈ lw_all, w.before _ s = true := fun w h => hts w (List.mem_cons_of_mem _ h)
  have hown : s.vm.findClass RX0 = some m.cls := findClass_of_methodNamed B.named
  have hlocks := B.notSynchronized
  have hC : CallFix p m c cX0_sealOf 2 s _ lw_all RX0 := ⟨hx, hb, hml, hown, hts⟩
  have hl := lv_entry ([.ref (a 0), .int x]) (n := 2) (Nat.le_of_ble_eq_true rfl)
  rw [lg_entry_eq]
  generalize (lg_sl ([.ref (a 0), .int x]) ++ List.replicate (2 - (lg_sl ([.ref (a 0), .int x])).length) Slot.unset).toArray = ls at hl ⊢
  have hl : lv_has ls 2 [(0, .ref (a 0)), (1, .int x)] := hl
  refine lv_aload_n hx hb dX0_sealOf_0 rfl (lv_at hl 0 rfl) ?_
  refine lv_iload_n hx hb dX0_sealOf_1 rfl (lv_at hl 1 rfl) ?_
  exact kt_X0_requireMiss_a hC hst hnt hlocks hK hP hT hl.1 ⟨Nat.le_of_ble_eq_true rfl, Nat.le_of_ble_eq_true rfl⟩ ⟨Nat.le_of_ble_eq_true rfl, Nat.le_of_ble_eq_true rfl⟩ (Nat.le_of_ble_eq_true rfl) hbad dX0_sealOf_2
set_option maxHeartbeats 4000000 in
set_option maxRecDepth 100000 in
theorem ct_X0_wouldCertify_a (l : Launch) (hst : l.stackTraces = false) {D : va_G} {z : ClassId × ClassId} {a : Nat → Nat} {lv lk pu fa he : Nat → Int32} {n : Nat} {nv du ta : Nat → Int32} {w : Nat} {mp mi : Nat → Int32} {k : Nat} {nt fu re : Int32} (x : Int32) (hbad : x < 1 ∨ ¬ x ≤ 60) : vx_Met l yX0_wouldCertify (ws_ yX0_wouldCertify cX0_wouldCertify 2 (some .int)) ({ frames := 7, cells := 1, slots := 6, locals := 111 } : Room) (va_Pc [.ref (a 0), .int x] (fun U => xI D z a lv lk pu fa he n nv du ta w mp mi k nt fu re U ∧ tH nA U U.heap)) (va_Qi (fun (_ : Int32) (_ : Unit) => False) (fun _ _ => True) nA) (tX "java/lang/IllegalArgumentException") 1 6 nA := by
  refine vx_ofW (cc := cX0_wouldCertify) (maxL := 2) (ret := (some .int)) (by decide) rfl ?_
  intro p e s m args below meth c s₁ B hml hnt hv
  obtain ⟨rfl, ⟨hP, hK⟩, hT⟩ := hv
  have hx := B.exec
  have hb := B.bytes
  have hr := B.returns
  have hts := atoms_spec (ws := ws_ yX0_wouldCertify cX0_wouldCertify 2 (some .int)) B.pre
  have hts : ∀ w ∈ lw_all, w.before _ s = true := fun w h => hts w (List.mem_cons_of_mem _ h)
  have hown : s.vm.findClass RX0 = some m.cls := findClass_of_methodNamed B.named
  have hlocks := B.notSynchronized
  have hC : CallFix p m c cX0_wouldCertify 2 s _ lw_all RX0 := ⟨hx, hb, hml, hown, hts⟩
  have hl := lv_entry ([.ref (a 0), .int x]) (n := 2) (Nat.le_of_ble_eq_true rfl)
  rw [lg_entry_eq]
  generalize (lg_sl ([.ref (a 0), .int x]) ++ List.replicate (2 - (lg_sl ([.ref (a 0), .int x])).length) Slot.unset).toArray = ls at hl ⊢
  have hl : lv_has ls 2 [(0, .ref (a 0)), (1, .int x)] := hl
  refine lv_aload_n hx hb dX0_wouldCertify_0 rfl (lv_at hl 0 rfl) ?_
  refine lv_iload_n hx hb dX0_wouldCertify_1 rfl (lv_at hl 1 rfl) ?_
  exact kt_X0_requireInches_a hC hst hnt hlocks hK hP hT hl.1 ⟨Nat.le_of_ble_eq_true rfl, Nat.le_of_ble_eq_true rfl⟩ ⟨Nat.le_of_ble_eq_true rfl, Nat.le_of_ble_eq_true rfl⟩ (Nat.le_of_ble_eq_true rfl) hbad dX0_wouldCertify_2
set_option maxHeartbeats 4000000 in
set_option maxRecDepth 100000 in
theorem ct_X0_wouldRefund_a (l : Launch) (hst : l.stackTraces = false) {D : va_G} {z : ClassId × ClassId} {a : Nat → Nat} {lv lk pu fa he : Nat → Int32} {n : Nat} {nv du ta : Nat → Int32} {w : Nat} {mp mi : Nat → Int32} {k : Nat} {nt fu re : Int32} (x y : Int32) (hbad : sp_isP n x = 0) : vx_Met l yX0_wouldRefund (ws_ yX0_wouldRefund cX0_wouldRefund 3 (some .int)) ({ frames := 7, cells := 1, slots := 6, locals := 111 } : Room) (va_Pc [.ref (a 0), .int x, .int y] (fun U => xI D z a lv lk pu fa he n nv du ta w mp mi k nt fu re U ∧ tH nA U U.heap)) (va_Qi (fun (_ : Int32) (_ : Unit) => False) (fun _ _ => True) nA) (tX "java/lang/IndexOutOfBoundsException") 1 6 nA := by
  refine vx_ofW (cc := cX0_wouldRefund) (maxL := 3) (ret := (some .int)) (by decide) rfl ?_
  intro p e s m args below meth c s₁ B hml hnt hv
  obtain ⟨rfl, ⟨hP, hK⟩, hT⟩ := hv
  have hx := B.exec
  have hb := B.bytes
  have hr := B.returns
  have hts := atoms_spec (ws := ws_ yX0_wouldRefund cX0_wouldRefund 3 (some .int)) B.pre
  have hts : ∀ w ∈ lw_all, w.before _ s = true := fun w h => hts w (List.mem_cons_of_mem _ h)
  have hown : s.vm.findClass RX0 = some m.cls := findClass_of_methodNamed B.named
  have hlocks := B.notSynchronized
  have hC : CallFix p m c cX0_wouldRefund 3 s _ lw_all RX0 := ⟨hx, hb, hml, hown, hts⟩
  have hl := lv_entry ([.ref (a 0), .int x, .int y]) (n := 3) (Nat.le_of_ble_eq_true rfl)
  rw [lg_entry_eq]
  generalize (lg_sl ([.ref (a 0), .int x, .int y]) ++ List.replicate (3 - (lg_sl ([.ref (a 0), .int x, .int y])).length) Slot.unset).toArray = ls at hl ⊢
  have hl : lv_has ls 3 [(0, .ref (a 0)), (1, .int x), (2, .int y)] := hl
  refine lv_aload_n hx hb dX0_wouldRefund_0 rfl (lv_at hl 0 rfl) ?_
  refine lv_iload_n hx hb dX0_wouldRefund_1 rfl (lv_at hl 1 rfl) ?_
  exact kt_X0_requirePerson_a hC hst hnt hlocks hK hP hT hl.1 ⟨Nat.le_of_ble_eq_true rfl, Nat.le_of_ble_eq_true rfl⟩ ⟨Nat.le_of_ble_eq_true rfl, Nat.le_of_ble_eq_true rfl⟩ (Nat.le_of_ble_eq_true rfl) hbad dX0_wouldRefund_2
set_option maxHeartbeats 4000000 in
set_option maxRecDepth 100000 in
theorem ct_X0_wouldRefund_b (l : Launch) (hst : l.stackTraces = false) {D : va_G} {z : ClassId × ClassId} {a : Nat → Nat} {lv lk pu fa he : Nat → Int32} {n : Nat} {nv du ta : Nat → Int32} {w : Nat} {mp mi : Nat → Int32} {k : Nat} {nt fu re : Int32} (i : Nat) (hi : i < n) (hn : n ≤ 10) (y : Int32) (hbad : y < 1 ∨ ¬ y ≤ 60) : vx_Met l yX0_wouldRefund (ws_ yX0_wouldRefund cX0_wouldRefund 3 (some .int)) ({ frames := 7, cells := 1, slots := 6, locals := 111 } : Room) (va_Pc [.ref (a 0), .int (nI i), .int y] (fun U => xI D z a lv lk pu fa he n nv du ta w mp mi k nt fu re U ∧ tH nA U U.heap)) (va_Qi (fun (_ : Int32) (_ : Unit) => False) (fun _ _ => True) nA) (tX "java/lang/IllegalArgumentException") 1 6 nA := by
  refine vx_ofW (cc := cX0_wouldRefund) (maxL := 3) (ret := (some .int)) (by decide) rfl ?_
  intro p e s m args below meth c s₁ B hml hnt hv
  obtain ⟨rfl, ⟨hP, hK⟩, hT⟩ := hv
  have hx := B.exec
  have hb := B.bytes
  have hr := B.returns
  have hts := atoms_spec (ws := ws_ yX0_wouldRefund cX0_wouldRefund 3 (some .int)) B.pre
  have hts : ∀ w ∈ lw_all, w.before _ s = true := fun w h => hts w (List.mem_cons_of_mem _ h)
  have hown : s.vm.findClass RX0 = some m.cls := findClass_of_methodNamed B.named
  have hlocks := B.notSynchronized
  have hC : CallFix p m c cX0_wouldRefund 3 s _ lw_all RX0 := ⟨hx, hb, hml, hown, hts⟩
  have hl := lv_entry ([.ref (a 0), .int (nI i), .int y]) (n := 3) (Nat.le_of_ble_eq_true rfl)
  rw [lg_entry_eq]
  generalize (lg_sl ([.ref (a 0), .int (nI i), .int y]) ++ List.replicate (3 - (lg_sl ([.ref (a 0), .int (nI i), .int y])).length) Slot.unset).toArray = ls at hl ⊢
  have hl : lv_has ls 3 [(0, .ref (a 0)), (1, .int (nI i)), (2, .int y)] := hl
  refine lv_aload_n hx hb dX0_wouldRefund_0 rfl (lv_at hl 0 rfl) ?_
  refine lv_iload_n hx hb dX0_wouldRefund_1 rfl (lv_at hl 1 rfl) ?_
  refine k_X0_requirePerson hC hK hP hl.1 ⟨Nat.le_of_ble_eq_true rfl, Nat.le_of_ble_eq_true rfl⟩ ⟨Nat.zero_le _, Nat.zero_le _⟩ (Nat.le_of_ble_eq_true rfl) rfl (by first | assumption | omega) (by first | assumption | omega) dX0_wouldRefund_2 ?_
  refine lv_aload_n hx hb dX0_wouldRefund_5 rfl (lv_at hl 0 rfl) ?_
  refine lv_iload_n hx hb dX0_wouldRefund_6 rfl (lv_at hl 2 rfl) ?_
  exact kt_X0_requireInches_a hC hst hnt hlocks hK hP hT hl.1 ⟨Nat.le_of_ble_eq_true rfl, Nat.le_of_ble_eq_true rfl⟩ ⟨Nat.le_of_ble_eq_true rfl, Nat.le_of_ble_eq_true rfl⟩ (Nat.le_of_ble_eq_true rfl) hbad dX0_wouldRefund_7
set_option maxHeartbeats 4000000 in
set_option maxRecDepth 100000 in
theorem ct_X0_missesUntilShaken_a (l : Launch) (hst : l.stackTraces = false) {D : va_G} {z : ClassId × ClassId} {a : Nat → Nat} {lv lk pu fa he : Nat → Int32} {n : Nat} {nv du ta : Nat → Int32} {w : Nat} {mp mi : Nat → Int32} {k : Nat} {nt fu re : Int32} (x : Int32) (hbad : x < 1 ∨ ¬ x ≤ 60) : vx_Met l yX0_missesUntilShaken (ws_ yX0_missesUntilShaken cX0_missesUntilShaken 5 (some .int)) ({ frames := 7, cells := 1, slots := 6, locals := 111 } : Room) (va_Pc [.ref (a 0), .int x] (fun U => xI D z a lv lk pu fa he n nv du ta w mp mi k nt fu re U ∧ tH nA U U.heap)) (va_Qi (fun (_ : Int32) (_ : Unit) => False) (fun _ _ => True) nA) (tX "java/lang/IllegalArgumentException") 1 6 nA := by
  refine vx_ofW (cc := cX0_missesUntilShaken) (maxL := 5) (ret := (some .int)) (by decide) rfl ?_
  intro p e s m args below meth c s₁ B hml hnt hv
  obtain ⟨rfl, ⟨hP, hK⟩, hT⟩ := hv
  have hx := B.exec
  have hb := B.bytes
  have hr := B.returns
  have hts := atoms_spec (ws := ws_ yX0_missesUntilShaken cX0_missesUntilShaken 5 (some .int)) B.pre
  have hts : ∀ w ∈ lw_all, w.before _ s = true := fun w h => hts w (List.mem_cons_of_mem _ h)
  have hown : s.vm.findClass RX0 = some m.cls := findClass_of_methodNamed B.named
  have hlocks := B.notSynchronized
  have hC : CallFix p m c cX0_missesUntilShaken 5 s _ lw_all RX0 := ⟨hx, hb, hml, hown, hts⟩
  have hl := lv_entry ([.ref (a 0), .int x]) (n := 5) (Nat.le_of_ble_eq_true rfl)
  rw [lg_entry_eq]
  generalize (lg_sl ([.ref (a 0), .int x]) ++ List.replicate (5 - (lg_sl ([.ref (a 0), .int x])).length) Slot.unset).toArray = ls at hl ⊢
  have hl : lv_has ls 5 [(0, .ref (a 0)), (1, .int x)] := hl
  refine lv_aload_n hx hb dX0_missesUntilShaken_0 rfl (lv_at hl 0 rfl) ?_
  refine lv_iload_n hx hb dX0_missesUntilShaken_1 rfl (lv_at hl 1 rfl) ?_
  exact kt_X0_requireInches_a hC hst hnt hlocks hK hP hT hl.1 ⟨Nat.le_of_ble_eq_true rfl, Nat.le_of_ble_eq_true rfl⟩ ⟨Nat.le_of_ble_eq_true rfl, Nat.le_of_ble_eq_true rfl⟩ (Nat.le_of_ble_eq_true rfl) hbad dX0_missesUntilShaken_2

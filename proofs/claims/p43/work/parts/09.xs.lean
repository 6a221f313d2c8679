set_option maxHeartbeats 4000000 in
set_option maxRecDepth 100000 in
theorem c_X0_isPerson (l : Launch) {D : va_G} {z : ClassId × ClassId} {a : Nat → Nat} {lv lk pu fa he : Nat → Int32} {n : Nat} {nv du ta : Nat → Int32} {w : Nat} {mp mi : Nat → Int32} {k : Nat} {nt fu re : Int32} (x : Int32) : Met l yX0_isPerson (ws_ yX0_isPerson cX0_isPerson 2 (some .boolean)) ({ frames := 0, cells := 0, slots := 0, locals := 0 } : Room) (va_Pc [.ref (a 0), .int x] (xI D z a lv lk pu fa he n nv du ta w mp mi k nt fu re)) (vp_Si (fun r : Int32 => r = sp_isP n x)) 0 0 (fun _ => False) := by
  refine Met.ofW (cc := cX0_isPerson) (maxL := 2) (ret := (some .boolean)) (by decide) rfl ?_
  intro p e s m args below meth c s₁ B hml hv
  obtain ⟨rfl, hP, hK⟩ := hv
  have hx := B.exec
  have hb := B.bytes
  have hr := B.returns
  have hts := atoms_spec (ws := ws_ yX0_isPerson cX0_isPerson 2 (some .boolean)) B.pre
  have hts : ∀ w ∈ lw_all, w.before _ s = true := fun w h => hts w (List.mem_cons_of_mem _ h)
  have hown : s.vm.findClass RX0 = some m.cls := findClass_of_methodNamed B.named
  have hlocks := B.notSynchronized
  have hC : CallFix p m c cX0_isPerson 2 s _ lw_all RX0 := ⟨hx, hb, hml, hown, hts⟩
  have hl := lv_entry ([.ref (a 0), .int x]) (n := 2) (Nat.le_of_ble_eq_true rfl)
  rw [lg_entry_eq]
  generalize (lg_sl ([.ref (a 0), .int x]) ++ List.replicate (2 - (lg_sl ([.ref (a 0), .int x])).length) Slot.unset).toArray = ls at hl ⊢
  have hl : lv_has ls 2 [(0, .ref (a 0)), (1, .int x)] := hl
  refine lv_iload_n hx hb dX0_isPerson_0 rfl (lv_at hl 1 rfl) ?_
  refine lv_if_lt (tgt := 16) hx hb dX0_isPerson_1 (by decide) (fun c_1 => ?_) (fun c_1 => ?_)
  · refine lv_iconst (v := 0) hx hb dX0_isPerson_16 (by decide) ?_
    exact W.zret (v := 0) hx hb hr (by decide) (fun t ht hW => ⟨0, rfl, (by simp [sp_isP, c_1]), ht⟩) (fun q hq => absurd hq List.not_mem_nil) dX0_isPerson_17
  · refine lv_iload_n hx hb dX0_isPerson_4 rfl (lv_at hl 1 rfl) ?_
    refine lv_aload_n hx hb dX0_isPerson_5 rfl (lv_at hl 0 rfl) ?_
    refine xg_n hC hK hP dX0_isPerson_6 ?_
    refine lv_icmp_ge (tgt := 16) hx hb dX0_isPerson_9 (by decide) (fun c_9 => ?_) (fun c_9 => ?_)
    · refine lv_iconst (v := 0) hx hb dX0_isPerson_16 (by decide) ?_
      exact W.zret (v := 0) hx hb hr (by decide) (fun t ht hW => ⟨0, rfl, (by simp [sp_isP, c_1, c_9]), ht⟩) (fun q hq => absurd hq List.not_mem_nil) dX0_isPerson_17
    · refine lv_iconst (v := 1) hx hb dX0_isPerson_12 (by decide) ?_
      refine lv_goto (tgt := 17) hx hb dX0_isPerson_13 (by decide) ?_
      exact W.zret (v := 1) hx hb hr (by decide) (fun t ht hW => ⟨1, rfl, (by simp [sp_isP, c_1, c_9]), ht⟩) (fun q hq => absurd hq List.not_mem_nil) dX0_isPerson_17
set_option maxRecDepth 100000 in
theorem k_X0_isPerson {p : Program} {l : Launch} {e : Env} {R : Room} {s : State} {m : MethodId} {args : Array Value} {below : List Frame} {meth : Method} {c : Code} {H : Heap} {locs : List Loc} {cells slots : Nat} {Q : State → Prop} {D : va_G} {z : ClassId × ClassId} {a : Nat → Nat} {lv lk pu fa he : Nat → Int32} {n : Nat} {nv du ta : Nat → Int32} {w : Nat} {mp mi : Nat → Int32} {k : Nat} {nt fu re : Int32} {cc : ByteArray} {nL pc : Nat} {ls : Array Slot} {rest : List Value} (hC : CallFix p m c cc nL s args lw_all RX0) (hK : kK D z s) (hP : va_P D vwCl (xW z a lv lk pu fa he n nv du ta w mp mi k nt fu re) H) (hl : ls.size = nL) (hR : 1 ≤ R.frames ∧ 21 ≤ R.locals) (hz : cells ≤ R.cells ∧ slots ≤ R.slots) (hr : (rest.map fun v => v.category).sum ≤ 8) {x : Int32}   (hdg : decode cc pc = .ok (.invokevirtual 117, 3)) (kk : W p l e R s m args below meth c H locs cells slots Q (F0 m (pc + 3) ls (.int (sp_isP n x) :: rest))) : W p l e R s m args below meth c H locs cells slots Q (F0 m pc ls (.int x :: .ref (a 0) :: rest)) := by
  exact vp_callSi (W.runV (As := [.int x]) (rest := rest) hC (c_X0_isPerson l x) (cwV 1 hC.2.2.2.2 (gi_V mM_X0_117 mV_X0_isPerson mS_X0_isPerson mI_MissRegistry mC_X0_isPerson) rfl rfl rfl (by decide +kernel) hR) (xpre hK hP) rfl rfl hl rfl (lv_room hr) hdg hz) (fun r hr => by rw [hr]; exact kk)
set_option maxHeartbeats 4000000 in
set_option maxRecDepth 100000 in
theorem c_X0_isWitness (l : Launch) {D : va_G} {z : ClassId × ClassId} {a : Nat → Nat} {lv lk pu fa he : Nat → Int32} {n : Nat} {nv du ta : Nat → Int32} {w : Nat} {mp mi : Nat → Int32} {k : Nat} {nt fu re : Int32} (x : Int32) : Met l yX0_isWitness (ws_ yX0_isWitness cX0_isWitness 2 (some .boolean)) ({ frames := 0, cells := 0, slots := 0, locals := 0 } : Room) (va_Pc [.ref (a 0), .int x] (xI D z a lv lk pu fa he n nv du ta w mp mi k nt fu re)) (vp_Si (fun r : Int32 => r = sp_isP w x)) 0 0 (fun _ => False) := by
  refine Met.ofW (cc := cX0_isWitness) (maxL := 2) (ret := (some .boolean)) (by decide) rfl ?_
  intro p e s m args below meth c s₁ B hml hv
  obtain ⟨rfl, hP, hK⟩ := hv
  have hx := B.exec
  have hb := B.bytes
  have hr := B.returns
  have hts := atoms_spec (ws := ws_ yX0_isWitness cX0_isWitness 2 (some .boolean)) B.pre
  have hts : ∀ w ∈ lw_all, w.before _ s = true := fun w h => hts w (List.mem_cons_of_mem _ h)
  have hown : s.vm.findClass RX0 = some m.cls := findClass_of_methodNamed B.named
  have hlocks := B.notSynchronized
  have hC : CallFix p m c cX0_isWitness 2 s _ lw_all RX0 := ⟨hx, hb, hml, hown, hts⟩
  have hl := lv_entry ([.ref (a 0), .int x]) (n := 2) (Nat.le_of_ble_eq_true rfl)
  rw [lg_entry_eq]
  generalize (lg_sl ([.ref (a 0), .int x]) ++ List.replicate (2 - (lg_sl ([.ref (a 0), .int x])).length) Slot.unset).toArray = ls at hl ⊢
  have hl : lv_has ls 2 [(0, .ref (a 0)), (1, .int x)] := hl
  refine lv_iload_n hx hb dX0_isWitness_0 rfl (lv_at hl 1 rfl) ?_
  refine lv_if_lt (tgt := 16) hx hb dX0_isWitness_1 (by decide) (fun c_1 => ?_) (fun c_1 => ?_)
  · refine lv_iconst (v := 0) hx hb dX0_isWitness_16 (by decide) ?_
    exact W.zret (v := 0) hx hb hr (by decide) (fun t ht hW => ⟨0, rfl, (by simp [sp_isP, c_1]), ht⟩) (fun q hq => absurd hq List.not_mem_nil) dX0_isWitness_17
  · refine lv_iload_n hx hb dX0_isWitness_4 rfl (lv_at hl 1 rfl) ?_
    refine lv_aload_n hx hb dX0_isWitness_5 rfl (lv_at hl 0 rfl) ?_
    refine xg_w hC hK hP dX0_isWitness_6 ?_
    refine lv_icmp_ge (tgt := 16) hx hb dX0_isWitness_9 (by decide) (fun c_9 => ?_) (fun c_9 => ?_)
    · refine lv_iconst (v := 0) hx hb dX0_isWitness_16 (by decide) ?_
      exact W.zret (v := 0) hx hb hr (by decide) (fun t ht hW => ⟨0, rfl, (by simp [sp_isP, c_1, c_9]), ht⟩) (fun q hq => absurd hq List.not_mem_nil) dX0_isWitness_17
    · refine lv_iconst (v := 1) hx hb dX0_isWitness_12 (by decide) ?_
      refine lv_goto (tgt := 17) hx hb dX0_isWitness_13 (by decide) ?_
      exact W.zret (v := 1) hx hb hr (by decide) (fun t ht hW => ⟨1, rfl, (by simp [sp_isP, c_1, c_9]), ht⟩) (fun q hq => absurd hq List.not_mem_nil) dX0_isWitness_17
set_option maxRecDepth 100000 in
theorem k_X0_isWitness {p : Program} {l : Launch} {e : Env} {R : Room} {s : State} {m : MethodId} {args : Array Value} {below : List Frame} {meth : Method} {c : Code} {H : Heap} {locs : List Loc} {cells slots : Nat} {Q : State → Prop} {D : va_G} {z : ClassId × ClassId} {a : Nat → Nat} {lv lk pu fa he : Nat → Int32} {n : Nat} {nv du ta : Nat → Int32} {w : Nat} {mp mi : Nat → Int32} {k : Nat} {nt fu re : Int32} {cc : ByteArray} {nL pc : Nat} {ls : Array Slot} {rest : List Value} (hC : CallFix p m c cc nL s args lw_all RX0) (hK : kK D z s) (hP : va_P D vwCl (xW z a lv lk pu fa he n nv du ta w mp mi k nt fu re) H) (hl : ls.size = nL) (hR : 1 ≤ R.frames ∧ 21 ≤ R.locals) (hz : cells ≤ R.cells ∧ slots ≤ R.slots) (hr : (rest.map fun v => v.category).sum ≤ 8) {x : Int32}   (hdg : decode cc pc = .ok (.invokevirtual 157, 3)) (kk : W p l e R s m args below meth c H locs cells slots Q (F0 m (pc + 3) ls (.int (sp_isP w x) :: rest))) : W p l e R s m args below meth c H locs cells slots Q (F0 m pc ls (.int x :: .ref (a 0) :: rest)) := by
  exact vp_callSi (W.runV (As := [.int x]) (rest := rest) hC (c_X0_isWitness l x) (cwV 1 hC.2.2.2.2 (gi_V mM_X0_157 mV_X0_isWitness mS_X0_isWitness mI_MissRegistry mC_X0_isWitness) rfl rfl rfl (by decide +kernel) hR) (xpre hK hP) rfl rfl hl rfl (lv_room hr) hdg hz) (fun r hr => by rw [hr]; exact kk)
set_option maxHeartbeats 4000000 in
set_option maxRecDepth 100000 in
theorem c_X0_isShaken (l : Launch) {D : va_G} {z : ClassId × ClassId} {a : Nat → Nat} {lv lk pu fa he : Nat → Int32} {n : Nat} {nv du ta : Nat → Int32} {w : Nat} {mp mi : Nat → Int32} {k : Nat} {nt fu re : Int32} (i : Nat) (hi : i < 6) : Met l yX0_isShaken (ws_ yX0_isShaken cX0_isShaken 2 (some .boolean)) ({ frames := 0, cells := 0, slots := 0, locals := 0 } : Room) (va_Pc [.ref (a 0), .int (nI i)] (xI D z a lv lk pu fa he n nv du ta w mp mi k nt fu re)) (vp_Si (fun r : Int32 => r = sp_sh (nv i))) 0 0 (fun _ => False) := by
  refine Met.ofW (cc := cX0_isShaken) (maxL := 2) (ret := (some .boolean)) (by decide) rfl ?_
  intro p e s m args below meth c s₁ B hml hv
  obtain ⟨rfl, hP, hK⟩ := hv
  have hx := B.exec
  have hb := B.bytes
  have hr := B.returns
  have hts := atoms_spec (ws := ws_ yX0_isShaken cX0_isShaken 2 (some .boolean)) B.pre
  have hts : ∀ w ∈ lw_all, w.before _ s = true := fun w h => hts w (List.mem_cons_of_mem _ h)
  have hown : s.vm.findClass RX0 = some m.cls := findClass_of_methodNamed B.named
  have hlocks := B.notSynchronized
  have hC : CallFix p m c cX0_isShaken 2 s _ lw_all RX0 := ⟨hx, hb, hml, hown, hts⟩
  have hl := lv_entry ([.ref (a 0), .int (nI i)]) (n := 2) (Nat.le_of_ble_eq_true rfl)
  rw [lg_entry_eq]
  generalize (lg_sl ([.ref (a 0), .int (nI i)]) ++ List.replicate (2 - (lg_sl ([.ref (a 0), .int (nI i)])).length) Slot.unset).toArray = ls at hl ⊢
  have hl : lv_has ls 2 [(0, .ref (a 0)), (1, .int (nI i))] := hl
  refine lv_aload_n hx hb dX0_isShaken_0 rfl (lv_at hl 0 rfl) ?_
  refine xg_nv hC hK hP dX0_isShaken_1 ?_
  refine lv_iload_n hx hb dX0_isShaken_4 rfl (lv_at hl 1 rfl) ?_
  refine xl_nv hC hK hP i rfl (by omega) dX0_isShaken_5 ?_
  refine lv_iconst (v := 2) hx hb dX0_isShaken_6 (by decide) ?_
  refine lv_icmp_gt (tgt := 14) hx hb dX0_isShaken_7 (by decide) (fun c_7 => ?_) (fun c_7 => ?_)
  · refine lv_iconst (v := 0) hx hb dX0_isShaken_14 (by decide) ?_
    exact W.zret (v := 0) hx hb hr (by decide) (fun t ht hW => ⟨0, rfl, (by simp [sp_sh, c_7]), ht⟩) (fun q hq => absurd hq List.not_mem_nil) dX0_isShaken_15
  · refine lv_iconst (v := 1) hx hb dX0_isShaken_10 (by decide) ?_
    refine lv_goto (tgt := 15) hx hb dX0_isShaken_11 (by decide) ?_
    exact W.zret (v := 1) hx hb hr (by decide) (fun t ht hW => ⟨1, rfl, (by simp [sp_sh, c_7]), ht⟩) (fun q hq => absurd hq List.not_mem_nil) dX0_isShaken_15
set_option maxRecDepth 100000 in
theorem k_X0_isShaken {p : Program} {l : Launch} {e : Env} {R : Room} {s : State} {m : MethodId} {args : Array Value} {below : List Frame} {meth : Method} {c : Code} {H : Heap} {locs : List Loc} {cells slots : Nat} {Q : State → Prop} {D : va_G} {z : ClassId × ClassId} {a : Nat → Nat} {lv lk pu fa he : Nat → Int32} {n : Nat} {nv du ta : Nat → Int32} {w : Nat} {mp mi : Nat → Int32} {k : Nat} {nt fu re : Int32} {cc : ByteArray} {nL pc : Nat} {ls : Array Slot} {rest : List Value} (hC : CallFix p m c cc nL s args lw_all RX0) (hK : kK D z s) (hP : va_P D vwCl (xW z a lv lk pu fa he n nv du ta w mp mi k nt fu re) H) (hl : ls.size = nL) (hR : 1 ≤ R.frames ∧ 21 ≤ R.locals) (hz : cells ≤ R.cells ∧ slots ≤ R.slots) (hr : (rest.map fun v => v.category).sum ≤ 8) {i : Nat} {x0 : Int32} (hx0 : x0 = nI i) (hi : i < 6) (hdg : decode cc pc = .ok (.invokevirtual 136, 3)) (kk : W p l e R s m args below meth c H locs cells slots Q (F0 m (pc + 3) ls (.int (sp_sh (nv i)) :: rest))) : W p l e R s m args below meth c H locs cells slots Q (F0 m pc ls (.int x0 :: .ref (a 0) :: rest)) := by
  subst hx0
  exact vp_callSi (W.runV (As := [.int (nI i)]) (rest := rest) hC (c_X0_isShaken l i hi) (cwV 1 hC.2.2.2.2 (gi_V mM_X0_136 mV_X0_isShaken mS_X0_isShaken mI_MissRegistry mC_X0_isShaken) rfl rfl rfl (by decide +kernel) hR) (xpre hK hP) rfl rfl hl rfl (lv_room hr) hdg hz) (fun r hr => by rw [hr]; exact kk)
set_option maxHeartbeats 4000000 in
set_option maxRecDepth 100000 in
theorem c_X0_fatePrice (l : Launch) {D : va_G} {z : ClassId × ClassId} {a : Nat → Nat} {lv lk pu fa he : Nat → Int32} {n : Nat} {nv du ta : Nat → Int32} {w : Nat} {mp mi : Nat → Int32} {k : Nat} {nt fu re : Int32} (i : Nat) (hi : i < 10) : Met l yX0_fatePrice (ws_ yX0_fatePrice cX0_fatePrice 2 (some .int)) ({ frames := 0, cells := 0, slots := 0, locals := 0 } : Room) (va_Pc [.ref (a 0), .int (nI i)] (xI D z a lv lk pu fa he n nv du ta w mp mi k nt fu re)) (vp_Si (fun r : Int32 => r = sp_price (lk i))) 0 0 (fun _ => False) := by
  refine Met.ofW (cc := cX0_fatePrice) (maxL := 2) (ret := (some .int)) (by decide) rfl ?_
  intro p e s m args below meth c s₁ B hml hv
  obtain ⟨rfl, hP, hK⟩ := hv
  have hx := B.exec
  have hb := B.bytes
  have hr := B.returns
  have hts := atoms_spec (ws := ws_ yX0_fatePrice cX0_fatePrice 2 (some .int)) B.pre
  have hts : ∀ w ∈ lw_all, w.before _ s = true := fun w h => hts w (List.mem_cons_of_mem _ h)
  have hown : s.vm.findClass RX0 = some m.cls := findClass_of_methodNamed B.named
  have hlocks := B.notSynchronized
  have hC : CallFix p m c cX0_fatePrice 2 s _ lw_all RX0 := ⟨hx, hb, hml, hown, hts⟩
  have hl := lv_entry ([.ref (a 0), .int (nI i)]) (n := 2) (Nat.le_of_ble_eq_true rfl)
  rw [lg_entry_eq]
  generalize (lg_sl ([.ref (a 0), .int (nI i)]) ++ List.replicate (2 - (lg_sl ([.ref (a 0), .int (nI i)])).length) Slot.unset).toArray = ls at hl ⊢
  have hl : lv_has ls 2 [(0, .ref (a 0)), (1, .int (nI i))] := hl
  refine lv_iconst (v := 5) hx hb dX0_fatePrice_0 (by decide) ?_
  refine lv_bipush (v := 99) hx hb dX0_fatePrice_1 (by decide) ?_
  refine lv_aload_n hx hb dX0_fatePrice_3 rfl (lv_at hl 0 rfl) ?_
  refine xg_lk hC hK hP dX0_fatePrice_4 ?_
  refine lv_iload_n hx hb dX0_fatePrice_7 rfl (lv_at hl 1 rfl) ?_
  refine xl_lk hC hK hP i rfl (by omega) dX0_fatePrice_8 ?_
  refine lv_isub hx hb dX0_fatePrice_9 ?_
  refine lv_bipush (v := 10) hx hb dX0_fatePrice_10 (by decide) ?_
  refine lv_idiv hx hb dX0_fatePrice_12 (by decide) ?_
  refine lv_iadd hx hb dX0_fatePrice_13 ?_
  exact W.iret (v := 5 + ((99 - (lk i)) / 10)) hx hb hr (fun t ht hW => ⟨5 + ((99 - (lk i)) / 10), rfl, (by unfold sp_price; rfl), ht⟩) (fun q hq => absurd hq List.not_mem_nil) dX0_fatePrice_14
set_option maxRecDepth 100000 in
theorem k_X0_fatePrice {p : Program} {l : Launch} {e : Env} {R : Room} {s : State} {m : MethodId} {args : Array Value} {below : List Frame} {meth : Method} {c : Code} {H : Heap} {locs : List Loc} {cells slots : Nat} {Q : State → Prop} {D : va_G} {z : ClassId × ClassId} {a : Nat → Nat} {lv lk pu fa he : Nat → Int32} {n : Nat} {nv du ta : Nat → Int32} {w : Nat} {mp mi : Nat → Int32} {k : Nat} {nt fu re : Int32} {cc : ByteArray} {nL pc : Nat} {ls : Array Slot} {rest : List Value} (hC : CallFix p m c cc nL s args lw_all RX0) (hK : kK D z s) (hP : va_P D vwCl (xW z a lv lk pu fa he n nv du ta w mp mi k nt fu re) H) (hl : ls.size = nL) (hR : 1 ≤ R.frames ∧ 21 ≤ R.locals) (hz : cells ≤ R.cells ∧ slots ≤ R.slots) (hr : (rest.map fun v => v.category).sum ≤ 8) {i : Nat} {x0 : Int32} (hx0 : x0 = nI i) (hi : i < 10) (hdg : decode cc pc = .ok (.invokevirtual 75, 3)) (kk : W p l e R s m args below meth c H locs cells slots Q (F0 m (pc + 3) ls (.int (sp_price (lk i)) :: rest))) : W p l e R s m args below meth c H locs cells slots Q (F0 m pc ls (.int x0 :: .ref (a 0) :: rest)) := by
  subst hx0
  exact vp_callSi (W.runV (As := [.int (nI i)]) (rest := rest) hC (c_X0_fatePrice l i hi) (cwV 1 hC.2.2.2.2 (gi_V mM_X0_75 mV_X0_fatePrice mS_X0_fatePrice mI_MissRegistry mC_X0_fatePrice) rfl rfl rfl (by decide +kernel) hR) (xpre hK hP) rfl rfl hl rfl (lv_room hr) hdg hz) (fun r hr => by rw [hr]; exact kk)
set_option maxHeartbeats 4000000 in
set_option maxRecDepth 100000 in
theorem c_X0_usesFate (l : Launch) {D : va_G} {z : ClassId × ClassId} {a : Nat → Nat} {lv lk pu fa he : Nat → Int32} {n : Nat} {nv du ta : Nat → Int32} {w : Nat} {mp mi : Nat → Int32} {k : Nat} {nt fu re : Int32} (i : Nat) (hi : i < 10) (b : Int32) : Met l yX0_usesFate (ws_ yX0_usesFate cX0_usesFate 3 (some .boolean)) ({ frames := 0, cells := 0, slots := 0, locals := 0 } : Room) (va_Pc [.ref (a 0), .int (nI i), .int b] (xI D z a lv lk pu fa he n nv du ta w mp mi k nt fu re)) (vp_Si (fun r : Int32 => r = sp_uses (lv i) (fa i) b)) 0 0 (fun _ => False) := by
  refine Met.ofW (cc := cX0_usesFate) (maxL := 3) (ret := (some .boolean)) (by decide) rfl ?_
  intro p e s m args below meth c s₁ B hml hv
  obtain ⟨rfl, hP, hK⟩ := hv
  have hx := B.exec
  have hb := B.bytes
  have hr := B.returns
  have hts := atoms_spec (ws := ws_ yX0_usesFate cX0_usesFate 3 (some .boolean)) B.pre
  have hts : ∀ w ∈ lw_all, w.before _ s = true := fun w h => hts w (List.mem_cons_of_mem _ h)
  have hown : s.vm.findClass RX0 = some m.cls := findClass_of_methodNamed B.named
  have hlocks := B.notSynchronized
  have hC : CallFix p m c cX0_usesFate 3 s _ lw_all RX0 := ⟨hx, hb, hml, hown, hts⟩
  have hl := lv_entry ([.ref (a 0), .int (nI i), .int b]) (n := 3) (Nat.le_of_ble_eq_true rfl)
  rw [lg_entry_eq]
  generalize (lg_sl ([.ref (a 0), .int (nI i), .int b]) ++ List.replicate (3 - (lg_sl ([.ref (a 0), .int (nI i), .int b])).length) Slot.unset).toArray = ls at hl ⊢
  have hl : lv_has ls 3 [(0, .ref (a 0)), (1, .int (nI i)), (2, .int b)] := hl
  refine lv_aload_n hx hb dX0_usesFate_0 rfl (lv_at hl 0 rfl) ?_
  refine xg_lv hC hK hP dX0_usesFate_1 ?_
  refine lv_iload_n hx hb dX0_usesFate_4 rfl (lv_at hl 1 rfl) ?_
  refine xl_lv hC hK hP i rfl (by omega) dX0_usesFate_5 ?_
  refine lv_if_eq (tgt := 32) hx hb dX0_usesFate_6 (by decide) (fun c_6 => ?_) (fun c_6 => ?_)
  · refine lv_iconst (v := 0) hx hb dX0_usesFate_32 (by decide) ?_
    exact W.zret (v := 0) hx hb hr (by decide) (fun t ht hW => ⟨0, rfl, (by simp [sp_uses, c_6]), ht⟩) (fun q hq => absurd hq List.not_mem_nil) dX0_usesFate_33
  · refine lv_aload_n hx hb dX0_usesFate_9 rfl (lv_at hl 0 rfl) ?_
    refine xg_fa hC hK hP dX0_usesFate_10 ?_
    refine lv_iload_n hx hb dX0_usesFate_13 rfl (lv_at hl 1 rfl) ?_
    refine xl_fa hC hK hP i rfl (by omega) dX0_usesFate_14 ?_
    refine lv_if_le (tgt := 32) hx hb dX0_usesFate_15 (by decide) (fun c_15 => ?_) (fun c_15 => ?_)
    · refine lv_iconst (v := 0) hx hb dX0_usesFate_32 (by decide) ?_
      exact W.zret (v := 0) hx hb hr (by decide) (fun t ht hW => ⟨0, rfl, (by simp [sp_uses, c_6, c_15]), ht⟩) (fun q hq => absurd hq List.not_mem_nil) dX0_usesFate_33
    · refine lv_iload_n hx hb dX0_usesFate_18 rfl (lv_at hl 2 rfl) ?_
      refine lv_if_le (tgt := 32) hx hb dX0_usesFate_19 (by decide) (fun c_19 => ?_) (fun c_19 => ?_)
      · refine lv_iconst (v := 0) hx hb dX0_usesFate_32 (by decide) ?_
        exact W.zret (v := 0) hx hb hr (by decide) (fun t ht hW => ⟨0, rfl, (by simp [sp_uses, c_6, c_15, c_19]), ht⟩) (fun q hq => absurd hq List.not_mem_nil) dX0_usesFate_33
      · refine lv_iload_n hx hb dX0_usesFate_22 rfl (lv_at hl 2 rfl) ?_
        refine lv_bipush (v := 24) hx hb dX0_usesFate_23 (by decide) ?_
        refine lv_icmp_gt (tgt := 32) hx hb dX0_usesFate_25 (by decide) (fun c_25 => ?_) (fun c_25 => ?_)
        · refine lv_iconst (v := 0) hx hb dX0_usesFate_32 (by decide) ?_
          exact W.zret (v := 0) hx hb hr (by decide) (fun t ht hW => ⟨0, rfl, (by simp [sp_uses, c_6, c_15, c_19, c_25]), ht⟩) (fun q hq => absurd hq List.not_mem_nil) dX0_usesFate_33
        · refine lv_iconst (v := 1) hx hb dX0_usesFate_28 (by decide) ?_
          refine lv_goto (tgt := 33) hx hb dX0_usesFate_29 (by decide) ?_
          exact W.zret (v := 1) hx hb hr (by decide) (fun t ht hW => ⟨1, rfl, (by simp [sp_uses, c_6, c_15, c_19, c_25]), ht⟩) (fun q hq => absurd hq List.not_mem_nil) dX0_usesFate_33
set_option maxRecDepth 100000 in
theorem k_X0_usesFate {p : Program} {l : Launch} {e : Env} {R : Room} {s : State} {m : MethodId} {args : Array Value} {below : List Frame} {meth : Method} {c : Code} {H : Heap} {locs : List Loc} {cells slots : Nat} {Q : State → Prop} {D : va_G} {z : ClassId × ClassId} {a : Nat → Nat} {lv lk pu fa he : Nat → Int32} {n : Nat} {nv du ta : Nat → Int32} {w : Nat} {mp mi : Nat → Int32} {k : Nat} {nt fu re : Int32} {cc : ByteArray} {nL pc : Nat} {ls : Array Slot} {rest : List Value} (hC : CallFix p m c cc nL s args lw_all RX0) (hK : kK D z s) (hP : va_P D vwCl (xW z a lv lk pu fa he n nv du ta w mp mi k nt fu re) H) (hl : ls.size = nL) (hR : 1 ≤ R.frames ∧ 22 ≤ R.locals) (hz : cells ≤ R.cells ∧ slots ≤ R.slots) (hr : (rest.map fun v => v.category).sum ≤ 8) {i : Nat} {b : Int32} {x0 : Int32} (hx0 : x0 = nI i) (hi : i < 10) (hdg : decode cc pc = .ok (.invokevirtual 200, 3)) (kk : W p l e R s m args below meth c H locs cells slots Q (F0 m (pc + 3) ls (.int (sp_uses (lv i) (fa i) b) :: rest))) : W p l e R s m args below meth c H locs cells slots Q (F0 m pc ls (.int b :: .int x0 :: .ref (a 0) :: rest)) := by
  subst hx0
  exact vp_callSi (W.runV (As := [.int (nI i), .int b]) (rest := rest) hC (c_X0_usesFate l i hi b) (cwV 2 hC.2.2.2.2 (gi_V mM_X0_200 mV_X0_usesFate mS_X0_usesFate mI_MissRegistry mC_X0_usesFate) rfl rfl rfl (by decide +kernel) hR) (xpre hK hP) rfl rfl hl rfl (lv_room hr) hdg hz) (fun r hr => by rw [hr]; exact kk)
set_option maxHeartbeats 4000000 in
set_option maxRecDepth 100000 in
theorem c_X0_refundCoins (l : Launch) {D : va_G} {z : ClassId × ClassId} {a : Nat → Nat} {lv lk pu fa he : Nat → Int32} {n : Nat} {nv du ta : Nat → Int32} {w : Nat} {mp mi : Nat → Int32} {k : Nat} {nt fu re : Int32} (i : Nat) (hi : i < 10) (b : Int32) : Met l yX0_refundCoins (ws_ yX0_refundCoins cX0_refundCoins 3 (some .int)) ({ frames := 1, cells := 0, slots := 0, locals := 22 } : Room) (va_Pc [.ref (a 0), .int (nI i), .int b] (xI D z a lv lk pu fa he n nv du ta w mp mi k nt fu re)) (vp_Si (fun r : Int32 => r = sp_coins (lv i) (fa i) (lk i) fu b)) 0 0 (fun _ => False) := by
  refine Met.ofW (cc := cX0_refundCoins) (maxL := 3) (ret := (some .int)) (by decide) rfl ?_
  intro p e s m args below meth c s₁ B hml hv
  obtain ⟨rfl, hP, hK⟩ := hv
  have hx := B.exec
  have hb := B.bytes
  have hr := B.returns
  have hts := atoms_spec (ws := ws_ yX0_refundCoins cX0_refundCoins 3 (some .int)) B.pre
  have hts : ∀ w ∈ lw_all, w.before _ s = true := fun w h => hts w (List.mem_cons_of_mem _ h)
  have hown : s.vm.findClass RX0 = some m.cls := findClass_of_methodNamed B.named
  have hlocks := B.notSynchronized
  have hC : CallFix p m c cX0_refundCoins 3 s _ lw_all RX0 := ⟨hx, hb, hml, hown, hts⟩
  have hl := lv_entry ([.ref (a 0), .int (nI i), .int b]) (n := 3) (Nat.le_of_ble_eq_true rfl)
  rw [lg_entry_eq]
  generalize (lg_sl ([.ref (a 0), .int (nI i), .int b]) ++ List.replicate (3 - (lg_sl ([.ref (a 0), .int (nI i), .int b])).length) Slot.unset).toArray = ls at hl ⊢
  have hl : lv_has ls 3 [(0, .ref (a 0)), (1, .int (nI i)), (2, .int b)] := hl
  refine lv_aload_n hx hb dX0_refundCoins_0 rfl (lv_at hl 0 rfl) ?_
  refine lv_iload_n hx hb dX0_refundCoins_1 rfl (lv_at hl 1 rfl) ?_
  refine lv_iload_n hx hb dX0_refundCoins_2 rfl (lv_at hl 2 rfl) ?_
  refine k_X0_usesFate hC hK hP hl.1 ⟨Nat.le_of_ble_eq_true rfl, Nat.le_of_ble_eq_true rfl⟩ ⟨Nat.zero_le _, Nat.zero_le _⟩ (Nat.le_of_ble_eq_true rfl) rfl (by first | assumption | omega) dX0_refundCoins_3 ?_
  refine lv_if_ne (tgt := 11) hx hb dX0_refundCoins_6 (by decide) (fun c_6 => ?_) (fun c_6 => ?_)
  · refine lv_aload_n hx hb dX0_refundCoins_11 rfl (lv_at hl 0 rfl) ?_
    refine xg_fu hC hK hP dX0_refundCoins_12 ?_
    refine lv_aload_n hx hb dX0_refundCoins_15 rfl (lv_at hl 0 rfl) ?_
    refine lv_iload_n hx hb dX0_refundCoins_16 rfl (lv_at hl 1 rfl) ?_
    refine k_X0_fatePrice hC hK hP hl.1 ⟨Nat.le_of_ble_eq_true rfl, Nat.le_of_ble_eq_true rfl⟩ ⟨Nat.zero_le _, Nat.zero_le _⟩ (Nat.le_of_ble_eq_true rfl) rfl (by first | assumption | omega) dX0_refundCoins_17 ?_
    refine lv_bipush (v := 24) hx hb dX0_refundCoins_20 (by decide) ?_
    refine lv_iadd hx hb dX0_refundCoins_22 ?_
    refine lv_iload_n hx hb dX0_refundCoins_23 rfl (lv_at hl 2 rfl) ?_
    refine lv_isub hx hb dX0_refundCoins_24 ?_
    refine va_mmin hx hb (hml.trans hl.1.symm) hown (hts _ mM_X0_121) (hts _ mT_min) (hts _ mI_Math) (hts _ mC_min) (Nat.le_of_ble_eq_true rfl) (Nat.le_of_ble_eq_true rfl) (Nat.zero_le _) (Nat.zero_le _) dX0_refundCoins_25 ?_
    exact W.iret (v := imin fu (((sp_price (lk i)) + 24) - b)) hx hb hr (fun t ht hW => ⟨imin fu (((sp_price (lk i)) + 24) - b), rfl, (by simp [sp_coins, c_6]), ht⟩) (fun q hq => absurd hq List.not_mem_nil) dX0_refundCoins_28
  · refine lv_iconst (v := 0) hx hb dX0_refundCoins_9 (by decide) ?_
    exact W.iret (v := 0) hx hb hr (fun t ht hW => ⟨0, rfl, (by simp [sp_coins, c_6]), ht⟩) (fun q hq => absurd hq List.not_mem_nil) dX0_refundCoins_10
set_option maxRecDepth 100000 in
theorem k_X0_refundCoins {p : Program} {l : Launch} {e : Env} {R : Room} {s : State} {m : MethodId} {args : Array Value} {below : List Frame} {meth : Method} {c : Code} {H : Heap} {locs : List Loc} {cells slots : Nat} {Q : State → Prop} {D : va_G} {z : ClassId × ClassId} {a : Nat → Nat} {lv lk pu fa he : Nat → Int32} {n : Nat} {nv du ta : Nat → Int32} {w : Nat} {mp mi : Nat → Int32} {k : Nat} {nt fu re : Int32} {cc : ByteArray} {nL pc : Nat} {ls : Array Slot} {rest : List Value} (hC : CallFix p m c cc nL s args lw_all RX0) (hK : kK D z s) (hP : va_P D vwCl (xW z a lv lk pu fa he n nv du ta w mp mi k nt fu re) H) (hl : ls.size = nL) (hR : 2 ≤ R.frames ∧ 44 ≤ R.locals) (hz : cells ≤ R.cells ∧ slots ≤ R.slots) (hr : (rest.map fun v => v.category).sum ≤ 8) {i : Nat} {b : Int32} {x0 : Int32} (hx0 : x0 = nI i) (hi : i < 10) (hdg : decode cc pc = .ok (.invokevirtual 151, 3)) (kk : W p l e R s m args below meth c H locs cells slots Q (F0 m (pc + 3) ls (.int (sp_coins (lv i) (fa i) (lk i) fu b) :: rest))) : W p l e R s m args below meth c H locs cells slots Q (F0 m pc ls (.int b :: .int x0 :: .ref (a 0) :: rest)) := by
  subst hx0
  exact vp_callSi (W.runV (As := [.int (nI i), .int b]) (rest := rest) hC (c_X0_refundCoins l i hi b) (cwV 2 hC.2.2.2.2 (gi_V mM_X0_151 mV_X0_refundCoins mS_X0_refundCoins mI_MissRegistry mC_X0_refundCoins) rfl rfl rfl (by decide +kernel) hR) (xpre hK hP) rfl rfl hl rfl (lv_room hr) hdg hz) (fun r hr => by rw [hr]; exact kk)
set_option maxHeartbeats 4000000 in
set_option maxRecDepth 100000 in
theorem c_X0_nerveLoss (l : Launch) (b : Int32) : Met l yX0_nerveLoss (ws_ yX0_nerveLoss cX0_nerveLoss 1 (some .int)) ({ frames := 0, cells := 0, slots := 0, locals := 0 } : Room) (va_Pc [.int b] (fun _ => True)) (vp_Si (fun r : Int32 => r = sp_loss b)) 0 0 (fun _ => False) := by
  refine Met.ofW (cc := cX0_nerveLoss) (maxL := 1) (ret := (some .int)) (by decide) rfl ?_
  intro p e s m args below meth c s₁ B hml hv
  obtain ⟨rfl, -⟩ := hv
  have hx := B.exec
  have hb := B.bytes
  have hr := B.returns
  have hts := atoms_spec (ws := ws_ yX0_nerveLoss cX0_nerveLoss 1 (some .int)) B.pre
  have hts : ∀ w ∈ lw_all, w.before _ s = true := fun w h => hts w (List.mem_cons_of_mem _ h)
  have hown : s.vm.findClass RX0 = some m.cls := findClass_of_methodNamed B.named
  have hlocks := B.notSynchronized
  have hC : CallFix p m c cX0_nerveLoss 1 s _ lw_all RX0 := ⟨hx, hb, hml, hown, hts⟩
  have hl := lv_entry ([.int b]) (n := 1) (Nat.le_of_ble_eq_true rfl)
  rw [lg_entry_eq]
  generalize (lg_sl ([.int b]) ++ List.replicate (1 - (lg_sl ([.int b])).length) Slot.unset).toArray = ls at hl ⊢
  have hl : lv_has ls 1 [(0, .int b)] := hl
  refine lv_iload_n hx hb dX0_nerveLoss_0 rfl (lv_at hl 0 rfl) ?_
  refine lv_iconst (v := 5) hx hb dX0_nerveLoss_1 (by decide) ?_
  refine lv_icmp_gt (tgt := 7) hx hb dX0_nerveLoss_2 (by decide) (fun c_2 => ?_) (fun c_2 => ?_)
  · refine lv_iload_n hx hb dX0_nerveLoss_7 rfl (lv_at hl 0 rfl) ?_
    refine lv_bipush (v := 12) hx hb dX0_nerveLoss_8 (by decide) ?_
    refine lv_icmp_gt (tgt := 17) hx hb dX0_nerveLoss_10 (by decide) (fun c_10 => ?_) (fun c_10 => ?_)
    · refine lv_iconst (v := 1) hx hb dX0_nerveLoss_17 (by decide) ?_
      exact W.iret (v := 1) hx hb hr (fun t ht hW => ⟨1, rfl, (by simp [sp_loss, c_2, c_10]), ht⟩) (fun q hq => absurd hq List.not_mem_nil) dX0_nerveLoss_18
    · refine lv_iconst (v := 2) hx hb dX0_nerveLoss_13 (by decide) ?_
      refine lv_goto (tgt := 18) hx hb dX0_nerveLoss_14 (by decide) ?_
      exact W.iret (v := 2) hx hb hr (fun t ht hW => ⟨2, rfl, (by simp [sp_loss, c_2, c_10]), ht⟩) (fun q hq => absurd hq List.not_mem_nil) dX0_nerveLoss_18
  · refine lv_iconst (v := 3) hx hb dX0_nerveLoss_5 (by decide) ?_
    exact W.iret (v := 3) hx hb hr (fun t ht hW => ⟨3, rfl, (by simp [sp_loss, c_2]), ht⟩) (fun q hq => absurd hq List.not_mem_nil) dX0_nerveLoss_6
set_option maxRecDepth 100000 in
theorem k_X0_nerveLoss {p : Program} {l : Launch} {e : Env} {R : Room} {s : State} {m : MethodId} {args : Array Value} {below : List Frame} {meth : Method} {c : Code} {H : Heap} {locs : List Loc} {cells slots : Nat} {Q : State → Prop} {cc : ByteArray} {nL pc : Nat} {ls : Array Slot} {rest : List Value} (hC : CallFix p m c cc nL s args lw_all RX0) (hl : ls.size = nL) (hR : 1 ≤ R.frames ∧ 20 ≤ R.locals) (hz : cells ≤ R.cells ∧ slots ≤ R.slots) (hr : (rest.map fun v => v.category).sum ≤ 8) {b : Int32}   (hdg : decode cc pc = .ok (.invokestatic 108, 3)) (kk : W p l e R s m args below meth c H locs cells slots Q (F0 m (pc + 3) ls (.int (sp_loss b) :: rest))) : W p l e R s m args below meth c H locs cells slots Q (F0 m pc ls (.int b :: rest)) := by
  exact vp_callSi (W.runS (As := [.int b]) (rest := rest) hC (c_X0_nerveLoss l b) (va_cwS 1 hC.2.2.2.2 (gi_S mM_X0_108 mT_X0_nerveLoss mI_MissRegistry mC_X0_nerveLoss) rfl rfl rfl (by decide +kernel) hR) ⟨fun _ _ _ _ q => q, fun U hU hW => ⟨rfl, trivial⟩⟩ rfl rfl hl rfl (lv_room hr) hdg hz) (fun r hr => by rw [hr]; exact kk)
set_option maxHeartbeats 4000000 in
set_option maxRecDepth 100000 in
theorem c_X0_nerveGain (l : Launch) (b : Int32) : Met l yX0_nerveGain (ws_ yX0_nerveGain cX0_nerveGain 1 (some .int)) ({ frames := 0, cells := 0, slots := 0, locals := 0 } : Room) (va_Pc [.int b] (fun _ => True)) (vp_Si (fun r : Int32 => r = sp_gain b)) 0 0 (fun _ => False) := by
  refine Met.ofW (cc := cX0_nerveGain) (maxL := 1) (ret := (some .int)) (by decide) rfl ?_
  intro p e s m args below meth c s₁ B hml hv
  obtain ⟨rfl, -⟩ := hv
  have hx := B.exec
  have hb := B.bytes
  have hr := B.returns
  have hts := atoms_spec (ws := ws_ yX0_nerveGain cX0_nerveGain 1 (some .int)) B.pre
  have hts : ∀ w ∈ lw_all, w.before _ s = true := fun w h => hts w (List.mem_cons_of_mem _ h)
  have hown : s.vm.findClass RX0 = some m.cls := findClass_of_methodNamed B.named
  have hlocks := B.notSynchronized
  have hC : CallFix p m c cX0_nerveGain 1 s _ lw_all RX0 := ⟨hx, hb, hml, hown, hts⟩
  have hl := lv_entry ([.int b]) (n := 1) (Nat.le_of_ble_eq_true rfl)
  rw [lg_entry_eq]
  generalize (lg_sl ([.int b]) ++ List.replicate (1 - (lg_sl ([.int b])).length) Slot.unset).toArray = ls at hl ⊢
  have hl : lv_has ls 1 [(0, .int b)] := hl
  refine lv_iload_n hx hb dX0_nerveGain_0 rfl (lv_at hl 0 rfl) ?_
  refine lv_if_eq (tgt := 8) hx hb dX0_nerveGain_1 (by decide) (fun c_1 => ?_) (fun c_1 => ?_)
  · refine lv_iconst (v := 2) hx hb dX0_nerveGain_8 (by decide) ?_
    exact W.iret (v := 2) hx hb hr (fun t ht hW => ⟨2, rfl, (by simp [sp_gain, c_1]), ht⟩) (fun q hq => absurd hq List.not_mem_nil) dX0_nerveGain_9
  · refine lv_iconst (v := 1) hx hb dX0_nerveGain_4 (by decide) ?_
    refine lv_goto (tgt := 9) hx hb dX0_nerveGain_5 (by decide) ?_
    exact W.iret (v := 1) hx hb hr (fun t ht hW => ⟨1, rfl, (by simp [sp_gain, c_1]), ht⟩) (fun q hq => absurd hq List.not_mem_nil) dX0_nerveGain_9
set_option maxRecDepth 100000 in
theorem k_X0_nerveGain {p : Program} {l : Launch} {e : Env} {R : Room} {s : State} {m : MethodId} {args : Array Value} {below : List Frame} {meth : Method} {c : Code} {H : Heap} {locs : List Loc} {cells slots : Nat} {Q : State → Prop} {cc : ByteArray} {nL pc : Nat} {ls : Array Slot} {rest : List Value} (hC : CallFix p m c cc nL s args lw_all RX0) (hl : ls.size = nL) (hR : 1 ≤ R.frames ∧ 20 ≤ R.locals) (hz : cells ≤ R.cells ∧ slots ≤ R.slots) (hr : (rest.map fun v => v.category).sum ≤ 8) {b : Int32}   (hdg : decode cc pc = .ok (.invokestatic 204, 3)) (kk : W p l e R s m args below meth c H locs cells slots Q (F0 m (pc + 3) ls (.int (sp_gain b) :: rest))) : W p l e R s m args below meth c H locs cells slots Q (F0 m pc ls (.int b :: rest)) := by
  exact vp_callSi (W.runS (As := [.int b]) (rest := rest) hC (c_X0_nerveGain l b) (va_cwS 1 hC.2.2.2.2 (gi_S mM_X0_204 mT_X0_nerveGain mI_MissRegistry mC_X0_nerveGain) rfl rfl rfl (by decide +kernel) hR) ⟨fun _ _ _ _ q => q, fun U hU hW => ⟨rfl, trivial⟩⟩ rfl rfl hl rfl (lv_room hr) hdg hz) (fun r hr => by rw [hr]; exact kk)
set_option maxHeartbeats 4000000 in
set_option maxRecDepth 100000 in
theorem c_X0_nightsToCalm (l : Launch) {D : va_G} {z : ClassId × ClassId} {a : Nat → Nat} {lv lk pu fa he : Nat → Int32} {n : Nat} {nv du ta : Nat → Int32} {w : Nat} {mp mi : Nat → Int32} {k : Nat} {nt fu re : Int32} (i : Nat) (hi : i < 6) : Met l yX0_nightsToCalm (ws_ yX0_nightsToCalm cX0_nightsToCalm 4 (some .int)) ({ frames := 1, cells := 0, slots := 0, locals := 20 } : Room) (va_Pc [.ref (a 0), .int (nI i)] (xI D z a lv lk pu fa he n nv du ta w mp mi k nt fu re)) (vp_Si (fun r : Int32 => r = sp_calm (nv i) (du i))) 0 0 (fun _ => False) := by
  refine Met.ofW (cc := cX0_nightsToCalm) (maxL := 4) (ret := (some .int)) (by decide) rfl ?_
  intro p e s m args below meth c s₁ B hml hv
  obtain ⟨rfl, hP, hK⟩ := hv
  have hx := B.exec
  have hb := B.bytes
  have hr := B.returns
  have hts := atoms_spec (ws := ws_ yX0_nightsToCalm cX0_nightsToCalm 4 (some .int)) B.pre
  have hts : ∀ w ∈ lw_all, w.before _ s = true := fun w h => hts w (List.mem_cons_of_mem _ h)
  have hown : s.vm.findClass RX0 = some m.cls := findClass_of_methodNamed B.named
  have hlocks := B.notSynchronized
  have hC : CallFix p m c cX0_nightsToCalm 4 s _ lw_all RX0 := ⟨hx, hb, hml, hown, hts⟩
  have hl := lv_entry ([.ref (a 0), .int (nI i)]) (n := 4) (Nat.le_of_ble_eq_true rfl)
  rw [lg_entry_eq]
  generalize (lg_sl ([.ref (a 0), .int (nI i)]) ++ List.replicate (4 - (lg_sl ([.ref (a 0), .int (nI i)])).length) Slot.unset).toArray = ls at hl ⊢
  have hl : lv_has ls 4 [(0, .ref (a 0)), (1, .int (nI i))] := hl
  refine lv_aload_n hx hb dX0_nightsToCalm_0 rfl (lv_at hl 0 rfl) ?_
  refine xg_du hC hK hP dX0_nightsToCalm_1 ?_
  refine lv_iload_n hx hb dX0_nightsToCalm_4 rfl (lv_at hl 1 rfl) ?_
  refine xl_du hC hK hP i rfl (by omega) dX0_nightsToCalm_5 ?_
  refine k_X0_nerveGain hC hl.1 ⟨Nat.le_of_ble_eq_true rfl, Nat.le_of_ble_eq_true rfl⟩ ⟨Nat.zero_le _, Nat.zero_le _⟩ (Nat.le_of_ble_eq_true rfl)   dX0_nightsToCalm_6 ?_
  refine lv_istore_n (lv' := [(2, .int (sp_gain (du i))), (0, .ref (a 0)), (1, .int (nI i))]) hx hb dX0_nightsToCalm_9 rfl hl (by decide) rfl (fun ls hl => ?_)
  refine lv_iconst (v := 0) hx hb dX0_nightsToCalm_10 (by decide) ?_
  refine lv_istore_n (lv' := [(3, .int 0), (2, .int (sp_gain (du i))), (0, .ref (a 0)), (1, .int (nI i))]) hx hb dX0_nightsToCalm_11 rfl hl (by decide) rfl (fun ls hl => ?_)
  have loop_12 : ∀ (f : Nat) (j : Nat), j ≤ 9 → j + f = 10 → sp_calmN (nv i) (sp_gain (du i)) f j = sp_calmN (nv i) (sp_gain (du i)) 10 0 → ∀ ls : Array Slot, lv_has ls 4 [(0, .ref (a 0)), (1, .int (nI i)), (2, .int (sp_gain (du i))), (3, .int (nI j))] → W p l e ({ frames := 1, cells := 0, slots := 0, locals := 20 } : Room) s m ([.ref (a 0), .int (nI i)] : List Value).toArray below meth c s.heap [] 0 0 (MQ below (vp_Si (fun r : Int32 => r = sp_calm (nv i) (du i))) ([.ref (a 0), .int (nI i)] : List Value).toArray s 0 0 (fun _ => False)) (F0 m 12 ls []) := by
    intro f
    induction f with
    | zero =>
      intro j hj hf er
      exact absurd hf (by omega)
    | succ f ih12 =>
      intro j hj hf er ls hl
      refine lv_iload_n hx hb dX0_nightsToCalm_12 rfl (lv_at hl 3 rfl) ?_
      refine lv_bipush (v := 9) hx hb dX0_nightsToCalm_13 (by decide) ?_
      refine lv_icmp_ge (tgt := 38) hx hb dX0_nightsToCalm_15 (by decide) (fun c_15 => ?_) (fun c_15 => ?_)
      · have nc_15 : 9 ≤ j := nn_le (by omega) c_15
        refine lv_iload_n hx hb dX0_nightsToCalm_38 rfl (lv_at hl 3 rfl) ?_
        exact W.iret (v := nI j) hx hb hr (fun t ht hW => ⟨nI j, rfl, (by unfold sp_calm; rw [← er]; simp [sp_calmN, nc_15]), ht⟩) (fun q hq => absurd hq List.not_mem_nil) dX0_nightsToCalm_39
      · have nc_15 : j < 9 := nn_nle (by omega) c_15
        refine lv_aload_n hx hb dX0_nightsToCalm_18 rfl (lv_at hl 0 rfl) ?_
        refine xg_nv hC hK hP dX0_nightsToCalm_19 ?_
        refine lv_iload_n hx hb dX0_nightsToCalm_22 rfl (lv_at hl 1 rfl) ?_
        refine xl_nv hC hK hP i rfl (by omega) dX0_nightsToCalm_23 ?_
        refine lv_iload_n hx hb dX0_nightsToCalm_24 rfl (lv_at hl 3 rfl) ?_
        refine lv_iload_n hx hb dX0_nightsToCalm_25 rfl (lv_at hl 2 rfl) ?_
        refine lv_imul hx hb dX0_nightsToCalm_26 ?_
        refine lv_iadd hx hb dX0_nightsToCalm_27 ?_
        refine lv_iconst (v := 2) hx hb dX0_nightsToCalm_28 (by decide) ?_
        refine lv_icmp_gt (tgt := 38) hx hb dX0_nightsToCalm_29 (by decide) (fun c_29 => ?_) (fun c_29 => ?_)
        · refine lv_iload_n hx hb dX0_nightsToCalm_38 rfl (lv_at hl 3 rfl) ?_
          exact W.iret (v := nI j) hx hb hr (fun t ht hW => ⟨nI j, rfl, (by unfold sp_calm; rw [← er]; simp [sp_calmN, c_29]), ht⟩) (fun q hq => absurd hq List.not_mem_nil) dX0_nightsToCalm_39
        · refine lv_iinc (v := nI (j + 1)) (lv' := [(3, .int (nI (j + 1))), (0, .ref (a 0)), (1, .int (nI i)), (2, .int (sp_gain (du i)))]) hx hb dX0_nightsToCalm_32 hl (k := 3) rfl (nI_1 _) (by decide) rfl (fun ls hl => ?_)
          refine lv_goto (tgt := 12) hx hb dX0_nightsToCalm_35 (by decide) ?_
          exact ih12 (j + 1) (by omega) (by omega) (by rw [← er]; simp [sp_calmN, c_29, Nat.not_le.mpr nc_15]) _ (lv_sub hl [1, 2, 3, 0] rfl)
  exact loop_12 10 0 (by omega) (by omega) rfl _ (lv_sub hl [2, 3, 1, 0] rfl)
set_option maxRecDepth 100000 in
theorem k_X0_nightsToCalm {p : Program} {l : Launch} {e : Env} {R : Room} {s : State} {m : MethodId} {args : Array Value} {below : List Frame} {meth : Method} {c : Code} {H : Heap} {locs : List Loc} {cells slots : Nat} {Q : State → Prop} {D : va_G} {z : ClassId × ClassId} {a : Nat → Nat} {lv lk pu fa he : Nat → Int32} {n : Nat} {nv du ta : Nat → Int32} {w : Nat} {mp mi : Nat → Int32} {k : Nat} {nt fu re : Int32} {cc : ByteArray} {nL pc : Nat} {ls : Array Slot} {rest : List Value} (hC : CallFix p m c cc nL s args lw_all RX0) (hK : kK D z s) (hP : va_P D vwCl (xW z a lv lk pu fa he n nv du ta w mp mi k nt fu re) H) (hl : ls.size = nL) (hR : 2 ≤ R.frames ∧ 43 ≤ R.locals) (hz : cells ≤ R.cells ∧ slots ≤ R.slots) (hr : (rest.map fun v => v.category).sum ≤ 8) {i : Nat} {x0 : Int32} (hx0 : x0 = nI i) (hi : i < 6) (hdg : decode cc pc = .ok (.invokevirtual 160, 3)) (kk : W p l e R s m args below meth c H locs cells slots Q (F0 m (pc + 3) ls (.int (sp_calm (nv i) (du i)) :: rest))) : W p l e R s m args below meth c H locs cells slots Q (F0 m pc ls (.int x0 :: .ref (a 0) :: rest)) := by
  subst hx0
  exact vp_callSi (W.runV (As := [.int (nI i)]) (rest := rest) hC (c_X0_nightsToCalm l i hi) (cwV 1 hC.2.2.2.2 (gi_V mM_X0_160 mV_X0_nightsToCalm mS_X0_nightsToCalm mI_MissRegistry mC_X0_nightsToCalm) rfl rfl rfl (by decide +kernel) hR) (xpre hK hP) rfl rfl hl rfl (lv_room hr) hdg hz) (fun r hr => by rw [hr]; exact kk)
set_option maxHeartbeats 4000000 in
set_option maxRecDepth 100000 in
theorem c_X0_alive (l : Launch) {D : va_G} {z : ClassId × ClassId} {a : Nat → Nat} {lv lk pu fa he : Nat → Int32} {n : Nat} {nv du ta : Nat → Int32} {w : Nat} {mp mi : Nat → Int32} {k : Nat} {nt fu re : Int32} (hn : n ≤ 10) : Met l yX0_alive (ws_ yX0_alive cX0_alive 3 (some .int)) ({ frames := 0, cells := 0, slots := 0, locals := 0 } : Room) (va_Pc [.ref (a 0)] (xI D z a lv lk pu fa he n nv du ta w mp mi k nt fu re)) (vp_Si (fun r : Int32 => r = sp_cnt lv n)) 0 0 (fun _ => False) := by
  refine Met.ofW (cc := cX0_alive) (maxL := 3) (ret := (some .int)) (by decide) rfl ?_
  intro p e s m args below meth c s₁ B hml hv
  obtain ⟨rfl, hP, hK⟩ := hv
  have hx := B.exec
  have hb := B.bytes
  have hr := B.returns
  have hts := atoms_spec (ws := ws_ yX0_alive cX0_alive 3 (some .int)) B.pre
  have hts : ∀ w ∈ lw_all, w.before _ s = true := fun w h => hts w (List.mem_cons_of_mem _ h)
  have hown : s.vm.findClass RX0 = some m.cls := findClass_of_methodNamed B.named
  have hlocks := B.notSynchronized
  have hC : CallFix p m c cX0_alive 3 s _ lw_all RX0 := ⟨hx, hb, hml, hown, hts⟩
  have hl := lv_entry ([.ref (a 0)]) (n := 3) (Nat.le_of_ble_eq_true rfl)
  rw [lg_entry_eq]
  generalize (lg_sl ([.ref (a 0)]) ++ List.replicate (3 - (lg_sl ([.ref (a 0)])).length) Slot.unset).toArray = ls at hl ⊢
  have hl : lv_has ls 3 [(0, .ref (a 0))] := hl
  refine lv_iconst (v := 0) hx hb dX0_alive_0 (by decide) ?_
  refine lv_istore_n (lv' := [(1, .int 0), (0, .ref (a 0))]) hx hb dX0_alive_1 rfl hl (by decide) rfl (fun ls hl => ?_)
  refine lv_iconst (v := 0) hx hb dX0_alive_2 (by decide) ?_
  refine lv_istore_n (lv' := [(2, .int 0), (1, .int 0), (0, .ref (a 0))]) hx hb dX0_alive_3 rfl hl (by decide) rfl (fun ls hl => ?_)
  have loop_4 : ∀ (f : Nat) (j : Nat) (x : Int32), j ≤ n → n + 1 ≤ j + f → x = sp_cnt lv j → ∀ ls : Array Slot, lv_has ls 3 [(0, .ref (a 0)), (1, .int x), (2, .int (nI j))] → W p l e ({ frames := 0, cells := 0, slots := 0, locals := 0 } : Room) s m ([.ref (a 0)] : List Value).toArray below meth c s.heap [] 0 0 (MQ below (vp_Si (fun r : Int32 => r = sp_cnt lv n)) ([.ref (a 0)] : List Value).toArray s 0 0 (fun _ => False)) (F0 m 4 ls []) := by
    intro f
    induction f with
    | zero =>
      intro j x hj hf ex
      exact absurd hf (by omega)
    | succ f ih4 =>
      intro j x hj hf ex ls hl
      refine lv_iload_n hx hb dX0_alive_4 rfl (lv_at hl 2 rfl) ?_
      refine lv_aload_n hx hb dX0_alive_5 rfl (lv_at hl 0 rfl) ?_
      refine xg_n hC hK hP dX0_alive_6 ?_
      refine lv_icmp_ge (tgt := 30) hx hb dX0_alive_9 (by decide) (fun c_9 => ?_) (fun c_9 => ?_)
      · have nc_9 : n ≤ j := nn_le (by omega) c_9
        refine lv_iload_n hx hb dX0_alive_30 rfl (lv_at hl 1 rfl) ?_
        exact W.iret (v := x) hx hb hr (fun t ht hW => ⟨x, rfl, (by rw [ex, show j = n by omega]), ht⟩) (fun q hq => absurd hq List.not_mem_nil) dX0_alive_31
      · have nc_9 : j < n := nn_nle (by omega) c_9
        refine lv_aload_n hx hb dX0_alive_12 rfl (lv_at hl 0 rfl) ?_
        refine xg_lv hC hK hP dX0_alive_13 ?_
        refine lv_iload_n hx hb dX0_alive_16 rfl (lv_at hl 2 rfl) ?_
        refine xl_lv hC hK hP j rfl (by omega) dX0_alive_17 ?_
        refine lv_if_eq (tgt := 24) hx hb dX0_alive_18 (by decide) (fun c_18 => ?_) (fun c_18 => ?_)
        · refine lv_iinc (v := nI (j + 1)) (lv' := [(2, .int (nI (j + 1))), (0, .ref (a 0)), (1, .int x)]) hx hb dX0_alive_24 hl (k := 2) rfl (nI_1 _) (by decide) rfl (fun ls hl => ?_)
          refine lv_goto (tgt := 4) hx hb dX0_alive_27 (by decide) ?_
          exact ih4 (j + 1) x (by omega) (by omega) (by simp [ex, sp_cnt, c_18]) _ (lv_sub hl [1, 2, 0] rfl)
        · refine lv_iinc (v := x + 1) (lv' := [(1, .int (x + 1)), (0, .ref (a 0)), (2, .int (nI j))]) hx hb dX0_alive_21 hl (k := 1) rfl rfl (by decide) rfl (fun ls hl => ?_)
          refine lv_iinc (v := nI (j + 1)) (lv' := [(2, .int (nI (j + 1))), (1, .int (x + 1)), (0, .ref (a 0))]) hx hb dX0_alive_24 hl (k := 2) rfl (nI_1 _) (by decide) rfl (fun ls hl => ?_)
          refine lv_goto (tgt := 4) hx hb dX0_alive_27 (by decide) ?_
          exact ih4 (j + 1) (x + 1) (by omega) (by omega) (by simp [ex, sp_cnt, c_18]) _ (lv_sub hl [2, 1, 0] rfl)
  exact loop_4 (n + 1) 0 0 (Nat.zero_le _) (by omega) rfl _ (lv_sub hl [2, 1, 0] rfl)
set_option maxHeartbeats 4000000 in
set_option maxRecDepth 100000 in
theorem c_X0_shaken (l : Launch) {D : va_G} {z : ClassId × ClassId} {a : Nat → Nat} {lv lk pu fa he : Nat → Int32} {n : Nat} {nv du ta : Nat → Int32} {w : Nat} {mp mi : Nat → Int32} {k : Nat} {nt fu re : Int32} (hw : w ≤ 6) : Met l yX0_shaken (ws_ yX0_shaken cX0_shaken 3 (some .int)) ({ frames := 1, cells := 0, slots := 0, locals := 21 } : Room) (va_Pc [.ref (a 0)] (xI D z a lv lk pu fa he n nv du ta w mp mi k nt fu re)) (vp_Si (fun r : Int32 => r = sp_shk nv w)) 0 0 (fun _ => False) := by
  refine Met.ofW (cc := cX0_shaken) (maxL := 3) (ret := (some .int)) (by decide) rfl ?_
  intro p e s m args below meth c s₁ B hml hv
  obtain ⟨rfl, hP, hK⟩ := hv
  have hx := B.exec
  have hb := B.bytes
  have hr := B.returns
  have hts := atoms_spec (ws := ws_ yX0_shaken cX0_shaken 3 (some .int)) B.pre
  have hts : ∀ w ∈ lw_all, w.before _ s = true := fun w h => hts w (List.mem_cons_of_mem _ h)
  have hown : s.vm.findClass RX0 = some m.cls := findClass_of_methodNamed B.named
  have hlocks := B.notSynchronized
  have hC : CallFix p m c cX0_shaken 3 s _ lw_all RX0 := ⟨hx, hb, hml, hown, hts⟩
  have hl := lv_entry ([.ref (a 0)]) (n := 3) (Nat.le_of_ble_eq_true rfl)
  rw [lg_entry_eq]
  generalize (lg_sl ([.ref (a 0)]) ++ List.replicate (3 - (lg_sl ([.ref (a 0)])).length) Slot.unset).toArray = ls at hl ⊢
  have hl : lv_has ls 3 [(0, .ref (a 0))] := hl
  refine lv_iconst (v := 0) hx hb dX0_shaken_0 (by decide) ?_
  refine lv_istore_n (lv' := [(1, .int 0), (0, .ref (a 0))]) hx hb dX0_shaken_1 rfl hl (by decide) rfl (fun ls hl => ?_)
  refine lv_iconst (v := 0) hx hb dX0_shaken_2 (by decide) ?_
  refine lv_istore_n (lv' := [(2, .int 0), (1, .int 0), (0, .ref (a 0))]) hx hb dX0_shaken_3 rfl hl (by decide) rfl (fun ls hl => ?_)
  have loop_4 : ∀ (f : Nat) (j : Nat) (x : Int32), j ≤ w → w + 1 ≤ j + f → x = sp_shk nv j → ∀ ls : Array Slot, lv_has ls 3 [(0, .ref (a 0)), (1, .int x), (2, .int (nI j))] → W p l e ({ frames := 1, cells := 0, slots := 0, locals := 21 } : Room) s m ([.ref (a 0)] : List Value).toArray below meth c s.heap [] 0 0 (MQ below (vp_Si (fun r : Int32 => r = sp_shk nv w)) ([.ref (a 0)] : List Value).toArray s 0 0 (fun _ => False)) (F0 m 4 ls []) := by
    intro f
    induction f with
    | zero =>
      intro j x hj hf ex
      exact absurd hf (by omega)
    | succ f ih4 =>
      intro j x hj hf ex ls hl
      refine lv_iload_n hx hb dX0_shaken_4 rfl (lv_at hl 2 rfl) ?_
      refine lv_aload_n hx hb dX0_shaken_5 rfl (lv_at hl 0 rfl) ?_
      refine xg_w hC hK hP dX0_shaken_6 ?_
      refine lv_icmp_ge (tgt := 29) hx hb dX0_shaken_9 (by decide) (fun c_9 => ?_) (fun c_9 => ?_)
      · have nc_9 : w ≤ j := nn_le (by omega) c_9
        refine lv_iload_n hx hb dX0_shaken_29 rfl (lv_at hl 1 rfl) ?_
        exact W.iret (v := x) hx hb hr (fun t ht hW => ⟨x, rfl, (by rw [ex, show j = w by omega]), ht⟩) (fun q hq => absurd hq List.not_mem_nil) dX0_shaken_30
      · have nc_9 : j < w := nn_nle (by omega) c_9
        refine lv_aload_n hx hb dX0_shaken_12 rfl (lv_at hl 0 rfl) ?_
        refine lv_iload_n hx hb dX0_shaken_13 rfl (lv_at hl 2 rfl) ?_
        refine k_X0_isShaken hC hK hP hl.1 ⟨Nat.le_of_ble_eq_true rfl, Nat.le_of_ble_eq_true rfl⟩ ⟨Nat.zero_le _, Nat.zero_le _⟩ (Nat.le_of_ble_eq_true rfl) rfl (by first | assumption | omega) dX0_shaken_14 ?_
        refine lv_if_eq (tgt := 23) hx hb dX0_shaken_17 (by decide) (fun c_17 => ?_) (fun c_17 => ?_)
        · refine lv_iinc (v := nI (j + 1)) (lv' := [(2, .int (nI (j + 1))), (0, .ref (a 0)), (1, .int x)]) hx hb dX0_shaken_23 hl (k := 2) rfl (nI_1 _) (by decide) rfl (fun ls hl => ?_)
          refine lv_goto (tgt := 4) hx hb dX0_shaken_26 (by decide) ?_
          exact ih4 (j + 1) x (by omega) (by omega) (by simp [ex, sp_shk, c_17]) _ (lv_sub hl [1, 2, 0] rfl)
        · refine lv_iinc (v := x + 1) (lv' := [(1, .int (x + 1)), (0, .ref (a 0)), (2, .int (nI j))]) hx hb dX0_shaken_20 hl (k := 1) rfl rfl (by decide) rfl (fun ls hl => ?_)
          refine lv_iinc (v := nI (j + 1)) (lv' := [(2, .int (nI (j + 1))), (1, .int (x + 1)), (0, .ref (a 0))]) hx hb dX0_shaken_23 hl (k := 2) rfl (nI_1 _) (by decide) rfl (fun ls hl => ?_)
          refine lv_goto (tgt := 4) hx hb dX0_shaken_26 (by decide) ?_
          exact ih4 (j + 1) (x + 1) (by omega) (by omega) (by simp [ex, sp_shk, c_17]) _ (lv_sub hl [2, 1, 0] rfl)
  exact loop_4 (w + 1) 0 0 (Nat.zero_le _) (by omega) rfl _ (lv_sub hl [2, 1, 0] rfl)
set_option maxRecDepth 100000 in
theorem k_X0_shaken {p : Program} {l : Launch} {e : Env} {R : Room} {s : State} {m : MethodId} {args : Array Value} {below : List Frame} {meth : Method} {c : Code} {H : Heap} {locs : List Loc} {cells slots : Nat} {Q : State → Prop} {D : va_G} {z : ClassId × ClassId} {a : Nat → Nat} {lv lk pu fa he : Nat → Int32} {n : Nat} {nv du ta : Nat → Int32} {w : Nat} {mp mi : Nat → Int32} {k : Nat} {nt fu re : Int32} {cc : ByteArray} {nL pc : Nat} {ls : Array Slot} {rest : List Value} (hC : CallFix p m c cc nL s args lw_all RX0) (hK : kK D z s) (hP : va_P D vwCl (xW z a lv lk pu fa he n nv du ta w mp mi k nt fu re) H) (hl : ls.size = nL) (hR : 2 ≤ R.frames ∧ 43 ≤ R.locals) (hz : cells ≤ R.cells ∧ slots ≤ R.slots) (hr : (rest.map fun v => v.category).sum ≤ 8)   (hw : w ≤ 6) (hdg : decode cc pc = .ok (.invokevirtual 129, 3)) (kk : W p l e R s m args below meth c H locs cells slots Q (F0 m (pc + 3) ls (.int (sp_shk nv w) :: rest))) : W p l e R s m args below meth c H locs cells slots Q (F0 m pc ls (.ref (a 0) :: rest)) := by
  exact vp_callSi (W.runV (As := []) (rest := rest) hC (c_X0_shaken l hw) (cwV 0 hC.2.2.2.2 (gi_V mM_X0_129 mV_X0_shaken mS_X0_shaken mI_MissRegistry mC_X0_shaken) rfl rfl rfl (by decide +kernel) hR) (xpre hK hP) rfl rfl hl rfl (lv_room hr) hdg hz) (fun r hr => by rw [hr]; exact kk)
set_option maxHeartbeats 4000000 in
set_option maxRecDepth 100000 in
theorem c_X0_certified (l : Launch) {D : va_G} {z : ClassId × ClassId} {a : Nat → Nat} {lv lk pu fa he : Nat → Int32} {n : Nat} {nv du ta : Nat → Int32} {w : Nat} {mp mi : Nat → Int32} {k : Nat} {nt fu re : Int32} (hk : k ≤ 60) : Met l yX0_certified (ws_ yX0_certified cX0_certified 3 (some .int)) ({ frames := 0, cells := 0, slots := 0, locals := 0 } : Room) (va_Pc [.ref (a 0)] (xI D z a lv lk pu fa he n nv du ta w mp mi k nt fu re)) (vp_Si (fun r : Int32 => r = sp_cert mi k)) 0 0 (fun _ => False) := by
  refine Met.ofW (cc := cX0_certified) (maxL := 3) (ret := (some .int)) (by decide) rfl ?_
  intro p e s m args below meth c s₁ B hml hv
  obtain ⟨rfl, hP, hK⟩ := hv
  have hx := B.exec
  have hb := B.bytes
  have hr := B.returns
  have hts := atoms_spec (ws := ws_ yX0_certified cX0_certified 3 (some .int)) B.pre
  have hts : ∀ w ∈ lw_all, w.before _ s = true := fun w h => hts w (List.mem_cons_of_mem _ h)
  have hown : s.vm.findClass RX0 = some m.cls := findClass_of_methodNamed B.named
  have hlocks := B.notSynchronized
  have hC : CallFix p m c cX0_certified 3 s _ lw_all RX0 := ⟨hx, hb, hml, hown, hts⟩
  have hl := lv_entry ([.ref (a 0)]) (n := 3) (Nat.le_of_ble_eq_true rfl)
  rw [lg_entry_eq]
  generalize (lg_sl ([.ref (a 0)]) ++ List.replicate (3 - (lg_sl ([.ref (a 0)])).length) Slot.unset).toArray = ls at hl ⊢
  have hl : lv_has ls 3 [(0, .ref (a 0))] := hl
  refine lv_iconst (v := 0) hx hb dX0_certified_0 (by decide) ?_
  refine lv_istore_n (lv' := [(1, .int 0), (0, .ref (a 0))]) hx hb dX0_certified_1 rfl hl (by decide) rfl (fun ls hl => ?_)
  refine lv_iconst (v := 0) hx hb dX0_certified_2 (by decide) ?_
  refine lv_istore_n (lv' := [(2, .int 0), (1, .int 0), (0, .ref (a 0))]) hx hb dX0_certified_3 rfl hl (by decide) rfl (fun ls hl => ?_)
  have loop_4 : ∀ (f : Nat) (j : Nat) (x : Int32), j ≤ k → k + 1 ≤ j + f → x = sp_cert mi j → ∀ ls : Array Slot, lv_has ls 3 [(0, .ref (a 0)), (1, .int x), (2, .int (nI j))] → W p l e ({ frames := 0, cells := 0, slots := 0, locals := 0 } : Room) s m ([.ref (a 0)] : List Value).toArray below meth c s.heap [] 0 0 (MQ below (vp_Si (fun r : Int32 => r = sp_cert mi k)) ([.ref (a 0)] : List Value).toArray s 0 0 (fun _ => False)) (F0 m 4 ls []) := by
    intro f
    induction f with
    | zero =>
      intro j x hj hf ex
      exact absurd hf (by omega)
    | succ f ih4 =>
      intro j x hj hf ex ls hl
      refine lv_iload_n hx hb dX0_certified_4 rfl (lv_at hl 2 rfl) ?_
      refine lv_aload_n hx hb dX0_certified_5 rfl (lv_at hl 0 rfl) ?_
      refine xg_k hC hK hP dX0_certified_6 ?_
      refine lv_icmp_ge (tgt := 30) hx hb dX0_certified_9 (by decide) (fun c_9 => ?_) (fun c_9 => ?_)
      · have nc_9 : k ≤ j := nn_le (by omega) c_9
        refine lv_iload_n hx hb dX0_certified_30 rfl (lv_at hl 1 rfl) ?_
        exact W.iret (v := x) hx hb hr (fun t ht hW => ⟨x, rfl, (by rw [ex, show j = k by omega]), ht⟩) (fun q hq => absurd hq List.not_mem_nil) dX0_certified_31
      · have nc_9 : j < k := nn_nle (by omega) c_9
        refine lv_aload_n hx hb dX0_certified_12 rfl (lv_at hl 0 rfl) ?_
        refine xg_mi hC hK hP dX0_certified_13 ?_
        refine lv_iload_n hx hb dX0_certified_16 rfl (lv_at hl 2 rfl) ?_
        refine xl_mi hC hK hP j rfl (by omega) dX0_certified_17 ?_
        refine lv_if_le (tgt := 24) hx hb dX0_certified_18 (by decide) (fun c_18 => ?_) (fun c_18 => ?_)
        · refine lv_iinc (v := nI (j + 1)) (lv' := [(2, .int (nI (j + 1))), (0, .ref (a 0)), (1, .int x)]) hx hb dX0_certified_24 hl (k := 2) rfl (nI_1 _) (by decide) rfl (fun ls hl => ?_)
          refine lv_goto (tgt := 4) hx hb dX0_certified_27 (by decide) ?_
          exact ih4 (j + 1) x (by omega) (by omega) (by simp [ex, sp_cert, c_18]) _ (lv_sub hl [1, 2, 0] rfl)
        · refine lv_iinc (v := x + 1) (lv' := [(1, .int (x + 1)), (0, .ref (a 0)), (2, .int (nI j))]) hx hb dX0_certified_21 hl (k := 1) rfl rfl (by decide) rfl (fun ls hl => ?_)
          refine lv_iinc (v := nI (j + 1)) (lv' := [(2, .int (nI (j + 1))), (1, .int (x + 1)), (0, .ref (a 0))]) hx hb dX0_certified_24 hl (k := 2) rfl (nI_1 _) (by decide) rfl (fun ls hl => ?_)
          refine lv_goto (tgt := 4) hx hb dX0_certified_27 (by decide) ?_
          exact ih4 (j + 1) (x + 1) (by omega) (by omega) (by simp [ex, sp_cert, c_18]) _ (lv_sub hl [2, 1, 0] rfl)
  exact loop_4 (k + 1) 0 0 (Nat.zero_le _) (by omega) rfl _ (lv_sub hl [2, 1, 0] rfl)
set_option maxHeartbeats 4000000 in
set_option maxRecDepth 100000 in
theorem c_X0_steadiest (l : Launch) {D : va_G} {z : ClassId × ClassId} {a : Nat → Nat} {lv lk pu fa he : Nat → Int32} {n : Nat} {nv du ta : Nat → Int32} {w : Nat} {mp mi : Nat → Int32} {k : Nat} {nt fu re : Int32} (hw : w ≤ 6) : Met l yX0_steadiest (ws_ yX0_steadiest cX0_steadiest 4 (some .int)) ({ frames := 0, cells := 0, slots := 0, locals := 0 } : Room) (va_Pc [.ref (a 0)] (xI D z a lv lk pu fa he n nv du ta w mp mi k nt fu re)) (vp_Si (fun r : Int32 => r = (sp_best du nv w).1)) 0 0 (fun _ => False) := by
  refine Met.ofW (cc := cX0_steadiest) (maxL := 4) (ret := (some .int)) (by decide) rfl ?_
  intro p e s m args below meth c s₁ B hml hv
  obtain ⟨rfl, hP, hK⟩ := hv
  have hx := B.exec
  have hb := B.bytes
  have hr := B.returns
  have hts := atoms_spec (ws := ws_ yX0_steadiest cX0_steadiest 4 (some .int)) B.pre
  have hts : ∀ w ∈ lw_all, w.before _ s = true := fun w h => hts w (List.mem_cons_of_mem _ h)
  have hown : s.vm.findClass RX0 = some m.cls := findClass_of_methodNamed B.named
  have hlocks := B.notSynchronized
  have hC : CallFix p m c cX0_steadiest 4 s _ lw_all RX0 := ⟨hx, hb, hml, hown, hts⟩
  have hl := lv_entry ([.ref (a 0)]) (n := 4) (Nat.le_of_ble_eq_true rfl)
  rw [lg_entry_eq]
  generalize (lg_sl ([.ref (a 0)]) ++ List.replicate (4 - (lg_sl ([.ref (a 0)])).length) Slot.unset).toArray = ls at hl ⊢
  have hl : lv_has ls 4 [(0, .ref (a 0))] := hl
  refine lv_iconst (v := (-1)) hx hb dX0_steadiest_0 (by decide) ?_
  refine lv_istore_n (lv' := [(1, .int (-1)), (0, .ref (a 0))]) hx hb dX0_steadiest_1 rfl hl (by decide) rfl (fun ls hl => ?_)
  refine lv_iconst (v := (-1)) hx hb dX0_steadiest_2 (by decide) ?_
  refine lv_istore_n (lv' := [(2, .int (-1)), (1, .int (-1)), (0, .ref (a 0))]) hx hb dX0_steadiest_3 rfl hl (by decide) rfl (fun ls hl => ?_)
  refine lv_iconst (v := 0) hx hb dX0_steadiest_4 (by decide) ?_
  refine lv_istore_n (lv' := [(3, .int 0), (2, .int (-1)), (1, .int (-1)), (0, .ref (a 0))]) hx hb dX0_steadiest_5 rfl hl (by decide) rfl (fun ls hl => ?_)
  have loop_6 : ∀ (f : Nat) (j : Nat) (x : Int32) (y : Int32), j ≤ w → w + 1 ≤ j + f → x = (sp_best du nv j).1 → y = (sp_best du nv j).2 → ∀ ls : Array Slot, lv_has ls 4 [(0, .ref (a 0)), (1, .int x), (2, .int y), (3, .int (nI j))] → W p l e ({ frames := 0, cells := 0, slots := 0, locals := 0 } : Room) s m ([.ref (a 0)] : List Value).toArray below meth c s.heap [] 0 0 (MQ below (vp_Si (fun r : Int32 => r = (sp_best du nv w).1)) ([.ref (a 0)] : List Value).toArray s 0 0 (fun _ => False)) (F0 m 6 ls []) := by
    intro f
    induction f with
    | zero =>
      intro j x y hj hf ex ey
      exact absurd hf (by omega)
    | succ f ih6 =>
      intro j x y hj hf ex ey ls hl
      refine lv_iload_n hx hb dX0_steadiest_6 rfl (lv_at hl 3 rfl) ?_
      refine lv_aload_n hx hb dX0_steadiest_7 rfl (lv_at hl 0 rfl) ?_
      refine xg_w hC hK hP dX0_steadiest_8 ?_
      refine lv_icmp_ge (tgt := 48) hx hb dX0_steadiest_11 (by decide) (fun c_11 => ?_) (fun c_11 => ?_)
      · have nc_11 : w ≤ j := nn_le (by omega) c_11
        refine lv_iload_n hx hb dX0_steadiest_48 rfl (lv_at hl 1 rfl) ?_
        exact W.iret (v := x) hx hb hr (fun t ht hW => ⟨x, rfl, (by rw [ex, show j = w by omega]), ht⟩) (fun q hq => absurd hq List.not_mem_nil) dX0_steadiest_49
      · have nc_11 : j < w := nn_nle (by omega) c_11
        refine lv_aload_n hx hb dX0_steadiest_14 rfl (lv_at hl 0 rfl) ?_
        refine xg_du hC hK hP dX0_steadiest_15 ?_
        refine lv_iload_n hx hb dX0_steadiest_18 rfl (lv_at hl 3 rfl) ?_
        refine xl_du hC hK hP j rfl (by omega) dX0_steadiest_19 ?_
        refine lv_if_eq (tgt := 42) hx hb dX0_steadiest_20 (by decide) (fun c_20 => ?_) (fun c_20 => ?_)
        · refine lv_iinc (v := nI (j + 1)) (lv' := [(3, .int (nI (j + 1))), (0, .ref (a 0)), (1, .int x), (2, .int y)]) hx hb dX0_steadiest_42 hl (k := 3) rfl (nI_1 _) (by decide) rfl (fun ls hl => ?_)
          refine lv_goto (tgt := 6) hx hb dX0_steadiest_45 (by decide) ?_
          exact ih6 (j + 1) x y (by omega) (by omega) (by rw [ey] at *; simp [ex, sp_best, c_20]) (by rw [ey] at *; simp [ex, sp_best, c_20]) _ (lv_sub hl [1, 2, 3, 0] rfl)
        · refine lv_aload_n hx hb dX0_steadiest_23 rfl (lv_at hl 0 rfl) ?_
          refine xg_nv hC hK hP dX0_steadiest_24 ?_
          refine lv_iload_n hx hb dX0_steadiest_27 rfl (lv_at hl 3 rfl) ?_
          refine xl_nv hC hK hP j rfl (by omega) dX0_steadiest_28 ?_
          refine lv_iload_n hx hb dX0_steadiest_29 rfl (lv_at hl 2 rfl) ?_
          refine lv_icmp_le (tgt := 42) hx hb dX0_steadiest_30 (by decide) (fun c_30 => ?_) (fun c_30 => ?_)
          · refine lv_iinc (v := nI (j + 1)) (lv' := [(3, .int (nI (j + 1))), (0, .ref (a 0)), (1, .int x), (2, .int y)]) hx hb dX0_steadiest_42 hl (k := 3) rfl (nI_1 _) (by decide) rfl (fun ls hl => ?_)
            refine lv_goto (tgt := 6) hx hb dX0_steadiest_45 (by decide) ?_
            exact ih6 (j + 1) x y (by omega) (by omega) (by rw [ey] at *; simp [ex, sp_best, c_20, c_30]) (by rw [ey] at *; simp [ex, sp_best, c_20, c_30]) _ (lv_sub hl [1, 2, 3, 0] rfl)
          · refine lv_iload_n hx hb dX0_steadiest_33 rfl (lv_at hl 3 rfl) ?_
            refine lv_istore_n (lv' := [(1, .int (nI j)), (0, .ref (a 0)), (2, .int y), (3, .int (nI j))]) hx hb dX0_steadiest_34 rfl hl (by decide) rfl (fun ls hl => ?_)
            refine lv_aload_n hx hb dX0_steadiest_35 rfl (lv_at hl 1 rfl) ?_
            refine xg_nv hC hK hP dX0_steadiest_36 ?_
            refine lv_iload_n hx hb dX0_steadiest_39 rfl (lv_at hl 3 rfl) ?_
            refine xl_nv hC hK hP j rfl (by omega) dX0_steadiest_40 ?_
            refine lv_istore_n (lv' := [(2, .int (nv j)), (1, .int (nI j)), (0, .ref (a 0)), (3, .int (nI j))]) hx hb dX0_steadiest_41 rfl hl (by decide) rfl (fun ls hl => ?_)
            refine lv_iinc (v := nI (j + 1)) (lv' := [(3, .int (nI (j + 1))), (2, .int (nv j)), (1, .int (nI j)), (0, .ref (a 0))]) hx hb dX0_steadiest_42 hl (k := 3) rfl (nI_1 _) (by decide) rfl (fun ls hl => ?_)
            refine lv_goto (tgt := 6) hx hb dX0_steadiest_45 (by decide) ?_
            exact ih6 (j + 1) (nI j) (nv j) (by omega) (by omega) (by rw [ey] at *; simp [ex, sp_best, c_20, c_30]) (by rw [ey] at *; simp [ex, sp_best, c_20, c_30]) _ (lv_sub hl [3, 2, 1, 0] rfl)
  exact loop_6 (w + 1) 0 (-1) (-1) (Nat.zero_le _) (by omega) rfl rfl _ (lv_sub hl [3, 2, 1, 0] rfl)
set_option maxRecDepth 100000 in
theorem k_X0_steadiest {p : Program} {l : Launch} {e : Env} {R : Room} {s : State} {m : MethodId} {args : Array Value} {below : List Frame} {meth : Method} {c : Code} {H : Heap} {locs : List Loc} {cells slots : Nat} {Q : State → Prop} {D : va_G} {z : ClassId × ClassId} {a : Nat → Nat} {lv lk pu fa he : Nat → Int32} {n : Nat} {nv du ta : Nat → Int32} {w : Nat} {mp mi : Nat → Int32} {k : Nat} {nt fu re : Int32} {cc : ByteArray} {nL pc : Nat} {ls : Array Slot} {rest : List Value} (hC : CallFix p m c cc nL s args lw_all RX0) (hK : kK D z s) (hP : va_P D vwCl (xW z a lv lk pu fa he n nv du ta w mp mi k nt fu re) H) (hl : ls.size = nL) (hR : 1 ≤ R.frames ∧ 23 ≤ R.locals) (hz : cells ≤ R.cells ∧ slots ≤ R.slots) (hr : (rest.map fun v => v.category).sum ≤ 8)   (hw : w ≤ 6) (hdg : decode cc pc = .ok (.invokevirtual 154, 3)) (kk : W p l e R s m args below meth c H locs cells slots Q (F0 m (pc + 3) ls (.int ((sp_best du nv w).1) :: rest))) : W p l e R s m args below meth c H locs cells slots Q (F0 m pc ls (.ref (a 0) :: rest)) := by
  exact vp_callSi (W.runV (As := []) (rest := rest) hC (c_X0_steadiest l hw) (cwV 0 hC.2.2.2.2 (gi_V mM_X0_154 mV_X0_steadiest mS_X0_steadiest mI_MissRegistry mC_X0_steadiest) rfl rfl rfl (by decide +kernel) hR) (xpre hK hP) rfl rfl hl rfl (lv_room hr) hdg hz) (fun r hr => by rw [hr]; exact kk)
set_option maxHeartbeats 4000000 in
set_option maxRecDepth 100000 in
theorem c_X0_luckiest (l : Launch) {D : va_G} {z : ClassId × ClassId} {a : Nat → Nat} {lv lk pu fa he : Nat → Int32} {n : Nat} {nv du ta : Nat → Int32} {w : Nat} {mp mi : Nat → Int32} {k : Nat} {nt fu re : Int32} (hn : n ≤ 10) : Met l yX0_luckiest (ws_ yX0_luckiest cX0_luckiest 4 (some .int)) ({ frames := 0, cells := 0, slots := 0, locals := 0 } : Room) (va_Pc [.ref (a 0)] (xI D z a lv lk pu fa he n nv du ta w mp mi k nt fu re)) (vp_Si (fun r : Int32 => r = (sp_best lv lk n).1)) 0 0 (fun _ => False) := by
  refine Met.ofW (cc := cX0_luckiest) (maxL := 4) (ret := (some .int)) (by decide) rfl ?_
  intro p e s m args below meth c s₁ B hml hv
  obtain ⟨rfl, hP, hK⟩ := hv
  have hx := B.exec
  have hb := B.bytes
  have hr := B.returns
  have hts := atoms_spec (ws := ws_ yX0_luckiest cX0_luckiest 4 (some .int)) B.pre
  have hts : ∀ w ∈ lw_all, w.before _ s = true := fun w h => hts w (List.mem_cons_of_mem _ h)
  have hown : s.vm.findClass RX0 = some m.cls := findClass_of_methodNamed B.named
  have hlocks := B.notSynchronized
  have hC : CallFix p m c cX0_luckiest 4 s _ lw_all RX0 := ⟨hx, hb, hml, hown, hts⟩
  have hl := lv_entry ([.ref (a 0)]) (n := 4) (Nat.le_of_ble_eq_true rfl)
  rw [lg_entry_eq]
  generalize (lg_sl ([.ref (a 0)]) ++ List.replicate (4 - (lg_sl ([.ref (a 0)])).length) Slot.unset).toArray = ls at hl ⊢
  have hl : lv_has ls 4 [(0, .ref (a 0))] := hl
  refine lv_iconst (v := (-1)) hx hb dX0_luckiest_0 (by decide) ?_
  refine lv_istore_n (lv' := [(1, .int (-1)), (0, .ref (a 0))]) hx hb dX0_luckiest_1 rfl hl (by decide) rfl (fun ls hl => ?_)
  refine lv_iconst (v := (-1)) hx hb dX0_luckiest_2 (by decide) ?_
  refine lv_istore_n (lv' := [(2, .int (-1)), (1, .int (-1)), (0, .ref (a 0))]) hx hb dX0_luckiest_3 rfl hl (by decide) rfl (fun ls hl => ?_)
  refine lv_iconst (v := 0) hx hb dX0_luckiest_4 (by decide) ?_
  refine lv_istore_n (lv' := [(3, .int 0), (2, .int (-1)), (1, .int (-1)), (0, .ref (a 0))]) hx hb dX0_luckiest_5 rfl hl (by decide) rfl (fun ls hl => ?_)
  have loop_6 : ∀ (f : Nat) (j : Nat) (x : Int32) (y : Int32), j ≤ n → n + 1 ≤ j + f → x = (sp_best lv lk j).1 → y = (sp_best lv lk j).2 → ∀ ls : Array Slot, lv_has ls 4 [(0, .ref (a 0)), (1, .int x), (2, .int y), (3, .int (nI j))] → W p l e ({ frames := 0, cells := 0, slots := 0, locals := 0 } : Room) s m ([.ref (a 0)] : List Value).toArray below meth c s.heap [] 0 0 (MQ below (vp_Si (fun r : Int32 => r = (sp_best lv lk n).1)) ([.ref (a 0)] : List Value).toArray s 0 0 (fun _ => False)) (F0 m 6 ls []) := by
    intro f
    induction f with
    | zero =>
      intro j x y hj hf ex ey
      exact absurd hf (by omega)
    | succ f ih6 =>
      intro j x y hj hf ex ey ls hl
      refine lv_iload_n hx hb dX0_luckiest_6 rfl (lv_at hl 3 rfl) ?_
      refine lv_aload_n hx hb dX0_luckiest_7 rfl (lv_at hl 0 rfl) ?_
      refine xg_n hC hK hP dX0_luckiest_8 ?_
      refine lv_icmp_ge (tgt := 48) hx hb dX0_luckiest_11 (by decide) (fun c_11 => ?_) (fun c_11 => ?_)
      · have nc_11 : n ≤ j := nn_le (by omega) c_11
        refine lv_iload_n hx hb dX0_luckiest_48 rfl (lv_at hl 1 rfl) ?_
        exact W.iret (v := x) hx hb hr (fun t ht hW => ⟨x, rfl, (by rw [ex, show j = n by omega]), ht⟩) (fun q hq => absurd hq List.not_mem_nil) dX0_luckiest_49
      · have nc_11 : j < n := nn_nle (by omega) c_11
        refine lv_aload_n hx hb dX0_luckiest_14 rfl (lv_at hl 0 rfl) ?_
        refine xg_lv hC hK hP dX0_luckiest_15 ?_
        refine lv_iload_n hx hb dX0_luckiest_18 rfl (lv_at hl 3 rfl) ?_
        refine xl_lv hC hK hP j rfl (by omega) dX0_luckiest_19 ?_
        refine lv_if_eq (tgt := 42) hx hb dX0_luckiest_20 (by decide) (fun c_20 => ?_) (fun c_20 => ?_)
        · refine lv_iinc (v := nI (j + 1)) (lv' := [(3, .int (nI (j + 1))), (0, .ref (a 0)), (1, .int x), (2, .int y)]) hx hb dX0_luckiest_42 hl (k := 3) rfl (nI_1 _) (by decide) rfl (fun ls hl => ?_)
          refine lv_goto (tgt := 6) hx hb dX0_luckiest_45 (by decide) ?_
          exact ih6 (j + 1) x y (by omega) (by omega) (by rw [ey] at *; simp [ex, sp_best, c_20]) (by rw [ey] at *; simp [ex, sp_best, c_20]) _ (lv_sub hl [1, 2, 3, 0] rfl)
        · refine lv_aload_n hx hb dX0_luckiest_23 rfl (lv_at hl 0 rfl) ?_
          refine xg_lk hC hK hP dX0_luckiest_24 ?_
          refine lv_iload_n hx hb dX0_luckiest_27 rfl (lv_at hl 3 rfl) ?_
          refine xl_lk hC hK hP j rfl (by omega) dX0_luckiest_28 ?_
          refine lv_iload_n hx hb dX0_luckiest_29 rfl (lv_at hl 2 rfl) ?_
          refine lv_icmp_le (tgt := 42) hx hb dX0_luckiest_30 (by decide) (fun c_30 => ?_) (fun c_30 => ?_)
          · refine lv_iinc (v := nI (j + 1)) (lv' := [(3, .int (nI (j + 1))), (0, .ref (a 0)), (1, .int x), (2, .int y)]) hx hb dX0_luckiest_42 hl (k := 3) rfl (nI_1 _) (by decide) rfl (fun ls hl => ?_)
            refine lv_goto (tgt := 6) hx hb dX0_luckiest_45 (by decide) ?_
            exact ih6 (j + 1) x y (by omega) (by omega) (by rw [ey] at *; simp [ex, sp_best, c_20, c_30]) (by rw [ey] at *; simp [ex, sp_best, c_20, c_30]) _ (lv_sub hl [1, 2, 3, 0] rfl)
          · refine lv_iload_n hx hb dX0_luckiest_33 rfl (lv_at hl 3 rfl) ?_
            refine lv_istore_n (lv' := [(1, .int (nI j)), (0, .ref (a 0)), (2, .int y), (3, .int (nI j))]) hx hb dX0_luckiest_34 rfl hl (by decide) rfl (fun ls hl => ?_)
            refine lv_aload_n hx hb dX0_luckiest_35 rfl (lv_at hl 1 rfl) ?_
            refine xg_lk hC hK hP dX0_luckiest_36 ?_
            refine lv_iload_n hx hb dX0_luckiest_39 rfl (lv_at hl 3 rfl) ?_
            refine xl_lk hC hK hP j rfl (by omega) dX0_luckiest_40 ?_
            refine lv_istore_n (lv' := [(2, .int (lk j)), (1, .int (nI j)), (0, .ref (a 0)), (3, .int (nI j))]) hx hb dX0_luckiest_41 rfl hl (by decide) rfl (fun ls hl => ?_)
            refine lv_iinc (v := nI (j + 1)) (lv' := [(3, .int (nI (j + 1))), (2, .int (lk j)), (1, .int (nI j)), (0, .ref (a 0))]) hx hb dX0_luckiest_42 hl (k := 3) rfl (nI_1 _) (by decide) rfl (fun ls hl => ?_)
            refine lv_goto (tgt := 6) hx hb dX0_luckiest_45 (by decide) ?_
            exact ih6 (j + 1) (nI j) (lk j) (by omega) (by omega) (by rw [ey] at *; simp [ex, sp_best, c_20, c_30]) (by rw [ey] at *; simp [ex, sp_best, c_20, c_30]) _ (lv_sub hl [3, 2, 1, 0] rfl)
  exact loop_6 (n + 1) 0 (-1) (-1) (Nat.zero_le _) (by omega) rfl rfl _ (lv_sub hl [3, 2, 1, 0] rfl)
set_option maxHeartbeats 4000000 in
set_option maxRecDepth 100000 in
theorem c_X0_nightsUntilCalm (l : Launch) {D : va_G} {z : ClassId × ClassId} {a : Nat → Nat} {lv lk pu fa he : Nat → Int32} {n : Nat} {nv du ta : Nat → Int32} {w : Nat} {mp mi : Nat → Int32} {k : Nat} {nt fu re : Int32} (hw : w ≤ 6) : Met l yX0_nightsUntilCalm (ws_ yX0_nightsUntilCalm cX0_nightsUntilCalm 3 (some .int)) ({ frames := 2, cells := 0, slots := 0, locals := 43 } : Room) (va_Pc [.ref (a 0)] (xI D z a lv lk pu fa he n nv du ta w mp mi k nt fu re)) (vp_Si (fun r : Int32 => r = sp_nuc nv du w)) 0 0 (fun _ => False) := by
  refine Met.ofW (cc := cX0_nightsUntilCalm) (maxL := 3) (ret := (some .int)) (by decide) rfl ?_
  intro p e s m args below meth c s₁ B hml hv
  obtain ⟨rfl, hP, hK⟩ := hv
  have hx := B.exec
  have hb := B.bytes
  have hr := B.returns
  have hts := atoms_spec (ws := ws_ yX0_nightsUntilCalm cX0_nightsUntilCalm 3 (some .int)) B.pre
  have hts : ∀ w ∈ lw_all, w.before _ s = true := fun w h => hts w (List.mem_cons_of_mem _ h)
  have hown : s.vm.findClass RX0 = some m.cls := findClass_of_methodNamed B.named
  have hlocks := B.notSynchronized
  have hC : CallFix p m c cX0_nightsUntilCalm 3 s _ lw_all RX0 := ⟨hx, hb, hml, hown, hts⟩
  have hl := lv_entry ([.ref (a 0)]) (n := 3) (Nat.le_of_ble_eq_true rfl)
  rw [lg_entry_eq]
  generalize (lg_sl ([.ref (a 0)]) ++ List.replicate (3 - (lg_sl ([.ref (a 0)])).length) Slot.unset).toArray = ls at hl ⊢
  have hl : lv_has ls 3 [(0, .ref (a 0))] := hl
  refine lv_iconst (v := 0) hx hb dX0_nightsUntilCalm_0 (by decide) ?_
  refine lv_istore_n (lv' := [(1, .int 0), (0, .ref (a 0))]) hx hb dX0_nightsUntilCalm_1 rfl hl (by decide) rfl (fun ls hl => ?_)
  refine lv_iconst (v := 0) hx hb dX0_nightsUntilCalm_2 (by decide) ?_
  refine lv_istore_n (lv' := [(2, .int 0), (1, .int 0), (0, .ref (a 0))]) hx hb dX0_nightsUntilCalm_3 rfl hl (by decide) rfl (fun ls hl => ?_)
  have loop_4 : ∀ (f : Nat) (j : Nat) (x : Int32), j ≤ w → w + 1 ≤ j + f → x = sp_nuc nv du j → ∀ ls : Array Slot, lv_has ls 3 [(0, .ref (a 0)), (1, .int x), (2, .int (nI j))] → W p l e ({ frames := 2, cells := 0, slots := 0, locals := 43 } : Room) s m ([.ref (a 0)] : List Value).toArray below meth c s.heap [] 0 0 (MQ below (vp_Si (fun r : Int32 => r = sp_nuc nv du w)) ([.ref (a 0)] : List Value).toArray s 0 0 (fun _ => False)) (F0 m 4 ls []) := by
    intro f
    induction f with
    | zero =>
      intro j x hj hf ex
      exact absurd hf (by omega)
    | succ f ih4 =>
      intro j x hj hf ex ls hl
      refine lv_iload_n hx hb dX0_nightsUntilCalm_4 rfl (lv_at hl 2 rfl) ?_
      refine lv_aload_n hx hb dX0_nightsUntilCalm_5 rfl (lv_at hl 0 rfl) ?_
      refine xg_w hC hK hP dX0_nightsUntilCalm_6 ?_
      refine lv_icmp_ge (tgt := 28) hx hb dX0_nightsUntilCalm_9 (by decide) (fun c_9 => ?_) (fun c_9 => ?_)
      · have nc_9 : w ≤ j := nn_le (by omega) c_9
        refine lv_iload_n hx hb dX0_nightsUntilCalm_28 rfl (lv_at hl 1 rfl) ?_
        exact W.iret (v := x) hx hb hr (fun t ht hW => ⟨x, rfl, (by rw [ex, show j = w by omega]), ht⟩) (fun q hq => absurd hq List.not_mem_nil) dX0_nightsUntilCalm_29
      · have nc_9 : j < w := nn_nle (by omega) c_9
        refine lv_iload_n hx hb dX0_nightsUntilCalm_12 rfl (lv_at hl 1 rfl) ?_
        refine lv_aload_n hx hb dX0_nightsUntilCalm_13 rfl (lv_at hl 0 rfl) ?_
        refine lv_iload_n hx hb dX0_nightsUntilCalm_14 rfl (lv_at hl 2 rfl) ?_
        refine k_X0_nightsToCalm hC hK hP hl.1 ⟨Nat.le_of_ble_eq_true rfl, Nat.le_of_ble_eq_true rfl⟩ ⟨Nat.zero_le _, Nat.zero_le _⟩ (Nat.le_of_ble_eq_true rfl) rfl (by first | assumption | omega) dX0_nightsUntilCalm_15 ?_
        refine va_mmax hx hb (hml.trans hl.1.symm) hown (hts _ mM_X0_102) (hts _ mT_max) (hts _ mI_Math) (hts _ mC_max) (Nat.le_of_ble_eq_true rfl) (Nat.le_of_ble_eq_true rfl) (Nat.zero_le _) (Nat.zero_le _) dX0_nightsUntilCalm_18 ?_
        refine lv_istore_n (lv' := [(1, .int (imax x (sp_calm (nv j) (du j)))), (0, .ref (a 0)), (2, .int (nI j))]) hx hb dX0_nightsUntilCalm_21 rfl hl (by decide) rfl (fun ls hl => ?_)
        refine lv_iinc (v := nI (j + 1)) (lv' := [(2, .int (nI (j + 1))), (1, .int (imax x (sp_calm (nv j) (du j)))), (0, .ref (a 0))]) hx hb dX0_nightsUntilCalm_22 hl (k := 2) rfl (nI_1 _) (by decide) rfl (fun ls hl => ?_)
        refine lv_goto (tgt := 4) hx hb dX0_nightsUntilCalm_25 (by decide) ?_
        exact ih4 (j + 1) (imax x (sp_calm (nv j) (du j))) (by omega) (by omega) (by simp [ex, sp_nuc]) _ (lv_sub hl [2, 1, 0] rfl)
  exact loop_4 (w + 1) 0 0 (Nat.zero_le _) (by omega) rfl _ (lv_sub hl [2, 1, 0] rfl)
set_option maxHeartbeats 4000000 in
set_option maxRecDepth 100000 in
theorem c_X0_sealNumber (l : Launch) (x y : Int32) : Met l yX0_sealNumber (ws_ yX0_sealNumber cX0_sealNumber 2 (some .int)) ({ frames := 0, cells := 0, slots := 0, locals := 0 } : Room) (va_Pc [.int x, .int y] (fun _ => True)) (vp_Si (fun r : Int32 => r = sp_num x y)) 0 0 (fun _ => False) := by
  refine Met.ofW (cc := cX0_sealNumber) (maxL := 2) (ret := (some .int)) (by decide) rfl ?_
  intro p e s m args below meth c s₁ B hml hv
  obtain ⟨rfl, -⟩ := hv
  have hx := B.exec
  have hb := B.bytes
  have hr := B.returns
  have hts := atoms_spec (ws := ws_ yX0_sealNumber cX0_sealNumber 2 (some .int)) B.pre
  have hts : ∀ w ∈ lw_all, w.before _ s = true := fun w h => hts w (List.mem_cons_of_mem _ h)
  have hown : s.vm.findClass RX0 = some m.cls := findClass_of_methodNamed B.named
  have hlocks := B.notSynchronized
  have hC : CallFix p m c cX0_sealNumber 2 s _ lw_all RX0 := ⟨hx, hb, hml, hown, hts⟩
  have hl := lv_entry ([.int x, .int y]) (n := 2) (Nat.le_of_ble_eq_true rfl)
  rw [lg_entry_eq]
  generalize (lg_sl ([.int x, .int y]) ++ List.replicate (2 - (lg_sl ([.int x, .int y])).length) Slot.unset).toArray = ls at hl ⊢
  have hl : lv_has ls 2 [(0, .int x), (1, .int y)] := hl
  refine lv_iload_n hx hb dX0_sealNumber_0 rfl (lv_at hl 1 rfl) ?_
  refine lv_bipush (v := 10) hx hb dX0_sealNumber_1 (by decide) ?_
  refine lv_icmp_lt (tgt := 19) hx hb dX0_sealNumber_3 (by decide) (fun c_3 => ?_) (fun c_3 => ?_)
  · refine lv_iload_n hx hb dX0_sealNumber_19 rfl (lv_at hl 0 rfl) ?_
    refine lv_bipush (v := 31) hx hb dX0_sealNumber_20 (by decide) ?_
    refine lv_imul hx hb dX0_sealNumber_22 ?_
    refine lv_bipush (v := 48) hx hb dX0_sealNumber_23 (by decide) ?_
    refine lv_iadd hx hb dX0_sealNumber_25 ?_
    refine lv_iload_n hx hb dX0_sealNumber_26 rfl (lv_at hl 1 rfl) ?_
    refine lv_bipush (v := 10) hx hb dX0_sealNumber_27 (by decide) ?_
    refine lv_irem hx hb dX0_sealNumber_29 (by decide) ?_
    refine lv_iadd hx hb dX0_sealNumber_30 ?_
    exact W.iret (v := ((x * 31) + 48) + (y - y / 10 * 10)) hx hb hr (fun t ht hW => ⟨((x * 31) + 48) + (y - y / 10 * 10), rfl, (by simp [sp_num, c_3]), ht⟩) (fun q hq => absurd hq List.not_mem_nil) dX0_sealNumber_31
  · refine lv_iload_n hx hb dX0_sealNumber_6 rfl (lv_at hl 0 rfl) ?_
    refine lv_bipush (v := 31) hx hb dX0_sealNumber_7 (by decide) ?_
    refine lv_imul hx hb dX0_sealNumber_9 ?_
    refine lv_bipush (v := 48) hx hb dX0_sealNumber_10 (by decide) ?_
    refine lv_iadd hx hb dX0_sealNumber_12 ?_
    refine lv_iload_n hx hb dX0_sealNumber_13 rfl (lv_at hl 1 rfl) ?_
    refine lv_bipush (v := 10) hx hb dX0_sealNumber_14 (by decide) ?_
    refine lv_idiv hx hb dX0_sealNumber_16 (by decide) ?_
    refine lv_iadd hx hb dX0_sealNumber_17 ?_
    refine lv_istore_n (lv' := [(0, .int (((x * 31) + 48) + (y / 10))), (1, .int y)]) hx hb dX0_sealNumber_18 rfl hl (by decide) rfl (fun ls hl => ?_)
    refine lv_iload_n hx hb dX0_sealNumber_19 rfl (lv_at hl 0 rfl) ?_
    refine lv_bipush (v := 31) hx hb dX0_sealNumber_20 (by decide) ?_
    refine lv_imul hx hb dX0_sealNumber_22 ?_
    refine lv_bipush (v := 48) hx hb dX0_sealNumber_23 (by decide) ?_
    refine lv_iadd hx hb dX0_sealNumber_25 ?_
    refine lv_iload_n hx hb dX0_sealNumber_26 rfl (lv_at hl 1 rfl) ?_
    refine lv_bipush (v := 10) hx hb dX0_sealNumber_27 (by decide) ?_
    refine lv_irem hx hb dX0_sealNumber_29 (by decide) ?_
    refine lv_iadd hx hb dX0_sealNumber_30 ?_
    exact W.iret (v := (((((x * 31) + 48) + (y / 10)) * 31) + 48) + (y - y / 10 * 10)) hx hb hr (fun t ht hW => ⟨(((((x * 31) + 48) + (y / 10)) * 31) + 48) + (y - y / 10 * 10), rfl, (by simp [sp_num, c_3]), ht⟩) (fun q hq => absurd hq List.not_mem_nil) dX0_sealNumber_31
set_option maxRecDepth 100000 in
theorem k_X0_sealNumber {p : Program} {l : Launch} {e : Env} {R : Room} {s : State} {m : MethodId} {args : Array Value} {below : List Frame} {meth : Method} {c : Code} {H : Heap} {locs : List Loc} {cells slots : Nat} {Q : State → Prop} {cc : ByteArray} {nL pc : Nat} {ls : Array Slot} {rest : List Value} (hC : CallFix p m c cc nL s args lw_all RX0) (hl : ls.size = nL) (hR : 1 ≤ R.frames ∧ 21 ≤ R.locals) (hz : cells ≤ R.cells ∧ slots ≤ R.slots) (hr : (rest.map fun v => v.category).sum ≤ 8) {x : Int32} {y : Int32}   (hdg : decode cc pc = .ok (.invokestatic 213, 3)) (kk : W p l e R s m args below meth c H locs cells slots Q (F0 m (pc + 3) ls (.int (sp_num x y) :: rest))) : W p l e R s m args below meth c H locs cells slots Q (F0 m pc ls (.int y :: .int x :: rest)) := by
  exact vp_callSi (W.runS (As := [.int x, .int y]) (rest := rest) hC (c_X0_sealNumber l x y) (va_cwS 2 hC.2.2.2.2 (gi_S mM_X0_213 mT_X0_sealNumber mI_MissRegistry mC_X0_sealNumber) rfl rfl rfl (by decide +kernel) hR) ⟨fun _ _ _ _ q => q, fun U hU hW => ⟨rfl, trivial⟩⟩ rfl rfl hl rfl (lv_room hr) hdg hz) (fun r hr => by rw [hr]; exact kk)
set_option maxHeartbeats 4000000 in
set_option maxRecDepth 100000 in
theorem c_X0_night (l : Launch) {D : va_G} {z : ClassId × ClassId} {a : Nat → Nat} {lv lk pu fa he : Nat → Int32} {n : Nat} {nv du ta : Nat → Int32} {w : Nat} {mp mi : Nat → Int32} {k : Nat} {nt fu re : Int32}  : Met l yX0_night (ws_ yX0_night cX0_night 1 (some .int)) ({ frames := 0, cells := 0, slots := 0, locals := 0 } : Room) (va_Pc [.ref (a 0)] (xI D z a lv lk pu fa he n nv du ta w mp mi k nt fu re)) (vp_Si (fun r : Int32 => r = nt)) 0 0 (fun _ => False) := by
  refine Met.ofW (cc := cX0_night) (maxL := 1) (ret := (some .int)) (by decide) rfl ?_
  intro p e s m args below meth c s₁ B hml hv
  obtain ⟨rfl, hP, hK⟩ := hv
  have hx := B.exec
  have hb := B.bytes
  have hr := B.returns
  have hts := atoms_spec (ws := ws_ yX0_night cX0_night 1 (some .int)) B.pre
  have hts : ∀ w ∈ lw_all, w.before _ s = true := fun w h => hts w (List.mem_cons_of_mem _ h)
  have hown : s.vm.findClass RX0 = some m.cls := findClass_of_methodNamed B.named
  have hlocks := B.notSynchronized
  have hC : CallFix p m c cX0_night 1 s _ lw_all RX0 := ⟨hx, hb, hml, hown, hts⟩
  have hl := lv_entry ([.ref (a 0)]) (n := 1) (Nat.le_of_ble_eq_true rfl)
  rw [lg_entry_eq]
  generalize (lg_sl ([.ref (a 0)]) ++ List.replicate (1 - (lg_sl ([.ref (a 0)])).length) Slot.unset).toArray = ls at hl ⊢
  have hl : lv_has ls 1 [(0, .ref (a 0))] := hl
  refine lv_aload_n hx hb dX0_night_0 rfl (lv_at hl 0 rfl) ?_
  refine xg_nt hC hK hP dX0_night_1 ?_
  exact W.iret (v := nt) hx hb hr (fun t ht hW => ⟨nt, rfl, rfl, ht⟩) (fun q hq => absurd hq List.not_mem_nil) dX0_night_4
set_option maxHeartbeats 4000000 in
set_option maxRecDepth 100000 in
theorem c_X0_persons (l : Launch) {D : va_G} {z : ClassId × ClassId} {a : Nat → Nat} {lv lk pu fa he : Nat → Int32} {n : Nat} {nv du ta : Nat → Int32} {w : Nat} {mp mi : Nat → Int32} {k : Nat} {nt fu re : Int32}  : Met l yX0_persons (ws_ yX0_persons cX0_persons 1 (some .int)) ({ frames := 0, cells := 0, slots := 0, locals := 0 } : Room) (va_Pc [.ref (a 0)] (xI D z a lv lk pu fa he n nv du ta w mp mi k nt fu re)) (vp_Si (fun r : Int32 => r = nI n)) 0 0 (fun _ => False) := by
  refine Met.ofW (cc := cX0_persons) (maxL := 1) (ret := (some .int)) (by decide) rfl ?_
  intro p e s m args below meth c s₁ B hml hv
  obtain ⟨rfl, hP, hK⟩ := hv
  have hx := B.exec
  have hb := B.bytes
  have hr := B.returns
  have hts := atoms_spec (ws := ws_ yX0_persons cX0_persons 1 (some .int)) B.pre
  have hts : ∀ w ∈ lw_all, w.before _ s = true := fun w h => hts w (List.mem_cons_of_mem _ h)
  have hown : s.vm.findClass RX0 = some m.cls := findClass_of_methodNamed B.named
  have hlocks := B.notSynchronized
  have hC : CallFix p m c cX0_persons 1 s _ lw_all RX0 := ⟨hx, hb, hml, hown, hts⟩
  have hl := lv_entry ([.ref (a 0)]) (n := 1) (Nat.le_of_ble_eq_true rfl)
  rw [lg_entry_eq]
  generalize (lg_sl ([.ref (a 0)]) ++ List.replicate (1 - (lg_sl ([.ref (a 0)])).length) Slot.unset).toArray = ls at hl ⊢
  have hl : lv_has ls 1 [(0, .ref (a 0))] := hl
  refine lv_aload_n hx hb dX0_persons_0 rfl (lv_at hl 0 rfl) ?_
  refine xg_n hC hK hP dX0_persons_1 ?_
  exact W.iret (v := nI n) hx hb hr (fun t ht hW => ⟨nI n, rfl, rfl, ht⟩) (fun q hq => absurd hq List.not_mem_nil) dX0_persons_4
set_option maxHeartbeats 4000000 in
set_option maxRecDepth 100000 in
theorem c_X0_witnesses (l : Launch) {D : va_G} {z : ClassId × ClassId} {a : Nat → Nat} {lv lk pu fa he : Nat → Int32} {n : Nat} {nv du ta : Nat → Int32} {w : Nat} {mp mi : Nat → Int32} {k : Nat} {nt fu re : Int32}  : Met l yX0_witnesses (ws_ yX0_witnesses cX0_witnesses 1 (some .int)) ({ frames := 0, cells := 0, slots := 0, locals := 0 } : Room) (va_Pc [.ref (a 0)] (xI D z a lv lk pu fa he n nv du ta w mp mi k nt fu re)) (vp_Si (fun r : Int32 => r = nI w)) 0 0 (fun _ => False) := by
  refine Met.ofW (cc := cX0_witnesses) (maxL := 1) (ret := (some .int)) (by decide) rfl ?_
  intro p e s m args below meth c s₁ B hml hv
  obtain ⟨rfl, hP, hK⟩ := hv
  have hx := B.exec
  have hb := B.bytes
  have hr := B.returns
  have hts := atoms_spec (ws := ws_ yX0_witnesses cX0_witnesses 1 (some .int)) B.pre
  have hts : ∀ w ∈ lw_all, w.before _ s = true := fun w h => hts w (List.mem_cons_of_mem _ h)
  have hown : s.vm.findClass RX0 = some m.cls := findClass_of_methodNamed B.named
  have hlocks := B.notSynchronized
  have hC : CallFix p m c cX0_witnesses 1 s _ lw_all RX0 := ⟨hx, hb, hml, hown, hts⟩
  have hl := lv_entry ([.ref (a 0)]) (n := 1) (Nat.le_of_ble_eq_true rfl)
  rw [lg_entry_eq]
  generalize (lg_sl ([.ref (a 0)]) ++ List.replicate (1 - (lg_sl ([.ref (a 0)])).length) Slot.unset).toArray = ls at hl ⊢
  have hl : lv_has ls 1 [(0, .ref (a 0))] := hl
  refine lv_aload_n hx hb dX0_witnesses_0 rfl (lv_at hl 0 rfl) ?_
  refine xg_w hC hK hP dX0_witnesses_1 ?_
  exact W.iret (v := nI w) hx hb hr (fun t ht hW => ⟨nI w, rfl, rfl, ht⟩) (fun q hq => absurd hq List.not_mem_nil) dX0_witnesses_4
set_option maxHeartbeats 4000000 in
set_option maxRecDepth 100000 in
theorem c_X0_fund (l : Launch) {D : va_G} {z : ClassId × ClassId} {a : Nat → Nat} {lv lk pu fa he : Nat → Int32} {n : Nat} {nv du ta : Nat → Int32} {w : Nat} {mp mi : Nat → Int32} {k : Nat} {nt fu re : Int32}  : Met l yX0_fund (ws_ yX0_fund cX0_fund 1 (some .int)) ({ frames := 0, cells := 0, slots := 0, locals := 0 } : Room) (va_Pc [.ref (a 0)] (xI D z a lv lk pu fa he n nv du ta w mp mi k nt fu re)) (vp_Si (fun r : Int32 => r = fu)) 0 0 (fun _ => False) := by
  refine Met.ofW (cc := cX0_fund) (maxL := 1) (ret := (some .int)) (by decide) rfl ?_
  intro p e s m args below meth c s₁ B hml hv
  obtain ⟨rfl, hP, hK⟩ := hv
  have hx := B.exec
  have hb := B.bytes
  have hr := B.returns
  have hts := atoms_spec (ws := ws_ yX0_fund cX0_fund 1 (some .int)) B.pre
  have hts : ∀ w ∈ lw_all, w.before _ s = true := fun w h => hts w (List.mem_cons_of_mem _ h)
  have hown : s.vm.findClass RX0 = some m.cls := findClass_of_methodNamed B.named
  have hlocks := B.notSynchronized
  have hC : CallFix p m c cX0_fund 1 s _ lw_all RX0 := ⟨hx, hb, hml, hown, hts⟩
  have hl := lv_entry ([.ref (a 0)]) (n := 1) (Nat.le_of_ble_eq_true rfl)
  rw [lg_entry_eq]
  generalize (lg_sl ([.ref (a 0)]) ++ List.replicate (1 - (lg_sl ([.ref (a 0)])).length) Slot.unset).toArray = ls at hl ⊢
  have hl : lv_has ls 1 [(0, .ref (a 0))] := hl
  refine lv_aload_n hx hb dX0_fund_0 rfl (lv_at hl 0 rfl) ?_
  refine xg_fu hC hK hP dX0_fund_1 ?_
  exact W.iret (v := fu) hx hb hr (fun t ht hW => ⟨fu, rfl, rfl, ht⟩) (fun q hq => absurd hq List.not_mem_nil) dX0_fund_4
set_option maxHeartbeats 4000000 in
set_option maxRecDepth 100000 in
theorem c_X0_refunded (l : Launch) {D : va_G} {z : ClassId × ClassId} {a : Nat → Nat} {lv lk pu fa he : Nat → Int32} {n : Nat} {nv du ta : Nat → Int32} {w : Nat} {mp mi : Nat → Int32} {k : Nat} {nt fu re : Int32}  : Met l yX0_refunded (ws_ yX0_refunded cX0_refunded 1 (some .int)) ({ frames := 0, cells := 0, slots := 0, locals := 0 } : Room) (va_Pc [.ref (a 0)] (xI D z a lv lk pu fa he n nv du ta w mp mi k nt fu re)) (vp_Si (fun r : Int32 => r = re)) 0 0 (fun _ => False) := by
  refine Met.ofW (cc := cX0_refunded) (maxL := 1) (ret := (some .int)) (by decide) rfl ?_
  intro p e s m args below meth c s₁ B hml hv
  obtain ⟨rfl, hP, hK⟩ := hv
  have hx := B.exec
  have hb := B.bytes
  have hr := B.returns
  have hts := atoms_spec (ws := ws_ yX0_refunded cX0_refunded 1 (some .int)) B.pre
  have hts : ∀ w ∈ lw_all, w.before _ s = true := fun w h => hts w (List.mem_cons_of_mem _ h)
  have hown : s.vm.findClass RX0 = some m.cls := findClass_of_methodNamed B.named
  have hlocks := B.notSynchronized
  have hC : CallFix p m c cX0_refunded 1 s _ lw_all RX0 := ⟨hx, hb, hml, hown, hts⟩
  have hl := lv_entry ([.ref (a 0)]) (n := 1) (Nat.le_of_ble_eq_true rfl)
  rw [lg_entry_eq]
  generalize (lg_sl ([.ref (a 0)]) ++ List.replicate (1 - (lg_sl ([.ref (a 0)])).length) Slot.unset).toArray = ls at hl ⊢
  have hl : lv_has ls 1 [(0, .ref (a 0))] := hl
  refine lv_aload_n hx hb dX0_refunded_0 rfl (lv_at hl 0 rfl) ?_
  refine xg_re hC hK hP dX0_refunded_1 ?_
  exact W.iret (v := re) hx hb hr (fun t ht hW => ⟨re, rfl, rfl, ht⟩) (fun q hq => absurd hq List.not_mem_nil) dX0_refunded_4
set_option maxHeartbeats 4000000 in
set_option maxRecDepth 100000 in
theorem c_X0_misses (l : Launch) {D : va_G} {z : ClassId × ClassId} {a : Nat → Nat} {lv lk pu fa he : Nat → Int32} {n : Nat} {nv du ta : Nat → Int32} {w : Nat} {mp mi : Nat → Int32} {k : Nat} {nt fu re : Int32}  : Met l yX0_misses (ws_ yX0_misses cX0_misses 1 (some .int)) ({ frames := 0, cells := 0, slots := 0, locals := 0 } : Room) (va_Pc [.ref (a 0)] (xI D z a lv lk pu fa he n nv du ta w mp mi k nt fu re)) (vp_Si (fun r : Int32 => r = nI k)) 0 0 (fun _ => False) := by
  refine Met.ofW (cc := cX0_misses) (maxL := 1) (ret := (some .int)) (by decide) rfl ?_
  intro p e s m args below meth c s₁ B hml hv
  obtain ⟨rfl, hP, hK⟩ := hv
  have hx := B.exec
  have hb := B.bytes
  have hr := B.returns
  have hts := atoms_spec (ws := ws_ yX0_misses cX0_misses 1 (some .int)) B.pre
  have hts : ∀ w ∈ lw_all, w.before _ s = true := fun w h => hts w (List.mem_cons_of_mem _ h)
  have hown : s.vm.findClass RX0 = some m.cls := findClass_of_methodNamed B.named
  have hlocks := B.notSynchronized
  have hC : CallFix p m c cX0_misses 1 s _ lw_all RX0 := ⟨hx, hb, hml, hown, hts⟩
  have hl := lv_entry ([.ref (a 0)]) (n := 1) (Nat.le_of_ble_eq_true rfl)
  rw [lg_entry_eq]
  generalize (lg_sl ([.ref (a 0)]) ++ List.replicate (1 - (lg_sl ([.ref (a 0)])).length) Slot.unset).toArray = ls at hl ⊢
  have hl : lv_has ls 1 [(0, .ref (a 0))] := hl
  refine lv_aload_n hx hb dX0_misses_0 rfl (lv_at hl 0 rfl) ?_
  refine xg_k hC hK hP dX0_misses_1 ?_
  exact W.iret (v := nI k) hx hb hr (fun t ht hW => ⟨nI k, rfl, rfl, ht⟩) (fun q hq => absurd hq List.not_mem_nil) dX0_misses_4
set_option maxHeartbeats 4000000 in
set_option maxRecDepth 100000 in
theorem c_X0_tale (l : Launch) {D : va_G} {z : ClassId × ClassId} {a : Nat → Nat} {lv lk pu fa he : Nat → Int32} {n : Nat} {nv du ta : Nat → Int32} {w : Nat} {mp mi : Nat → Int32} {k : Nat} {nt fu re : Int32} (i : Nat) (hi : i < 6) (b : Int32) : Met l yX0_tale (ws_ yX0_tale cX0_tale 3 (some .int)) ({ frames := 1, cells := 0, slots := 0, locals := 21 } : Room) (va_Pc [.ref (a 0), .int (nI i), .int b] (xI D z a lv lk pu fa he n nv du ta w mp mi k nt fu re)) (vp_Si (fun r : Int32 => r = sp_tale (nv i) b)) 0 0 (fun _ => False) := by
  refine Met.ofW (cc := cX0_tale) (maxL := 3) (ret := (some .int)) (by decide) rfl ?_
  intro p e s m args below meth c s₁ B hml hv
  obtain ⟨rfl, hP, hK⟩ := hv
  have hx := B.exec
  have hb := B.bytes
  have hr := B.returns
  have hts := atoms_spec (ws := ws_ yX0_tale cX0_tale 3 (some .int)) B.pre
  have hts : ∀ w ∈ lw_all, w.before _ s = true := fun w h => hts w (List.mem_cons_of_mem _ h)
  have hown : s.vm.findClass RX0 = some m.cls := findClass_of_methodNamed B.named
  have hlocks := B.notSynchronized
  have hC : CallFix p m c cX0_tale 3 s _ lw_all RX0 := ⟨hx, hb, hml, hown, hts⟩
  have hl := lv_entry ([.ref (a 0), .int (nI i), .int b]) (n := 3) (Nat.le_of_ble_eq_true rfl)
  rw [lg_entry_eq]
  generalize (lg_sl ([.ref (a 0), .int (nI i), .int b]) ++ List.replicate (3 - (lg_sl ([.ref (a 0), .int (nI i), .int b])).length) Slot.unset).toArray = ls at hl ⊢
  have hl : lv_has ls 3 [(0, .ref (a 0)), (1, .int (nI i)), (2, .int b)] := hl
  refine lv_aload_n hx hb dX0_tale_0 rfl (lv_at hl 0 rfl) ?_
  refine lv_iload_n hx hb dX0_tale_1 rfl (lv_at hl 1 rfl) ?_
  refine k_X0_isShaken hC hK hP hl.1 ⟨Nat.le_of_ble_eq_true rfl, Nat.le_of_ble_eq_true rfl⟩ ⟨Nat.zero_le _, Nat.zero_le _⟩ (Nat.le_of_ble_eq_true rfl) rfl (by first | assumption | omega) dX0_tale_2 ?_
  refine lv_if_eq (tgt := 10) hx hb dX0_tale_5 (by decide) (fun c_5 => ?_) (fun c_5 => ?_)
  · refine lv_iconst (v := 1) hx hb dX0_tale_10 (by decide) ?_
    refine lv_iload_n hx hb dX0_tale_11 rfl (lv_at hl 2 rfl) ?_
    refine lv_bipush (v := 9) hx hb dX0_tale_12 (by decide) ?_
    refine lv_aload_n hx hb dX0_tale_14 rfl (lv_at hl 0 rfl) ?_
    refine xg_nv hC hK hP dX0_tale_15 ?_
    refine lv_iload_n hx hb dX0_tale_18 rfl (lv_at hl 1 rfl) ?_
    refine xl_nv hC hK hP i rfl (by omega) dX0_tale_19 ?_
    refine lv_isub hx hb dX0_tale_20 ?_
    refine lv_iconst (v := 2) hx hb dX0_tale_21 (by decide) ?_
    refine lv_idiv hx hb dX0_tale_22 (by decide) ?_
    refine lv_isub hx hb dX0_tale_23 ?_
    refine va_mmax hx hb (hml.trans hl.1.symm) hown (hts _ mM_X0_102) (hts _ mT_max) (hts _ mI_Math) (hts _ mC_max) (Nat.le_of_ble_eq_true rfl) (Nat.le_of_ble_eq_true rfl) (Nat.zero_le _) (Nat.zero_le _) dX0_tale_24 ?_
    exact W.iret (v := imax 1 (b - ((9 - (nv i)) / 2))) hx hb hr (fun t ht hW => ⟨imax 1 (b - ((9 - (nv i)) / 2)), rfl, (by simp [sp_tale, c_5]), ht⟩) (fun q hq => absurd hq List.not_mem_nil) dX0_tale_27
  · refine lv_iconst (v := 0) hx hb dX0_tale_8 (by decide) ?_
    exact W.iret (v := 0) hx hb hr (fun t ht hW => ⟨0, rfl, (by simp [sp_tale, c_5]), ht⟩) (fun q hq => absurd hq List.not_mem_nil) dX0_tale_9
set_option maxRecDepth 100000 in
theorem k_X0_tale {p : Program} {l : Launch} {e : Env} {R : Room} {s : State} {m : MethodId} {args : Array Value} {below : List Frame} {meth : Method} {c : Code} {H : Heap} {locs : List Loc} {cells slots : Nat} {Q : State → Prop} {D : va_G} {z : ClassId × ClassId} {a : Nat → Nat} {lv lk pu fa he : Nat → Int32} {n : Nat} {nv du ta : Nat → Int32} {w : Nat} {mp mi : Nat → Int32} {k : Nat} {nt fu re : Int32} {cc : ByteArray} {nL pc : Nat} {ls : Array Slot} {rest : List Value} (hC : CallFix p m c cc nL s args lw_all RX0) (hK : kK D z s) (hP : va_P D vwCl (xW z a lv lk pu fa he n nv du ta w mp mi k nt fu re) H) (hl : ls.size = nL) (hR : 2 ≤ R.frames ∧ 43 ≤ R.locals) (hz : cells ≤ R.cells ∧ slots ≤ R.slots) (hr : (rest.map fun v => v.category).sum ≤ 8) {i : Nat} {b : Int32} {x0 : Int32} (hx0 : x0 = nI i) (hi : i < 6) (hdg : decode cc pc = .ok (.invokevirtual 142, 3)) (kk : W p l e R s m args below meth c H locs cells slots Q (F0 m (pc + 3) ls (.int (sp_tale (nv i) b) :: rest))) : W p l e R s m args below meth c H locs cells slots Q (F0 m pc ls (.int b :: .int x0 :: .ref (a 0) :: rest)) := by
  subst hx0
  exact vp_callSi (W.runV (As := [.int (nI i), .int b]) (rest := rest) hC (c_X0_tale l i hi b) (cwV 2 hC.2.2.2.2 (gi_V mM_X0_142 mV_X0_tale mS_X0_tale mI_MissRegistry mC_X0_tale) rfl rfl rfl (by decide +kernel) hR) (xpre hK hP) rfl rfl hl rfl (lv_room hr) hdg hz) (fun r hr => by rw [hr]; exact kk)
set_option maxHeartbeats 4000000 in
set_option maxRecDepth 100000 in
theorem c_X0_findLastHeir (l : Launch) {D : va_G} {z : ClassId × ClassId} {a : Nat → Nat} {lv lk pu fa he : Nat → Int32} {n : Nat} {nv du ta : Nat → Int32} {w : Nat} {mp mi : Nat → Int32} {k : Nat} {nt fu re : Int32} (i : Nat) (hi : i < 10) (hn : n ≤ 10) : Met l yX0_findLastHeir (ws_ yX0_findLastHeir cX0_findLastHeir 4 (some .int)) ({ frames := 1, cells := 0, slots := 0, locals := 21 } : Room) (va_Pc [.ref (a 0), .int (nI i)] (xI D z a lv lk pu fa he n nv du ta w mp mi k nt fu re)) (vp_Si (fun r : Int32 => r = sp_heir he lv n i n (he i))) 0 0 (fun _ => False) := by
  refine Met.ofW (cc := cX0_findLastHeir) (maxL := 4) (ret := (some .int)) (by decide) rfl ?_
  intro p e s m args below meth c s₁ B hml hv
  obtain ⟨rfl, hP, hK⟩ := hv
  have hx := B.exec
  have hb := B.bytes
  have hr := B.returns
  have hts := atoms_spec (ws := ws_ yX0_findLastHeir cX0_findLastHeir 4 (some .int)) B.pre
  have hts : ∀ w ∈ lw_all, w.before _ s = true := fun w h => hts w (List.mem_cons_of_mem _ h)
  have hown : s.vm.findClass RX0 = some m.cls := findClass_of_methodNamed B.named
  have hlocks := B.notSynchronized
  have hC : CallFix p m c cX0_findLastHeir 4 s _ lw_all RX0 := ⟨hx, hb, hml, hown, hts⟩
  have hl := lv_entry ([.ref (a 0), .int (nI i)]) (n := 4) (Nat.le_of_ble_eq_true rfl)
  rw [lg_entry_eq]
  generalize (lg_sl ([.ref (a 0), .int (nI i)]) ++ List.replicate (4 - (lg_sl ([.ref (a 0), .int (nI i)])).length) Slot.unset).toArray = ls at hl ⊢
  have hl : lv_has ls 4 [(0, .ref (a 0)), (1, .int (nI i))] := hl
  refine lv_aload_n hx hb dX0_findLastHeir_0 rfl (lv_at hl 0 rfl) ?_
  refine xg_he hC hK hP dX0_findLastHeir_1 ?_
  refine lv_iload_n hx hb dX0_findLastHeir_4 rfl (lv_at hl 1 rfl) ?_
  refine xl_he hC hK hP i rfl (by omega) dX0_findLastHeir_5 ?_
  refine lv_istore_n (lv' := [(2, .int (he i)), (0, .ref (a 0)), (1, .int (nI i))]) hx hb dX0_findLastHeir_6 rfl hl (by decide) rfl (fun ls hl => ?_)
  refine lv_iconst (v := 0) hx hb dX0_findLastHeir_7 (by decide) ?_
  refine lv_istore_n (lv' := [(3, .int 0), (2, .int (he i)), (0, .ref (a 0)), (1, .int (nI i))]) hx hb dX0_findLastHeir_8 rfl hl (by decide) rfl (fun ls hl => ?_)
  have loop_9 : ∀ (f : Nat) (j : Nat) (x : Int32), j ≤ n → j + f = n + 1 → sp_heir he lv n i (n - j) x = sp_heir he lv n i n (he i) → ∀ ls : Array Slot, lv_has ls 4 [(0, .ref (a 0)), (1, .int (nI i)), (2, .int x), (3, .int (nI j))] → W p l e ({ frames := 1, cells := 0, slots := 0, locals := 21 } : Room) s m ([.ref (a 0), .int (nI i)] : List Value).toArray below meth c s.heap [] 0 0 (MQ below (vp_Si (fun r : Int32 => r = sp_heir he lv n i n (he i))) ([.ref (a 0), .int (nI i)] : List Value).toArray s 0 0 (fun _ => False)) (F0 m 9 ls []) := by
    intro f
    induction f with
    | zero =>
      intro j x hj hf er
      exact absurd hf (by omega)
    | succ f ih9 =>
      intro j x hj hf er ls hl
      refine lv_iload_n hx hb dX0_findLastHeir_9 rfl (lv_at hl 3 rfl) ?_
      refine lv_aload_n hx hb dX0_findLastHeir_10 rfl (lv_at hl 0 rfl) ?_
      refine xg_n hC hK hP dX0_findLastHeir_11 ?_
      refine lv_icmp_ge (tgt := 56) hx hb dX0_findLastHeir_14 (by decide) (fun c_14 => ?_) (fun c_14 => ?_)
      · have nc_14 : n ≤ j := nn_le (by omega) c_14
        refine lv_iconst (v := (-1)) hx hb dX0_findLastHeir_56 (by decide) ?_
        exact W.iret (v := (-1)) hx hb hr (fun t ht hW => ⟨(-1), rfl, (by rw [← er, show n - j = 0 by omega]; rfl), ht⟩) (fun q hq => absurd hq List.not_mem_nil) dX0_findLastHeir_57
      · have nc_14 : j < n := nn_nle (by omega) c_14
        refine lv_aload_n hx hb dX0_findLastHeir_17 rfl (lv_at hl 0 rfl) ?_
        refine lv_iload_n hx hb dX0_findLastHeir_18 rfl (lv_at hl 2 rfl) ?_
        refine k_X0_isPerson hC hK hP hl.1 ⟨Nat.le_of_ble_eq_true rfl, Nat.le_of_ble_eq_true rfl⟩ ⟨Nat.zero_le _, Nat.zero_le _⟩ (Nat.le_of_ble_eq_true rfl)   dX0_findLastHeir_19 ?_
        refine lv_if_eq (tgt := 30) hx hb dX0_findLastHeir_22 (by decide) (fun c_22 => ?_) (fun c_22 => ?_)
        · refine lv_iconst (v := (-1)) hx hb dX0_findLastHeir_30 (by decide) ?_
          exact W.iret (v := (-1)) hx hb hr (fun t ht hW => ⟨(-1), rfl, (by rw [← er, show n - j = (n - (j + 1)) + 1 by omega]; simp [sp_heir, c_22]), ht⟩) (fun q hq => absurd hq List.not_mem_nil) dX0_findLastHeir_31
        · refine lv_iload_n hx hb dX0_findLastHeir_25 rfl (lv_at hl 2 rfl) ?_
          refine lv_iload_n hx hb dX0_findLastHeir_26 rfl (lv_at hl 1 rfl) ?_
          refine lv_icmp_ne (tgt := 32) hx hb dX0_findLastHeir_27 (by decide) (fun c_27 => ?_) (fun c_27 => ?_)
          · obtain ⟨y, hyn, hy⟩ := isP_ex (by omega) c_22
            have eNy : x.toNatClampNeg = y := by rw [hy]; exact nI_clamp (by omega)
            refine lv_aload_n hx hb dX0_findLastHeir_32 rfl (lv_at hl 0 rfl) ?_
            refine xg_lv hC hK hP dX0_findLastHeir_33 ?_
            refine lv_iload_n hx hb dX0_findLastHeir_36 rfl (lv_at hl 2 rfl) ?_
            refine xl_lv hC hK hP y hy (by omega) dX0_findLastHeir_37 ?_
            refine lv_if_eq (tgt := 43) hx hb dX0_findLastHeir_38 (by decide) (fun c_38 => ?_) (fun c_38 => ?_)
            · refine lv_aload_n hx hb dX0_findLastHeir_43 rfl (lv_at hl 0 rfl) ?_
              refine xg_he hC hK hP dX0_findLastHeir_44 ?_
              refine lv_iload_n hx hb dX0_findLastHeir_47 rfl (lv_at hl 2 rfl) ?_
              refine xl_he hC hK hP y hy (by omega) dX0_findLastHeir_48 ?_
              refine lv_istore_n (lv' := [(2, .int (he y)), (0, .ref (a 0)), (1, .int (nI i)), (3, .int (nI j))]) hx hb dX0_findLastHeir_49 rfl hl (by decide) rfl (fun ls hl => ?_)
              refine lv_iinc (v := nI (j + 1)) (lv' := [(3, .int (nI (j + 1))), (2, .int (he y)), (0, .ref (a 0)), (1, .int (nI i))]) hx hb dX0_findLastHeir_50 hl (k := 3) rfl (nI_1 _) (by decide) rfl (fun ls hl => ?_)
              refine lv_goto (tgt := 9) hx hb dX0_findLastHeir_53 (by decide) ?_
              exact ih9 (j + 1) (he y) (by omega) (by omega) (by rw [← er, show n - j = (n - (j + 1)) + 1 by omega]; simp [sp_heir, c_22, c_27, eNy, c_38]) _ (lv_sub hl [2, 3, 1, 0] rfl)
            · refine lv_iload_n hx hb dX0_findLastHeir_41 rfl (lv_at hl 2 rfl) ?_
              exact W.iret (v := x) hx hb hr (fun t ht hW => ⟨x, rfl, (by rw [← er, show n - j = (n - (j + 1)) + 1 by omega]; simp [sp_heir, c_22, c_27, c_38, eNy]), ht⟩) (fun q hq => absurd hq List.not_mem_nil) dX0_findLastHeir_42
          · refine lv_iconst (v := (-1)) hx hb dX0_findLastHeir_30 (by decide) ?_
            exact W.iret (v := (-1)) hx hb hr (fun t ht hW => ⟨(-1), rfl, (by rw [← er, show n - j = (n - (j + 1)) + 1 by omega]; simp [sp_heir, c_22, c_27]), ht⟩) (fun q hq => absurd hq List.not_mem_nil) dX0_findLastHeir_31
  exact loop_9 (n + 1) 0 (he i) (by omega) (by omega) rfl _ (lv_sub hl [2, 3, 1, 0] rfl)
set_option maxRecDepth 100000 in
theorem k_X0_findLastHeir {p : Program} {l : Launch} {e : Env} {R : Room} {s : State} {m : MethodId} {args : Array Value} {below : List Frame} {meth : Method} {c : Code} {H : Heap} {locs : List Loc} {cells slots : Nat} {Q : State → Prop} {D : va_G} {z : ClassId × ClassId} {a : Nat → Nat} {lv lk pu fa he : Nat → Int32} {n : Nat} {nv du ta : Nat → Int32} {w : Nat} {mp mi : Nat → Int32} {k : Nat} {nt fu re : Int32} {cc : ByteArray} {nL pc : Nat} {ls : Array Slot} {rest : List Value} (hC : CallFix p m c cc nL s args lw_all RX0) (hK : kK D z s) (hP : va_P D vwCl (xW z a lv lk pu fa he n nv du ta w mp mi k nt fu re) H) (hl : ls.size = nL) (hR : 2 ≤ R.frames ∧ 44 ≤ R.locals) (hz : cells ≤ R.cells ∧ slots ≤ R.slots) (hr : (rest.map fun v => v.category).sum ≤ 8) {i : Nat} {x0 : Int32} (hx0 : x0 = nI i) (hi : i < 10) (hn : n ≤ 10) (hdg : decode cc pc = .ok (.invokevirtual 114, 3)) (kk : W p l e R s m args below meth c H locs cells slots Q (F0 m (pc + 3) ls (.int (sp_heir he lv n i n (he i)) :: rest))) : W p l e R s m args below meth c H locs cells slots Q (F0 m pc ls (.int x0 :: .ref (a 0) :: rest)) := by
  subst hx0
  exact vp_callSi (W.runV (As := [.int (nI i)]) (rest := rest) hC (c_X0_findLastHeir l i hi hn) (cwV 1 hC.2.2.2.2 (gi_V mM_X0_114 mV_X0_findLastHeir mS_X0_findLastHeir mI_MissRegistry mC_X0_findLastHeir) rfl rfl rfl (by decide +kernel) hR) (xpre hK hP) rfl rfl hl rfl (lv_room hr) hdg hz) (fun r hr => by rw [hr]; exact kk)

theorem nar_bool {v : Int32} (h : v = 0 ∨ v = 1) : narrow .boolean (.int v) = .int v := by rcases h with rfl | rfl <;> rfl
def sp_musN (v g : Int32) : Nat → Nat → Nat
  | 0, k => k
  | f + 1, k => if 9 ≤ k then k else if v - nI k * g ≤ 2 then k else sp_musN v g f (k + 1)
def sp_mus (nv du : Nat → Int32) (w : Nat) (b : Int32) : Int32 := if sp_isP w (sp_best du nv w).1 = 0 then 0 else nI (sp_musN (nv (sp_best du nv w).1.toNatClampNeg) (sp_loss b) 10 0)

set_option maxHeartbeats 4000000 in
set_option maxRecDepth 100000 in
theorem c_X0_requirePerson (l : Launch) {D : va_G} {z : ClassId × ClassId} {a : Nat → Nat} {lv lk pu fa he : Nat → Int32} {n : Nat} {nv du ta : Nat → Int32} {w : Nat} {mp mi : Nat → Int32} {k : Nat} {nt fu re : Int32} (i : Nat) (hi : i < n) (hn : n ≤ 10) : Met l yX0_requirePerson (ws_ yX0_requirePerson cX0_requirePerson 2 none) ({ frames := 1, cells := 0, slots := 0, locals := 21 } : Room) (va_Pc [.ref (a 0), .int (nI i)] (xI D z a lv lk pu fa he n nv du ta w mp mi k nt fu re)) (va_Sv (fun _ => True)) 0 0 (fun _ => False) := by
  refine Met.ofW (cc := cX0_requirePerson) (maxL := 2) (ret := none) (by decide) rfl ?_
  intro p e s m args below meth c s₁ B hml hv
  obtain ⟨rfl, hP, hK⟩ := hv
  have hx := B.exec
  have hb := B.bytes
  have hr := B.returns
  have hts := atoms_spec (ws := ws_ yX0_requirePerson cX0_requirePerson 2 none) B.pre
  have hts : ∀ w ∈ lw_all, w.before _ s = true := fun w h => hts w (List.mem_cons_of_mem _ h)
  have hown : s.vm.findClass RX0 = some m.cls := findClass_of_methodNamed B.named
  have hlocks := B.notSynchronized
  have hC : CallFix p m c cX0_requirePerson 2 s _ lw_all RX0 := ⟨hx, hb, hml, hown, hts⟩
  have hl := lv_entry ([.ref (a 0), .int (nI i)]) (n := 2) (Nat.le_of_ble_eq_true rfl)
  rw [lg_entry_eq]
  generalize (lg_sl ([.ref (a 0), .int (nI i)]) ++ List.replicate (2 - (lg_sl ([.ref (a 0), .int (nI i)])).length) Slot.unset).toArray = ls at hl ⊢
  have hl : lv_has ls 2 [(0, .ref (a 0)), (1, .int (nI i))] := hl
  refine lv_aload_n hx hb dX0_requirePerson_0 rfl (lv_at hl 0 rfl) ?_
  refine lv_iload_n hx hb dX0_requirePerson_1 rfl (lv_at hl 1 rfl) ?_
  refine k_X0_isPerson hC hK hP hl.1 ⟨Nat.le_of_ble_eq_true rfl, Nat.le_of_ble_eq_true rfl⟩ ⟨Nat.zero_le _, Nat.zero_le _⟩ (Nat.le_of_ble_eq_true rfl)   dX0_requirePerson_2 ?_
  refine lv_if_ne (tgt := 18) hx hb dX0_requirePerson_5 (by decide) (fun c_5 => ?_) (fun c_5 => ?_)
  · exact W.vret hx hb hr (fun t ht hW => ⟨rfl, trivial, ht⟩) (fun q hq => absurd hq List.not_mem_nil) dX0_requirePerson_18
  · exact absurd c_5 (by rw [isP_in (by omega) hi]; decide)
set_option maxRecDepth 100000 in
theorem k_X0_requirePerson {p : Program} {l : Launch} {e : Env} {R : Room} {s : State} {m : MethodId} {args : Array Value} {below : List Frame} {meth : Method} {c : Code} {H : Heap} {locs : List Loc} {cells slots : Nat} {Q : State → Prop} {D : va_G} {z : ClassId × ClassId} {a : Nat → Nat} {lv lk pu fa he : Nat → Int32} {n : Nat} {nv du ta : Nat → Int32} {w : Nat} {mp mi : Nat → Int32} {k : Nat} {nt fu re : Int32} {cc : ByteArray} {nL pc : Nat} {ls : Array Slot} {rest : List Value} (hC : CallFix p m c cc nL s args lw_all RX0) (hK : kK D z s) (hP : va_P D vwCl (xW z a lv lk pu fa he n nv du ta w mp mi k nt fu re) H) (hl : ls.size = nL) (hR : 2 ≤ R.frames ∧ 42 ≤ R.locals) (hz : cells ≤ R.cells ∧ slots ≤ R.slots) (hr : (rest.map fun v => v.category).sum ≤ 8) {i : Nat} {x0 : Int32} (hx0 : x0 = nI i) (hi : i < n) (hn : n ≤ 10) (hdg : decode cc pc = .ok (.invokevirtual 64, 3)) (kk : W p l e R s m args below meth c H locs cells slots Q (F0 m (pc + 3) ls rest)) : W p l e R s m args below meth c H locs cells slots Q (F0 m pc ls (.int x0 :: .ref (a 0) :: rest)) := by
  subst hx0
  exact va_csv (W.runV (As := [.int (nI i)]) (rest := rest) hC (c_X0_requirePerson l i hi hn) (cwV 1 hC.2.2.2.2 (gi_V mM_X0_64 mV_X0_requirePerson mS_X0_requirePerson mI_MissRegistry mC_X0_requirePerson) rfl rfl rfl (by decide +kernel) hR) (xpre hK hP) rfl rfl hl rfl (lv_room hr) hdg hz) (fun _ => kk)
set_option maxHeartbeats 4000000 in
set_option maxRecDepth 100000 in
theorem c_X0_requireWitness (l : Launch) {D : va_G} {z : ClassId × ClassId} {a : Nat → Nat} {lv lk pu fa he : Nat → Int32} {n : Nat} {nv du ta : Nat → Int32} {w : Nat} {mp mi : Nat → Int32} {k : Nat} {nt fu re : Int32} (i : Nat) (hi : i < w) (hw : w ≤ 6) : Met l yX0_requireWitness (ws_ yX0_requireWitness cX0_requireWitness 2 none) ({ frames := 1, cells := 0, slots := 0, locals := 21 } : Room) (va_Pc [.ref (a 0), .int (nI i)] (xI D z a lv lk pu fa he n nv du ta w mp mi k nt fu re)) (va_Sv (fun _ => True)) 0 0 (fun _ => False) := by
  refine Met.ofW (cc := cX0_requireWitness) (maxL := 2) (ret := none) (by decide) rfl ?_
  intro p e s m args below meth c s₁ B hml hv
  obtain ⟨rfl, hP, hK⟩ := hv
  have hx := B.exec
  have hb := B.bytes
  have hr := B.returns
  have hts := atoms_spec (ws := ws_ yX0_requireWitness cX0_requireWitness 2 none) B.pre
  have hts : ∀ w ∈ lw_all, w.before _ s = true := fun w h => hts w (List.mem_cons_of_mem _ h)
  have hown : s.vm.findClass RX0 = some m.cls := findClass_of_methodNamed B.named
  have hlocks := B.notSynchronized
  have hC : CallFix p m c cX0_requireWitness 2 s _ lw_all RX0 := ⟨hx, hb, hml, hown, hts⟩
  have hl := lv_entry ([.ref (a 0), .int (nI i)]) (n := 2) (Nat.le_of_ble_eq_true rfl)
  rw [lg_entry_eq]
  generalize (lg_sl ([.ref (a 0), .int (nI i)]) ++ List.replicate (2 - (lg_sl ([.ref (a 0), .int (nI i)])).length) Slot.unset).toArray = ls at hl ⊢
  have hl : lv_has ls 2 [(0, .ref (a 0)), (1, .int (nI i))] := hl
  refine lv_aload_n hx hb dX0_requireWitness_0 rfl (lv_at hl 0 rfl) ?_
  refine lv_iload_n hx hb dX0_requireWitness_1 rfl (lv_at hl 1 rfl) ?_
  refine k_X0_isWitness hC hK hP hl.1 ⟨Nat.le_of_ble_eq_true rfl, Nat.le_of_ble_eq_true rfl⟩ ⟨Nat.zero_le _, Nat.zero_le _⟩ (Nat.le_of_ble_eq_true rfl)   dX0_requireWitness_2 ?_
  refine lv_if_ne (tgt := 18) hx hb dX0_requireWitness_5 (by decide) (fun c_5 => ?_) (fun c_5 => ?_)
  · exact W.vret hx hb hr (fun t ht hW => ⟨rfl, trivial, ht⟩) (fun q hq => absurd hq List.not_mem_nil) dX0_requireWitness_18
  · exact absurd c_5 (by rw [isP_in (by omega) hi]; decide)
set_option maxRecDepth 100000 in
theorem k_X0_requireWitness {p : Program} {l : Launch} {e : Env} {R : Room} {s : State} {m : MethodId} {args : Array Value} {below : List Frame} {meth : Method} {c : Code} {H : Heap} {locs : List Loc} {cells slots : Nat} {Q : State → Prop} {D : va_G} {z : ClassId × ClassId} {a : Nat → Nat} {lv lk pu fa he : Nat → Int32} {n : Nat} {nv du ta : Nat → Int32} {w : Nat} {mp mi : Nat → Int32} {k : Nat} {nt fu re : Int32} {cc : ByteArray} {nL pc : Nat} {ls : Array Slot} {rest : List Value} (hC : CallFix p m c cc nL s args lw_all RX0) (hK : kK D z s) (hP : va_P D vwCl (xW z a lv lk pu fa he n nv du ta w mp mi k nt fu re) H) (hl : ls.size = nL) (hR : 2 ≤ R.frames ∧ 42 ≤ R.locals) (hz : cells ≤ R.cells ∧ slots ≤ R.slots) (hr : (rest.map fun v => v.category).sum ≤ 8) {i : Nat} {x0 : Int32} (hx0 : x0 = nI i) (hi : i < w) (hw : w ≤ 6) (hdg : decode cc pc = .ok (.invokevirtual 84, 3)) (kk : W p l e R s m args below meth c H locs cells slots Q (F0 m (pc + 3) ls rest)) : W p l e R s m args below meth c H locs cells slots Q (F0 m pc ls (.int x0 :: .ref (a 0) :: rest)) := by
  subst hx0
  exact va_csv (W.runV (As := [.int (nI i)]) (rest := rest) hC (c_X0_requireWitness l i hi hw) (cwV 1 hC.2.2.2.2 (gi_V mM_X0_84 mV_X0_requireWitness mS_X0_requireWitness mI_MissRegistry mC_X0_requireWitness) rfl rfl rfl (by decide +kernel) hR) (xpre hK hP) rfl rfl hl rfl (lv_room hr) hdg hz) (fun _ => kk)
set_option maxHeartbeats 4000000 in
set_option maxRecDepth 100000 in
theorem c_X0_requireAlive (l : Launch) {D : va_G} {z : ClassId × ClassId} {a : Nat → Nat} {lv lk pu fa he : Nat → Int32} {n : Nat} {nv du ta : Nat → Int32} {w : Nat} {mp mi : Nat → Int32} {k : Nat} {nt fu re : Int32} (i : Nat) (hi : i < 10) (ha : ¬ lv i = 0) : Met l yX0_requireAlive (ws_ yX0_requireAlive cX0_requireAlive 2 none) ({ frames := 0, cells := 0, slots := 0, locals := 0 } : Room) (va_Pc [.ref (a 0), .int (nI i)] (xI D z a lv lk pu fa he n nv du ta w mp mi k nt fu re)) (va_Sv (fun _ => True)) 0 0 (fun _ => False) := by
  refine Met.ofW (cc := cX0_requireAlive) (maxL := 2) (ret := none) (by decide) rfl ?_
  intro p e s m args below meth c s₁ B hml hv
  obtain ⟨rfl, hP, hK⟩ := hv
  have hx := B.exec
  have hb := B.bytes
  have hr := B.returns
  have hts := atoms_spec (ws := ws_ yX0_requireAlive cX0_requireAlive 2 none) B.pre
  have hts : ∀ w ∈ lw_all, w.before _ s = true := fun w h => hts w (List.mem_cons_of_mem _ h)
  have hown : s.vm.findClass RX0 = some m.cls := findClass_of_methodNamed B.named
  have hlocks := B.notSynchronized
  have hC : CallFix p m c cX0_requireAlive 2 s _ lw_all RX0 := ⟨hx, hb, hml, hown, hts⟩
  have hl := lv_entry ([.ref (a 0), .int (nI i)]) (n := 2) (Nat.le_of_ble_eq_true rfl)
  rw [lg_entry_eq]
  generalize (lg_sl ([.ref (a 0), .int (nI i)]) ++ List.replicate (2 - (lg_sl ([.ref (a 0), .int (nI i)])).length) Slot.unset).toArray = ls at hl ⊢
  have hl : lv_has ls 2 [(0, .ref (a 0)), (1, .int (nI i))] := hl
  refine lv_aload_n hx hb dX0_requireAlive_0 rfl (lv_at hl 0 rfl) ?_
  refine xg_lv hC hK hP dX0_requireAlive_1 ?_
  refine lv_iload_n hx hb dX0_requireAlive_4 rfl (lv_at hl 1 rfl) ?_
  refine xl_lv hC hK hP i rfl (by omega) dX0_requireAlive_5 ?_
  refine lv_if_ne (tgt := 19) hx hb dX0_requireAlive_6 (by decide) (fun c_6 => ?_) (fun c_6 => ?_)
  · exact W.vret hx hb hr (fun t ht hW => ⟨rfl, trivial, ht⟩) (fun q hq => absurd hq List.not_mem_nil) dX0_requireAlive_19
  · exact absurd c_6 ha
set_option maxRecDepth 100000 in
theorem k_X0_requireAlive {p : Program} {l : Launch} {e : Env} {R : Room} {s : State} {m : MethodId} {args : Array Value} {below : List Frame} {meth : Method} {c : Code} {H : Heap} {locs : List Loc} {cells slots : Nat} {Q : State → Prop} {D : va_G} {z : ClassId × ClassId} {a : Nat → Nat} {lv lk pu fa he : Nat → Int32} {n : Nat} {nv du ta : Nat → Int32} {w : Nat} {mp mi : Nat → Int32} {k : Nat} {nt fu re : Int32} {cc : ByteArray} {nL pc : Nat} {ls : Array Slot} {rest : List Value} (hC : CallFix p m c cc nL s args lw_all RX0) (hK : kK D z s) (hP : va_P D vwCl (xW z a lv lk pu fa he n nv du ta w mp mi k nt fu re) H) (hl : ls.size = nL) (hR : 1 ≤ R.frames ∧ 21 ≤ R.locals) (hz : cells ≤ R.cells ∧ slots ≤ R.slots) (hr : (rest.map fun v => v.category).sum ≤ 8) {i : Nat} {x0 : Int32} (hx0 : x0 = nI i) (hi : i < 10) (ha : ¬ lv i = 0) (hdg : decode cc pc = .ok (.invokevirtual 70, 3)) (kk : W p l e R s m args below meth c H locs cells slots Q (F0 m (pc + 3) ls rest)) : W p l e R s m args below meth c H locs cells slots Q (F0 m pc ls (.int x0 :: .ref (a 0) :: rest)) := by
  subst hx0
  exact va_csv (W.runV (As := [.int (nI i)]) (rest := rest) hC (c_X0_requireAlive l i hi ha) (cwV 1 hC.2.2.2.2 (gi_V mM_X0_70 mV_X0_requireAlive mS_X0_requireAlive mI_MissRegistry mC_X0_requireAlive) rfl rfl rfl (by decide +kernel) hR) (xpre hK hP) rfl rfl hl rfl (lv_room hr) hdg hz) (fun _ => kk)
set_option maxHeartbeats 4000000 in
set_option maxRecDepth 100000 in
theorem c_X0_requireMiss (l : Launch) {D : va_G} {z : ClassId × ClassId} {a : Nat → Nat} {lv lk pu fa he : Nat → Int32} {n : Nat} {nv du ta : Nat → Int32} {w : Nat} {mp mi : Nat → Int32} {k : Nat} {nt fu re : Int32} (i : Nat) (hi : i < k) (hk : k ≤ 60) : Met l yX0_requireMiss (ws_ yX0_requireMiss cX0_requireMiss 2 none) ({ frames := 0, cells := 0, slots := 0, locals := 0 } : Room) (va_Pc [.ref (a 0), .int (nI i)] (xI D z a lv lk pu fa he n nv du ta w mp mi k nt fu re)) (va_Sv (fun _ => True)) 0 0 (fun _ => False) := by
  refine Met.ofW (cc := cX0_requireMiss) (maxL := 2) (ret := none) (by decide) rfl ?_
  intro p e s m args below meth c s₁ B hml hv
  obtain ⟨rfl, hP, hK⟩ := hv
  have hx := B.exec
  have hb := B.bytes
  have hr := B.returns
  have hts := atoms_spec (ws := ws_ yX0_requireMiss cX0_requireMiss 2 none) B.pre
  have hts : ∀ w ∈ lw_all, w.before _ s = true := fun w h => hts w (List.mem_cons_of_mem _ h)
  have hown : s.vm.findClass RX0 = some m.cls := findClass_of_methodNamed B.named
  have hlocks := B.notSynchronized
  have hC : CallFix p m c cX0_requireMiss 2 s _ lw_all RX0 := ⟨hx, hb, hml, hown, hts⟩
  have hl := lv_entry ([.ref (a 0), .int (nI i)]) (n := 2) (Nat.le_of_ble_eq_true rfl)
  rw [lg_entry_eq]
  generalize (lg_sl ([.ref (a 0), .int (nI i)]) ++ List.replicate (2 - (lg_sl ([.ref (a 0), .int (nI i)])).length) Slot.unset).toArray = ls at hl ⊢
  have hl : lv_has ls 2 [(0, .ref (a 0)), (1, .int (nI i))] := hl
  refine lv_iload_n hx hb dX0_requireMiss_0 rfl (lv_at hl 1 rfl) ?_
  refine lv_if_lt (tgt := 12) hx hb dX0_requireMiss_1 (by decide) (fun c_1 => ?_) (fun c_1 => ?_)
  · exact absurd c_1 (nI_pos (by omega))
  · have nc_1 : 0 ≤ i := nn_nlt (by omega) c_1
    refine lv_iload_n hx hb dX0_requireMiss_4 rfl (lv_at hl 1 rfl) ?_
    refine lv_aload_n hx hb dX0_requireMiss_5 rfl (lv_at hl 0 rfl) ?_
    refine xg_k hC hK hP dX0_requireMiss_6 ?_
    refine lv_icmp_lt (tgt := 22) hx hb dX0_requireMiss_9 (by decide) (fun c_9 => ?_) (fun c_9 => ?_)
    · have nc_9 : i < k := nn_lt (by omega) c_9
      exact W.vret hx hb hr (fun t ht hW => ⟨rfl, trivial, ht⟩) (fun q hq => absurd hq List.not_mem_nil) dX0_requireMiss_22
    · exact absurd (nI_lt hi (by omega)) c_9
set_option maxRecDepth 100000 in
theorem k_X0_requireMiss {p : Program} {l : Launch} {e : Env} {R : Room} {s : State} {m : MethodId} {args : Array Value} {below : List Frame} {meth : Method} {c : Code} {H : Heap} {locs : List Loc} {cells slots : Nat} {Q : State → Prop} {D : va_G} {z : ClassId × ClassId} {a : Nat → Nat} {lv lk pu fa he : Nat → Int32} {n : Nat} {nv du ta : Nat → Int32} {w : Nat} {mp mi : Nat → Int32} {k : Nat} {nt fu re : Int32} {cc : ByteArray} {nL pc : Nat} {ls : Array Slot} {rest : List Value} (hC : CallFix p m c cc nL s args lw_all RX0) (hK : kK D z s) (hP : va_P D vwCl (xW z a lv lk pu fa he n nv du ta w mp mi k nt fu re) H) (hl : ls.size = nL) (hR : 1 ≤ R.frames ∧ 21 ≤ R.locals) (hz : cells ≤ R.cells ∧ slots ≤ R.slots) (hr : (rest.map fun v => v.category).sum ≤ 8) {i : Nat} {x0 : Int32} (hx0 : x0 = nI i) (hi : i < k) (hk : k ≤ 60) (hdg : decode cc pc = .ok (.invokevirtual 145, 3)) (kk : W p l e R s m args below meth c H locs cells slots Q (F0 m (pc + 3) ls rest)) : W p l e R s m args below meth c H locs cells slots Q (F0 m pc ls (.int x0 :: .ref (a 0) :: rest)) := by
  subst hx0
  exact va_csv (W.runV (As := [.int (nI i)]) (rest := rest) hC (c_X0_requireMiss l i hi hk) (cwV 1 hC.2.2.2.2 (gi_V mM_X0_145 mV_X0_requireMiss mS_X0_requireMiss mI_MissRegistry mC_X0_requireMiss) rfl rfl rfl (by decide +kernel) hR) (xpre hK hP) rfl rfl hl rfl (lv_room hr) hdg hz) (fun _ => kk)
set_option maxHeartbeats 4000000 in
set_option maxRecDepth 100000 in
theorem c_X0_requireInches (l : Launch) {D : va_G} {z : ClassId × ClassId} {a : Nat → Nat} {lv lk pu fa he : Nat → Int32} {n : Nat} {nv du ta : Nat → Int32} {w : Nat} {mp mi : Nat → Int32} {k : Nat} {nt fu re : Int32} (b : Int32) (h1 : ¬ b < 1) (h2 : b ≤ 60) : Met l yX0_requireInches (ws_ yX0_requireInches cX0_requireInches 2 none) ({ frames := 0, cells := 0, slots := 0, locals := 0 } : Room) (va_Pc [.ref (a 0), .int b] (xI D z a lv lk pu fa he n nv du ta w mp mi k nt fu re)) (va_Sv (fun _ => True)) 0 0 (fun _ => False) := by
  refine Met.ofW (cc := cX0_requireInches) (maxL := 2) (ret := none) (by decide) rfl ?_
  intro p e s m args below meth c s₁ B hml hv
  obtain ⟨rfl, hP, hK⟩ := hv
  have hx := B.exec
  have hb := B.bytes
  have hr := B.returns
  have hts := atoms_spec (ws := ws_ yX0_requireInches cX0_requireInches 2 none) B.pre
  have hts : ∀ w ∈ lw_all, w.before _ s = true := fun w h => hts w (List.mem_cons_of_mem _ h)
  have hown : s.vm.findClass RX0 = some m.cls := findClass_of_methodNamed B.named
  have hlocks := B.notSynchronized
  have hC : CallFix p m c cX0_requireInches 2 s _ lw_all RX0 := ⟨hx, hb, hml, hown, hts⟩
  have hl := lv_entry ([.ref (a 0), .int b]) (n := 2) (Nat.le_of_ble_eq_true rfl)
  rw [lg_entry_eq]
  generalize (lg_sl ([.ref (a 0), .int b]) ++ List.replicate (2 - (lg_sl ([.ref (a 0), .int b])).length) Slot.unset).toArray = ls at hl ⊢
  have hl : lv_has ls 2 [(0, .ref (a 0)), (1, .int b)] := hl
  refine lv_iload_n hx hb dX0_requireInches_0 rfl (lv_at hl 1 rfl) ?_
  refine lv_iconst (v := 1) hx hb dX0_requireInches_1 (by decide) ?_
  refine lv_icmp_lt (tgt := 11) hx hb dX0_requireInches_2 (by decide) (fun c_2 => ?_) (fun c_2 => ?_)
  · exact absurd c_2 h1
  · refine lv_iload_n hx hb dX0_requireInches_5 rfl (lv_at hl 1 rfl) ?_
    refine lv_bipush (v := 60) hx hb dX0_requireInches_6 (by decide) ?_
    refine lv_icmp_le (tgt := 21) hx hb dX0_requireInches_8 (by decide) (fun c_8 => ?_) (fun c_8 => ?_)
    · exact W.vret hx hb hr (fun t ht hW => ⟨rfl, trivial, ht⟩) (fun q hq => absurd hq List.not_mem_nil) dX0_requireInches_21
    · exact absurd h2 c_8
set_option maxRecDepth 100000 in
theorem k_X0_requireInches {p : Program} {l : Launch} {e : Env} {R : Room} {s : State} {m : MethodId} {args : Array Value} {below : List Frame} {meth : Method} {c : Code} {H : Heap} {locs : List Loc} {cells slots : Nat} {Q : State → Prop} {D : va_G} {z : ClassId × ClassId} {a : Nat → Nat} {lv lk pu fa he : Nat → Int32} {n : Nat} {nv du ta : Nat → Int32} {w : Nat} {mp mi : Nat → Int32} {k : Nat} {nt fu re : Int32} {cc : ByteArray} {nL pc : Nat} {ls : Array Slot} {rest : List Value} (hC : CallFix p m c cc nL s args lw_all RX0) (hK : kK D z s) (hP : va_P D vwCl (xW z a lv lk pu fa he n nv du ta w mp mi k nt fu re) H) (hl : ls.size = nL) (hR : 1 ≤ R.frames ∧ 21 ≤ R.locals) (hz : cells ≤ R.cells ∧ slots ≤ R.slots) (hr : (rest.map fun v => v.category).sum ≤ 8) {b : Int32}  (h1 : ¬ b < 1) (h2 : b ≤ 60) (hdg : decode cc pc = .ok (.invokevirtual 87, 3)) (kk : W p l e R s m args below meth c H locs cells slots Q (F0 m (pc + 3) ls rest)) : W p l e R s m args below meth c H locs cells slots Q (F0 m pc ls (.int b :: .ref (a 0) :: rest)) := by
  exact va_csv (W.runV (As := [.int b]) (rest := rest) hC (c_X0_requireInches l b h1 h2) (cwV 1 hC.2.2.2.2 (gi_V mM_X0_87 mV_X0_requireInches mS_X0_requireInches mI_MissRegistry mC_X0_requireInches) rfl rfl rfl (by decide +kernel) hR) (xpre hK hP) rfl rfl hl rfl (lv_room hr) hdg hz) (fun _ => kk)
set_option maxHeartbeats 4000000 in
set_option maxRecDepth 100000 in
theorem c_X0_isAlive (l : Launch) {D : va_G} {z : ClassId × ClassId} {a : Nat → Nat} {lv lk pu fa he : Nat → Int32} {n : Nat} {nv du ta : Nat → Int32} {w : Nat} {mp mi : Nat → Int32} {k : Nat} {nt fu re : Int32} (i : Nat) (hi : i < n) (hn : n ≤ 10) (h01 : lv i = 0 ∨ lv i = 1) : Met l yX0_isAlive (ws_ yX0_isAlive cX0_isAlive 2 (some .boolean)) ({ frames := 2, cells := 0, slots := 0, locals := 42 } : Room) (va_Pc [.ref (a 0), .int (nI i)] (xI D z a lv lk pu fa he n nv du ta w mp mi k nt fu re)) (vp_Si (fun r : Int32 => r = lv i)) 0 0 (fun _ => False) := by
  refine Met.ofW (cc := cX0_isAlive) (maxL := 2) (ret := (some .boolean)) (by decide) rfl ?_
  intro p e s m args below meth c s₁ B hml hv
  obtain ⟨rfl, hP, hK⟩ := hv
  have hx := B.exec
  have hb := B.bytes
  have hr := B.returns
  have hts := atoms_spec (ws := ws_ yX0_isAlive cX0_isAlive 2 (some .boolean)) B.pre
  have hts : ∀ w ∈ lw_all, w.before _ s = true := fun w h => hts w (List.mem_cons_of_mem _ h)
  have hown : s.vm.findClass RX0 = some m.cls := findClass_of_methodNamed B.named
  have hlocks := B.notSynchronized
  have hC : CallFix p m c cX0_isAlive 2 s _ lw_all RX0 := ⟨hx, hb, hml, hown, hts⟩
  have hl := lv_entry ([.ref (a 0), .int (nI i)]) (n := 2) (Nat.le_of_ble_eq_true rfl)
  rw [lg_entry_eq]
  generalize (lg_sl ([.ref (a 0), .int (nI i)]) ++ List.replicate (2 - (lg_sl ([.ref (a 0), .int (nI i)])).length) Slot.unset).toArray = ls at hl ⊢
  have hl : lv_has ls 2 [(0, .ref (a 0)), (1, .int (nI i))] := hl
  refine lv_aload_n hx hb dX0_isAlive_0 rfl (lv_at hl 0 rfl) ?_
  refine lv_iload_n hx hb dX0_isAlive_1 rfl (lv_at hl 1 rfl) ?_
  refine k_X0_requirePerson hC hK hP hl.1 ⟨Nat.le_of_ble_eq_true rfl, Nat.le_of_ble_eq_true rfl⟩ ⟨Nat.zero_le _, Nat.zero_le _⟩ (Nat.le_of_ble_eq_true rfl) rfl (by first | assumption | omega) (by first | assumption | omega) dX0_isAlive_2 ?_
  refine lv_aload_n hx hb dX0_isAlive_5 rfl (lv_at hl 0 rfl) ?_
  refine xg_lv hC hK hP dX0_isAlive_6 ?_
  refine lv_iload_n hx hb dX0_isAlive_9 rfl (lv_at hl 1 rfl) ?_
  refine xl_lv hC hK hP i rfl (by omega) dX0_isAlive_10 ?_
  exact W.zret (v := lv i) hx hb hr (nar_bool h01) (fun t ht hW => ⟨lv i, rfl, rfl, ht⟩) (fun q hq => absurd hq List.not_mem_nil) dX0_isAlive_11
set_option maxHeartbeats 4000000 in
set_option maxRecDepth 100000 in
theorem c_X0_luckOf (l : Launch) {D : va_G} {z : ClassId × ClassId} {a : Nat → Nat} {lv lk pu fa he : Nat → Int32} {n : Nat} {nv du ta : Nat → Int32} {w : Nat} {mp mi : Nat → Int32} {k : Nat} {nt fu re : Int32} (i : Nat) (hi : i < n) (hn : n ≤ 10) : Met l yX0_luckOf (ws_ yX0_luckOf cX0_luckOf 2 (some .int)) ({ frames := 2, cells := 0, slots := 0, locals := 42 } : Room) (va_Pc [.ref (a 0), .int (nI i)] (xI D z a lv lk pu fa he n nv du ta w mp mi k nt fu re)) (vp_Si (fun r : Int32 => r = lk i)) 0 0 (fun _ => False) := by
  refine Met.ofW (cc := cX0_luckOf) (maxL := 2) (ret := (some .int)) (by decide) rfl ?_
  intro p e s m args below meth c s₁ B hml hv
  obtain ⟨rfl, hP, hK⟩ := hv
  have hx := B.exec
  have hb := B.bytes
  have hr := B.returns
  have hts := atoms_spec (ws := ws_ yX0_luckOf cX0_luckOf 2 (some .int)) B.pre
  have hts : ∀ w ∈ lw_all, w.before _ s = true := fun w h => hts w (List.mem_cons_of_mem _ h)
  have hown : s.vm.findClass RX0 = some m.cls := findClass_of_methodNamed B.named
  have hlocks := B.notSynchronized
  have hC : CallFix p m c cX0_luckOf 2 s _ lw_all RX0 := ⟨hx, hb, hml, hown, hts⟩
  have hl := lv_entry ([.ref (a 0), .int (nI i)]) (n := 2) (Nat.le_of_ble_eq_true rfl)
  rw [lg_entry_eq]
  generalize (lg_sl ([.ref (a 0), .int (nI i)]) ++ List.replicate (2 - (lg_sl ([.ref (a 0), .int (nI i)])).length) Slot.unset).toArray = ls at hl ⊢
  have hl : lv_has ls 2 [(0, .ref (a 0)), (1, .int (nI i))] := hl
  refine lv_aload_n hx hb dX0_luckOf_0 rfl (lv_at hl 0 rfl) ?_
  refine lv_iload_n hx hb dX0_luckOf_1 rfl (lv_at hl 1 rfl) ?_
  refine k_X0_requirePerson hC hK hP hl.1 ⟨Nat.le_of_ble_eq_true rfl, Nat.le_of_ble_eq_true rfl⟩ ⟨Nat.zero_le _, Nat.zero_le _⟩ (Nat.le_of_ble_eq_true rfl) rfl (by first | assumption | omega) (by first | assumption | omega) dX0_luckOf_2 ?_
  refine lv_aload_n hx hb dX0_luckOf_5 rfl (lv_at hl 0 rfl) ?_
  refine xg_lk hC hK hP dX0_luckOf_6 ?_
  refine lv_iload_n hx hb dX0_luckOf_9 rfl (lv_at hl 1 rfl) ?_
  refine xl_lk hC hK hP i rfl (by omega) dX0_luckOf_10 ?_
  exact W.iret (v := lk i) hx hb hr (fun t ht hW => ⟨lk i, rfl, rfl, ht⟩) (fun q hq => absurd hq List.not_mem_nil) dX0_luckOf_11
set_option maxHeartbeats 4000000 in
set_option maxRecDepth 100000 in
theorem c_X0_purseOf (l : Launch) {D : va_G} {z : ClassId × ClassId} {a : Nat → Nat} {lv lk pu fa he : Nat → Int32} {n : Nat} {nv du ta : Nat → Int32} {w : Nat} {mp mi : Nat → Int32} {k : Nat} {nt fu re : Int32} (i : Nat) (hi : i < n) (hn : n ≤ 10) : Met l yX0_purseOf (ws_ yX0_purseOf cX0_purseOf 2 (some .int)) ({ frames := 2, cells := 0, slots := 0, locals := 42 } : Room) (va_Pc [.ref (a 0), .int (nI i)] (xI D z a lv lk pu fa he n nv du ta w mp mi k nt fu re)) (vp_Si (fun r : Int32 => r = pu i)) 0 0 (fun _ => False) := by
  refine Met.ofW (cc := cX0_purseOf) (maxL := 2) (ret := (some .int)) (by decide) rfl ?_
  intro p e s m args below meth c s₁ B hml hv
  obtain ⟨rfl, hP, hK⟩ := hv
  have hx := B.exec
  have hb := B.bytes
  have hr := B.returns
  have hts := atoms_spec (ws := ws_ yX0_purseOf cX0_purseOf 2 (some .int)) B.pre
  have hts : ∀ w ∈ lw_all, w.before _ s = true := fun w h => hts w (List.mem_cons_of_mem _ h)
  have hown : s.vm.findClass RX0 = some m.cls := findClass_of_methodNamed B.named
  have hlocks := B.notSynchronized
  have hC : CallFix p m c cX0_purseOf 2 s _ lw_all RX0 := ⟨hx, hb, hml, hown, hts⟩
  have hl := lv_entry ([.ref (a 0), .int (nI i)]) (n := 2) (Nat.le_of_ble_eq_true rfl)
  rw [lg_entry_eq]
  generalize (lg_sl ([.ref (a 0), .int (nI i)]) ++ List.replicate (2 - (lg_sl ([.ref (a 0), .int (nI i)])).length) Slot.unset).toArray = ls at hl ⊢
  have hl : lv_has ls 2 [(0, .ref (a 0)), (1, .int (nI i))] := hl
  refine lv_aload_n hx hb dX0_purseOf_0 rfl (lv_at hl 0 rfl) ?_
  refine lv_iload_n hx hb dX0_purseOf_1 rfl (lv_at hl 1 rfl) ?_
  refine k_X0_requirePerson hC hK hP hl.1 ⟨Nat.le_of_ble_eq_true rfl, Nat.le_of_ble_eq_true rfl⟩ ⟨Nat.zero_le _, Nat.zero_le _⟩ (Nat.le_of_ble_eq_true rfl) rfl (by first | assumption | omega) (by first | assumption | omega) dX0_purseOf_2 ?_
  refine lv_aload_n hx hb dX0_purseOf_5 rfl (lv_at hl 0 rfl) ?_
  refine xg_pu hC hK hP dX0_purseOf_6 ?_
  refine lv_iload_n hx hb dX0_purseOf_9 rfl (lv_at hl 1 rfl) ?_
  refine xl_pu hC hK hP i rfl (by omega) dX0_purseOf_10 ?_
  exact W.iret (v := pu i) hx hb hr (fun t ht hW => ⟨pu i, rfl, rfl, ht⟩) (fun q hq => absurd hq List.not_mem_nil) dX0_purseOf_11
set_option maxHeartbeats 4000000 in
set_option maxRecDepth 100000 in
theorem c_X0_fatesOf (l : Launch) {D : va_G} {z : ClassId × ClassId} {a : Nat → Nat} {lv lk pu fa he : Nat → Int32} {n : Nat} {nv du ta : Nat → Int32} {w : Nat} {mp mi : Nat → Int32} {k : Nat} {nt fu re : Int32} (i : Nat) (hi : i < n) (hn : n ≤ 10) : Met l yX0_fatesOf (ws_ yX0_fatesOf cX0_fatesOf 2 (some .int)) ({ frames := 2, cells := 0, slots := 0, locals := 42 } : Room) (va_Pc [.ref (a 0), .int (nI i)] (xI D z a lv lk pu fa he n nv du ta w mp mi k nt fu re)) (vp_Si (fun r : Int32 => r = fa i)) 0 0 (fun _ => False) := by
  refine Met.ofW (cc := cX0_fatesOf) (maxL := 2) (ret := (some .int)) (by decide) rfl ?_
  intro p e s m args below meth c s₁ B hml hv
  obtain ⟨rfl, hP, hK⟩ := hv
  have hx := B.exec
  have hb := B.bytes
  have hr := B.returns
  have hts := atoms_spec (ws := ws_ yX0_fatesOf cX0_fatesOf 2 (some .int)) B.pre
  have hts : ∀ w ∈ lw_all, w.before _ s = true := fun w h => hts w (List.mem_cons_of_mem _ h)
  have hown : s.vm.findClass RX0 = some m.cls := findClass_of_methodNamed B.named
  have hlocks := B.notSynchronized
  have hC : CallFix p m c cX0_fatesOf 2 s _ lw_all RX0 := ⟨hx, hb, hml, hown, hts⟩
  have hl := lv_entry ([.ref (a 0), .int (nI i)]) (n := 2) (Nat.le_of_ble_eq_true rfl)
  rw [lg_entry_eq]
  generalize (lg_sl ([.ref (a 0), .int (nI i)]) ++ List.replicate (2 - (lg_sl ([.ref (a 0), .int (nI i)])).length) Slot.unset).toArray = ls at hl ⊢
  have hl : lv_has ls 2 [(0, .ref (a 0)), (1, .int (nI i))] := hl
  refine lv_aload_n hx hb dX0_fatesOf_0 rfl (lv_at hl 0 rfl) ?_
  refine lv_iload_n hx hb dX0_fatesOf_1 rfl (lv_at hl 1 rfl) ?_
  refine k_X0_requirePerson hC hK hP hl.1 ⟨Nat.le_of_ble_eq_true rfl, Nat.le_of_ble_eq_true rfl⟩ ⟨Nat.zero_le _, Nat.zero_le _⟩ (Nat.le_of_ble_eq_true rfl) rfl (by first | assumption | omega) (by first | assumption | omega) dX0_fatesOf_2 ?_
  refine lv_aload_n hx hb dX0_fatesOf_5 rfl (lv_at hl 0 rfl) ?_
  refine xg_fa hC hK hP dX0_fatesOf_6 ?_
  refine lv_iload_n hx hb dX0_fatesOf_9 rfl (lv_at hl 1 rfl) ?_
  refine xl_fa hC hK hP i rfl (by omega) dX0_fatesOf_10 ?_
  exact W.iret (v := fa i) hx hb hr (fun t ht hW => ⟨fa i, rfl, rfl, ht⟩) (fun q hq => absurd hq List.not_mem_nil) dX0_fatesOf_11
set_option maxHeartbeats 4000000 in
set_option maxRecDepth 100000 in
theorem c_X0_heirOf (l : Launch) {D : va_G} {z : ClassId × ClassId} {a : Nat → Nat} {lv lk pu fa he : Nat → Int32} {n : Nat} {nv du ta : Nat → Int32} {w : Nat} {mp mi : Nat → Int32} {k : Nat} {nt fu re : Int32} (i : Nat) (hi : i < n) (hn : n ≤ 10) : Met l yX0_heirOf (ws_ yX0_heirOf cX0_heirOf 2 (some .int)) ({ frames := 2, cells := 0, slots := 0, locals := 42 } : Room) (va_Pc [.ref (a 0), .int (nI i)] (xI D z a lv lk pu fa he n nv du ta w mp mi k nt fu re)) (vp_Si (fun r : Int32 => r = he i)) 0 0 (fun _ => False) := by
  refine Met.ofW (cc := cX0_heirOf) (maxL := 2) (ret := (some .int)) (by decide) rfl ?_
  intro p e s m args below meth c s₁ B hml hv
  obtain ⟨rfl, hP, hK⟩ := hv
  have hx := B.exec
  have hb := B.bytes
  have hr := B.returns
  have hts := atoms_spec (ws := ws_ yX0_heirOf cX0_heirOf 2 (some .int)) B.pre
  have hts : ∀ w ∈ lw_all, w.before _ s = true := fun w h => hts w (List.mem_cons_of_mem _ h)
  have hown : s.vm.findClass RX0 = some m.cls := findClass_of_methodNamed B.named
  have hlocks := B.notSynchronized
  have hC : CallFix p m c cX0_heirOf 2 s _ lw_all RX0 := ⟨hx, hb, hml, hown, hts⟩
  have hl := lv_entry ([.ref (a 0), .int (nI i)]) (n := 2) (Nat.le_of_ble_eq_true rfl)
  rw [lg_entry_eq]
  generalize (lg_sl ([.ref (a 0), .int (nI i)]) ++ List.replicate (2 - (lg_sl ([.ref (a 0), .int (nI i)])).length) Slot.unset).toArray = ls at hl ⊢
  have hl : lv_has ls 2 [(0, .ref (a 0)), (1, .int (nI i))] := hl
  refine lv_aload_n hx hb dX0_heirOf_0 rfl (lv_at hl 0 rfl) ?_
  refine lv_iload_n hx hb dX0_heirOf_1 rfl (lv_at hl 1 rfl) ?_
  refine k_X0_requirePerson hC hK hP hl.1 ⟨Nat.le_of_ble_eq_true rfl, Nat.le_of_ble_eq_true rfl⟩ ⟨Nat.zero_le _, Nat.zero_le _⟩ (Nat.le_of_ble_eq_true rfl) rfl (by first | assumption | omega) (by first | assumption | omega) dX0_heirOf_2 ?_
  refine lv_aload_n hx hb dX0_heirOf_5 rfl (lv_at hl 0 rfl) ?_
  refine xg_he hC hK hP dX0_heirOf_6 ?_
  refine lv_iload_n hx hb dX0_heirOf_9 rfl (lv_at hl 1 rfl) ?_
  refine xl_he hC hK hP i rfl (by omega) dX0_heirOf_10 ?_
  exact W.iret (v := he i) hx hb hr (fun t ht hW => ⟨he i, rfl, rfl, ht⟩) (fun q hq => absurd hq List.not_mem_nil) dX0_heirOf_11
set_option maxHeartbeats 4000000 in
set_option maxRecDepth 100000 in
theorem c_X0_lastHeirOf (l : Launch) {D : va_G} {z : ClassId × ClassId} {a : Nat → Nat} {lv lk pu fa he : Nat → Int32} {n : Nat} {nv du ta : Nat → Int32} {w : Nat} {mp mi : Nat → Int32} {k : Nat} {nt fu re : Int32} (i : Nat) (hi : i < n) (hn : n ≤ 10) : Met l yX0_lastHeirOf (ws_ yX0_lastHeirOf cX0_lastHeirOf 2 (some .int)) ({ frames := 2, cells := 0, slots := 0, locals := 44 } : Room) (va_Pc [.ref (a 0), .int (nI i)] (xI D z a lv lk pu fa he n nv du ta w mp mi k nt fu re)) (vp_Si (fun r : Int32 => r = sp_heir he lv n i n (he i))) 0 0 (fun _ => False) := by
  refine Met.ofW (cc := cX0_lastHeirOf) (maxL := 2) (ret := (some .int)) (by decide) rfl ?_
  intro p e s m args below meth c s₁ B hml hv
  obtain ⟨rfl, hP, hK⟩ := hv
  have hx := B.exec
  have hb := B.bytes
  have hr := B.returns
  have hts := atoms_spec (ws := ws_ yX0_lastHeirOf cX0_lastHeirOf 2 (some .int)) B.pre
  have hts : ∀ w ∈ lw_all, w.before _ s = true := fun w h => hts w (List.mem_cons_of_mem _ h)
  have hown : s.vm.findClass RX0 = some m.cls := findClass_of_methodNamed B.named
  have hlocks := B.notSynchronized
  have hC : CallFix p m c cX0_lastHeirOf 2 s _ lw_all RX0 := ⟨hx, hb, hml, hown, hts⟩
  have hl := lv_entry ([.ref (a 0), .int (nI i)]) (n := 2) (Nat.le_of_ble_eq_true rfl)
  rw [lg_entry_eq]
  generalize (lg_sl ([.ref (a 0), .int (nI i)]) ++ List.replicate (2 - (lg_sl ([.ref (a 0), .int (nI i)])).length) Slot.unset).toArray = ls at hl ⊢
  have hl : lv_has ls 2 [(0, .ref (a 0)), (1, .int (nI i))] := hl
  refine lv_aload_n hx hb dX0_lastHeirOf_0 rfl (lv_at hl 0 rfl) ?_
  refine lv_iload_n hx hb dX0_lastHeirOf_1 rfl (lv_at hl 1 rfl) ?_
  refine k_X0_requirePerson hC hK hP hl.1 ⟨Nat.le_of_ble_eq_true rfl, Nat.le_of_ble_eq_true rfl⟩ ⟨Nat.zero_le _, Nat.zero_le _⟩ (Nat.le_of_ble_eq_true rfl) rfl (by first | assumption | omega) (by first | assumption | omega) dX0_lastHeirOf_2 ?_
  refine lv_aload_n hx hb dX0_lastHeirOf_5 rfl (lv_at hl 0 rfl) ?_
  refine lv_iload_n hx hb dX0_lastHeirOf_6 rfl (lv_at hl 1 rfl) ?_
  refine k_X0_findLastHeir hC hK hP hl.1 ⟨Nat.le_of_ble_eq_true rfl, Nat.le_of_ble_eq_true rfl⟩ ⟨Nat.zero_le _, Nat.zero_le _⟩ (Nat.le_of_ble_eq_true rfl) rfl (by first | assumption | omega) (by first | assumption | omega) dX0_lastHeirOf_7 ?_
  exact W.iret (v := sp_heir he lv n i n (he i)) hx hb hr (fun t ht hW => ⟨sp_heir he lv n i n (he i), rfl, rfl, ht⟩) (fun q hq => absurd hq List.not_mem_nil) dX0_lastHeirOf_10
set_option maxHeartbeats 4000000 in
set_option maxRecDepth 100000 in
theorem c_X0_priceFor (l : Launch) {D : va_G} {z : ClassId × ClassId} {a : Nat → Nat} {lv lk pu fa he : Nat → Int32} {n : Nat} {nv du ta : Nat → Int32} {w : Nat} {mp mi : Nat → Int32} {k : Nat} {nt fu re : Int32} (i : Nat) (hi : i < n) (hn : n ≤ 10) : Met l yX0_priceFor (ws_ yX0_priceFor cX0_priceFor 2 (some .int)) ({ frames := 2, cells := 0, slots := 0, locals := 42 } : Room) (va_Pc [.ref (a 0), .int (nI i)] (xI D z a lv lk pu fa he n nv du ta w mp mi k nt fu re)) (vp_Si (fun r : Int32 => r = sp_price (lk i))) 0 0 (fun _ => False) := by
  refine Met.ofW (cc := cX0_priceFor) (maxL := 2) (ret := (some .int)) (by decide) rfl ?_
  intro p e s m args below meth c s₁ B hml hv
  obtain ⟨rfl, hP, hK⟩ := hv
  have hx := B.exec
  have hb := B.bytes
  have hr := B.returns
  have hts := atoms_spec (ws := ws_ yX0_priceFor cX0_priceFor 2 (some .int)) B.pre
  have hts : ∀ w ∈ lw_all, w.before _ s = true := fun w h => hts w (List.mem_cons_of_mem _ h)
  have hown : s.vm.findClass RX0 = some m.cls := findClass_of_methodNamed B.named
  have hlocks := B.notSynchronized
  have hC : CallFix p m c cX0_priceFor 2 s _ lw_all RX0 := ⟨hx, hb, hml, hown, hts⟩
  have hl := lv_entry ([.ref (a 0), .int (nI i)]) (n := 2) (Nat.le_of_ble_eq_true rfl)
  rw [lg_entry_eq]
  generalize (lg_sl ([.ref (a 0), .int (nI i)]) ++ List.replicate (2 - (lg_sl ([.ref (a 0), .int (nI i)])).length) Slot.unset).toArray = ls at hl ⊢
  have hl : lv_has ls 2 [(0, .ref (a 0)), (1, .int (nI i))] := hl
  refine lv_aload_n hx hb dX0_priceFor_0 rfl (lv_at hl 0 rfl) ?_
  refine lv_iload_n hx hb dX0_priceFor_1 rfl (lv_at hl 1 rfl) ?_
  refine k_X0_requirePerson hC hK hP hl.1 ⟨Nat.le_of_ble_eq_true rfl, Nat.le_of_ble_eq_true rfl⟩ ⟨Nat.zero_le _, Nat.zero_le _⟩ (Nat.le_of_ble_eq_true rfl) rfl (by first | assumption | omega) (by first | assumption | omega) dX0_priceFor_2 ?_
  refine lv_aload_n hx hb dX0_priceFor_5 rfl (lv_at hl 0 rfl) ?_
  refine lv_iload_n hx hb dX0_priceFor_6 rfl (lv_at hl 1 rfl) ?_
  refine k_X0_fatePrice hC hK hP hl.1 ⟨Nat.le_of_ble_eq_true rfl, Nat.le_of_ble_eq_true rfl⟩ ⟨Nat.zero_le _, Nat.zero_le _⟩ (Nat.le_of_ble_eq_true rfl) rfl (by first | assumption | omega) dX0_priceFor_7 ?_
  exact W.iret (v := sp_price (lk i)) hx hb hr (fun t ht hW => ⟨sp_price (lk i), rfl, rfl, ht⟩) (fun q hq => absurd hq List.not_mem_nil) dX0_priceFor_10
set_option maxHeartbeats 4000000 in
set_option maxRecDepth 100000 in
theorem c_X0_missesOf (l : Launch) {D : va_G} {z : ClassId × ClassId} {a : Nat → Nat} {lv lk pu fa he : Nat → Int32} {n : Nat} {nv du ta : Nat → Int32} {w : Nat} {mp mi : Nat → Int32} {k : Nat} {nt fu re : Int32} (i : Nat) (hi : i < n) (hn : n ≤ 10) (hk : k ≤ 60) : Met l yX0_missesOf (ws_ yX0_missesOf cX0_missesOf 4 (some .int)) ({ frames := 2, cells := 0, slots := 0, locals := 42 } : Room) (va_Pc [.ref (a 0), .int (nI i)] (xI D z a lv lk pu fa he n nv du ta w mp mi k nt fu re)) (vp_Si (fun r : Int32 => r = sp_many mp (nI i) k)) 0 0 (fun _ => False) := by
  refine Met.ofW (cc := cX0_missesOf) (maxL := 4) (ret := (some .int)) (by decide) rfl ?_
  intro p e s m args below meth c s₁ B hml hv
  obtain ⟨rfl, hP, hK⟩ := hv
  have hx := B.exec
  have hb := B.bytes
  have hr := B.returns
  have hts := atoms_spec (ws := ws_ yX0_missesOf cX0_missesOf 4 (some .int)) B.pre
  have hts : ∀ w ∈ lw_all, w.before _ s = true := fun w h => hts w (List.mem_cons_of_mem _ h)
  have hown : s.vm.findClass RX0 = some m.cls := findClass_of_methodNamed B.named
  have hlocks := B.notSynchronized
  have hC : CallFix p m c cX0_missesOf 4 s _ lw_all RX0 := ⟨hx, hb, hml, hown, hts⟩
  have hl := lv_entry ([.ref (a 0), .int (nI i)]) (n := 4) (Nat.le_of_ble_eq_true rfl)
  rw [lg_entry_eq]
  generalize (lg_sl ([.ref (a 0), .int (nI i)]) ++ List.replicate (4 - (lg_sl ([.ref (a 0), .int (nI i)])).length) Slot.unset).toArray = ls at hl ⊢
  have hl : lv_has ls 4 [(0, .ref (a 0)), (1, .int (nI i))] := hl
  refine lv_aload_n hx hb dX0_missesOf_0 rfl (lv_at hl 0 rfl) ?_
  refine lv_iload_n hx hb dX0_missesOf_1 rfl (lv_at hl 1 rfl) ?_
  refine k_X0_requirePerson hC hK hP hl.1 ⟨Nat.le_of_ble_eq_true rfl, Nat.le_of_ble_eq_true rfl⟩ ⟨Nat.zero_le _, Nat.zero_le _⟩ (Nat.le_of_ble_eq_true rfl) rfl (by first | assumption | omega) (by first | assumption | omega) dX0_missesOf_2 ?_
  refine lv_iconst (v := 0) hx hb dX0_missesOf_5 (by decide) ?_
  refine lv_istore_n (lv' := [(2, .int 0), (0, .ref (a 0)), (1, .int (nI i))]) hx hb dX0_missesOf_6 rfl hl (by decide) rfl (fun ls hl => ?_)
  refine lv_iconst (v := 0) hx hb dX0_missesOf_7 (by decide) ?_
  refine lv_istore_n (lv' := [(3, .int 0), (2, .int 0), (0, .ref (a 0)), (1, .int (nI i))]) hx hb dX0_missesOf_8 rfl hl (by decide) rfl (fun ls hl => ?_)
  have loop_9 : ∀ (f : Nat) (j : Nat) (x : Int32), j ≤ k → k + 1 ≤ j + f → x = sp_many mp (nI i) j → ∀ ls : Array Slot, lv_has ls 4 [(0, .ref (a 0)), (1, .int (nI i)), (2, .int x), (3, .int (nI j))] → W p l e ({ frames := 2, cells := 0, slots := 0, locals := 42 } : Room) s m ([.ref (a 0), .int (nI i)] : List Value).toArray below meth c s.heap [] 0 0 (MQ below (vp_Si (fun r : Int32 => r = sp_many mp (nI i) k)) ([.ref (a 0), .int (nI i)] : List Value).toArray s 0 0 (fun _ => False)) (F0 m 9 ls []) := by
    intro f
    induction f with
    | zero =>
      intro j x hj hf ex
      exact absurd hf (by omega)
    | succ f ih9 =>
      intro j x hj hf ex ls hl
      refine lv_iload_n hx hb dX0_missesOf_9 rfl (lv_at hl 3 rfl) ?_
      refine lv_aload_n hx hb dX0_missesOf_10 rfl (lv_at hl 0 rfl) ?_
      refine xg_k hC hK hP dX0_missesOf_11 ?_
      refine lv_icmp_ge (tgt := 36) hx hb dX0_missesOf_14 (by decide) (fun c_14 => ?_) (fun c_14 => ?_)
      · have nc_14 : k ≤ j := nn_le (by omega) c_14
        refine lv_iload_n hx hb dX0_missesOf_36 rfl (lv_at hl 2 rfl) ?_
        exact W.iret (v := x) hx hb hr (fun t ht hW => ⟨x, rfl, (by rw [ex, show j = k by omega]), ht⟩) (fun q hq => absurd hq List.not_mem_nil) dX0_missesOf_37
      · have nc_14 : j < k := nn_nle (by omega) c_14
        refine lv_aload_n hx hb dX0_missesOf_17 rfl (lv_at hl 0 rfl) ?_
        refine xg_mp hC hK hP dX0_missesOf_18 ?_
        refine lv_iload_n hx hb dX0_missesOf_21 rfl (lv_at hl 3 rfl) ?_
        refine xl_mp hC hK hP j rfl (by omega) dX0_missesOf_22 ?_
        refine lv_iload_n hx hb dX0_missesOf_23 rfl (lv_at hl 1 rfl) ?_
        refine lv_icmp_ne (tgt := 30) hx hb dX0_missesOf_24 (by decide) (fun c_24 => ?_) (fun c_24 => ?_)
        · refine lv_iinc (v := nI (j + 1)) (lv' := [(3, .int (nI (j + 1))), (0, .ref (a 0)), (1, .int (nI i)), (2, .int x)]) hx hb dX0_missesOf_30 hl (k := 3) rfl (nI_1 _) (by decide) rfl (fun ls hl => ?_)
          refine lv_goto (tgt := 9) hx hb dX0_missesOf_33 (by decide) ?_
          exact ih9 (j + 1) x (by omega) (by omega) (by simp [ex, sp_many, c_24]) _ (lv_sub hl [1, 2, 3, 0] rfl)
        · refine lv_iinc (v := x + 1) (lv' := [(2, .int (x + 1)), (0, .ref (a 0)), (1, .int (nI i)), (3, .int (nI j))]) hx hb dX0_missesOf_27 hl (k := 2) rfl rfl (by decide) rfl (fun ls hl => ?_)
          refine lv_iinc (v := nI (j + 1)) (lv' := [(3, .int (nI (j + 1))), (2, .int (x + 1)), (0, .ref (a 0)), (1, .int (nI i))]) hx hb dX0_missesOf_30 hl (k := 3) rfl (nI_1 _) (by decide) rfl (fun ls hl => ?_)
          refine lv_goto (tgt := 9) hx hb dX0_missesOf_33 (by decide) ?_
          exact ih9 (j + 1) (x + 1) (by omega) (by omega) (by simp [ex, sp_many, c_24]) _ (lv_sub hl [2, 3, 1, 0] rfl)
  exact loop_9 (k + 1) 0 0 (Nat.zero_le _) (by omega) rfl _ (lv_sub hl [2, 3, 1, 0] rfl)
set_option maxHeartbeats 4000000 in
set_option maxRecDepth 100000 in
theorem c_X0_closestOf (l : Launch) {D : va_G} {z : ClassId × ClassId} {a : Nat → Nat} {lv lk pu fa he : Nat → Int32} {n : Nat} {nv du ta : Nat → Int32} {w : Nat} {mp mi : Nat → Int32} {k : Nat} {nt fu re : Int32} (i : Nat) (hi : i < n) (hn : n ≤ 10) (hk : k ≤ 60) : Met l yX0_closestOf (ws_ yX0_closestOf cX0_closestOf 5 (some .int)) ({ frames := 2, cells := 0, slots := 0, locals := 42 } : Room) (va_Pc [.ref (a 0), .int (nI i)] (xI D z a lv lk pu fa he n nv du ta w mp mi k nt fu re)) (vp_Si (fun r : Int32 => r = sp_close mp mi (nI i) k)) 0 0 (fun _ => False) := by
  refine Met.ofW (cc := cX0_closestOf) (maxL := 5) (ret := (some .int)) (by decide) rfl ?_
  intro p e s m args below meth c s₁ B hml hv
  obtain ⟨rfl, hP, hK⟩ := hv
  have hx := B.exec
  have hb := B.bytes
  have hr := B.returns
  have hts := atoms_spec (ws := ws_ yX0_closestOf cX0_closestOf 5 (some .int)) B.pre
  have hts : ∀ w ∈ lw_all, w.before _ s = true := fun w h => hts w (List.mem_cons_of_mem _ h)
  have hown : s.vm.findClass RX0 = some m.cls := findClass_of_methodNamed B.named
  have hlocks := B.notSynchronized
  have hC : CallFix p m c cX0_closestOf 5 s _ lw_all RX0 := ⟨hx, hb, hml, hown, hts⟩
  have hl := lv_entry ([.ref (a 0), .int (nI i)]) (n := 5) (Nat.le_of_ble_eq_true rfl)
  rw [lg_entry_eq]
  generalize (lg_sl ([.ref (a 0), .int (nI i)]) ++ List.replicate (5 - (lg_sl ([.ref (a 0), .int (nI i)])).length) Slot.unset).toArray = ls at hl ⊢
  have hl : lv_has ls 5 [(0, .ref (a 0)), (1, .int (nI i))] := hl
  refine lv_aload_n hx hb dX0_closestOf_0 rfl (lv_at hl 0 rfl) ?_
  refine lv_iload_n hx hb dX0_closestOf_1 rfl (lv_at hl 1 rfl) ?_
  refine k_X0_requirePerson hC hK hP hl.1 ⟨Nat.le_of_ble_eq_true rfl, Nat.le_of_ble_eq_true rfl⟩ ⟨Nat.zero_le _, Nat.zero_le _⟩ (Nat.le_of_ble_eq_true rfl) rfl (by first | assumption | omega) (by first | assumption | omega) dX0_closestOf_2 ?_
  refine lv_iconst (v := 0) hx hb dX0_closestOf_5 (by decide) ?_
  refine lv_istore_n (lv' := [(2, .int 0), (0, .ref (a 0)), (1, .int (nI i))]) hx hb dX0_closestOf_6 rfl hl (by decide) rfl (fun ls hl => ?_)
  refine lv_iconst (v := 0) hx hb dX0_closestOf_7 (by decide) ?_
  refine lv_istore_n (lv' := [(3, .int 0), (2, .int 0), (0, .ref (a 0)), (1, .int (nI i))]) hx hb dX0_closestOf_8 rfl hl (by decide) rfl (fun ls hl => ?_)
  have loop_9 : ∀ (f : Nat) (j : Nat) (x : Int32), j ≤ k → k + 1 ≤ j + f → x = sp_close mp mi (nI i) j → ∀ ls : Array Slot, lv_has ls 5 [(0, .ref (a 0)), (1, .int (nI i)), (2, .int x), (3, .int (nI j))] → W p l e ({ frames := 2, cells := 0, slots := 0, locals := 42 } : Room) s m ([.ref (a 0), .int (nI i)] : List Value).toArray below meth c s.heap [] 0 0 (MQ below (vp_Si (fun r : Int32 => r = sp_close mp mi (nI i) k)) ([.ref (a 0), .int (nI i)] : List Value).toArray s 0 0 (fun _ => False)) (F0 m 9 ls []) := by
    intro f
    induction f with
    | zero =>
      intro j x hj hf ex
      exact absurd hf (by omega)
    | succ f ih9 =>
      intro j x hj hf ex ls hl
      refine lv_iload_n hx hb dX0_closestOf_9 rfl (lv_at hl 3 rfl) ?_
      refine lv_aload_n hx hb dX0_closestOf_10 rfl (lv_at hl 0 rfl) ?_
      refine xg_k hC hK hP dX0_closestOf_11 ?_
      refine lv_icmp_ge (tgt := 59) hx hb dX0_closestOf_14 (by decide) (fun c_14 => ?_) (fun c_14 => ?_)
      · have nc_14 : k ≤ j := nn_le (by omega) c_14
        refine lv_iload_n hx hb dX0_closestOf_59 rfl (lv_at hl 2 rfl) ?_
        exact W.iret (v := x) hx hb hr (fun t ht hW => ⟨x, rfl, (by rw [ex, show j = k by omega]), ht⟩) (fun q hq => absurd hq List.not_mem_nil) dX0_closestOf_60
      · have nc_14 : j < k := nn_nle (by omega) c_14
        refine lv_aload_n hx hb dX0_closestOf_17 rfl (lv_at hl 0 rfl) ?_
        refine xg_mi hC hK hP dX0_closestOf_18 ?_
        refine lv_iload_n hx hb dX0_closestOf_21 rfl (lv_at hl 3 rfl) ?_
        refine xl_mi hC hK hP j rfl (by omega) dX0_closestOf_22 ?_
        refine lv_istore (lv' := [(4, .int (mi j)), (0, .ref (a 0)), (1, .int (nI i)), (2, .int x), (3, .int (nI j))]) hx hb dX0_closestOf_23 hl (by decide) rfl (fun ls hl => ?_)
        refine lv_aload_n hx hb dX0_closestOf_25 rfl (lv_at hl 1 rfl) ?_
        refine xg_mp hC hK hP dX0_closestOf_26 ?_
        refine lv_iload_n hx hb dX0_closestOf_29 rfl (lv_at hl 4 rfl) ?_
        refine xl_mp hC hK hP j rfl (by omega) dX0_closestOf_30 ?_
        refine lv_iload_n hx hb dX0_closestOf_31 rfl (lv_at hl 2 rfl) ?_
        refine lv_icmp_ne (tgt := 53) hx hb dX0_closestOf_32 (by decide) (fun c_32 => ?_) (fun c_32 => ?_)
        · refine lv_iinc (v := nI (j + 1)) (lv' := [(3, .int (nI (j + 1))), (4, .int (mi j)), (0, .ref (a 0)), (1, .int (nI i)), (2, .int x)]) hx hb dX0_closestOf_53 hl (k := 4) rfl (nI_1 _) (by decide) rfl (fun ls hl => ?_)
          refine lv_goto (tgt := 9) hx hb dX0_closestOf_56 (by decide) ?_
          exact ih9 (j + 1) x (by omega) (by omega) (by rw [ex] at *; simp [sp_close, c_32]) _ (lv_sub hl [2, 3, 4, 0] rfl)
        · refine lv_iload hx hb dX0_closestOf_35 (lv_at hl 0 rfl) ?_
          refine lv_if_le (tgt := 53) hx hb dX0_closestOf_37 (by decide) (fun c_37 => ?_) (fun c_37 => ?_)
          · refine lv_iinc (v := nI (j + 1)) (lv' := [(3, .int (nI (j + 1))), (4, .int (mi j)), (0, .ref (a 0)), (1, .int (nI i)), (2, .int x)]) hx hb dX0_closestOf_53 hl (k := 4) rfl (nI_1 _) (by decide) rfl (fun ls hl => ?_)
            refine lv_goto (tgt := 9) hx hb dX0_closestOf_56 (by decide) ?_
            exact ih9 (j + 1) x (by omega) (by omega) (by rw [ex] at *; simp [sp_close, c_32, c_37]) _ (lv_sub hl [2, 3, 4, 0] rfl)
          · refine lv_iload_n hx hb dX0_closestOf_40 rfl (lv_at hl 3 rfl) ?_
            refine lv_if_eq (tgt := 50) hx hb dX0_closestOf_41 (by decide) (fun c_41 => ?_) (fun c_41 => ?_)
            · refine lv_iload hx hb dX0_closestOf_50 (lv_at hl 0 rfl) ?_
              refine lv_istore_n (lv' := [(2, .int (mi j)), (4, .int (mi j)), (0, .ref (a 0)), (1, .int (nI i)), (3, .int (nI j))]) hx hb dX0_closestOf_52 rfl hl (by decide) rfl (fun ls hl => ?_)
              refine lv_iinc (v := nI (j + 1)) (lv' := [(3, .int (nI (j + 1))), (2, .int (mi j)), (4, .int (mi j)), (0, .ref (a 0)), (1, .int (nI i))]) hx hb dX0_closestOf_53 hl (k := 4) rfl (nI_1 _) (by decide) rfl (fun ls hl => ?_)
              refine lv_goto (tgt := 9) hx hb dX0_closestOf_56 (by decide) ?_
              exact ih9 (j + 1) (mi j) (by omega) (by omega) (by rw [ex] at *; simp [sp_close, c_32, c_37, c_41]) _ (lv_sub hl [3, 4, 1, 0] rfl)
            · refine lv_iload hx hb dX0_closestOf_44 (lv_at hl 0 rfl) ?_
              refine lv_iload_n hx hb dX0_closestOf_46 rfl (lv_at hl 3 rfl) ?_
              refine lv_icmp_ge (tgt := 53) hx hb dX0_closestOf_47 (by decide) (fun c_47 => ?_) (fun c_47 => ?_)
              · refine lv_iinc (v := nI (j + 1)) (lv' := [(3, .int (nI (j + 1))), (4, .int (mi j)), (0, .ref (a 0)), (1, .int (nI i)), (2, .int x)]) hx hb dX0_closestOf_53 hl (k := 4) rfl (nI_1 _) (by decide) rfl (fun ls hl => ?_)
                refine lv_goto (tgt := 9) hx hb dX0_closestOf_56 (by decide) ?_
                exact ih9 (j + 1) x (by omega) (by omega) (by rw [ex] at *; simp [sp_close, c_32, c_37, c_41, c_47]) _ (lv_sub hl [2, 3, 4, 0] rfl)
              · refine lv_iload hx hb dX0_closestOf_50 (lv_at hl 0 rfl) ?_
                refine lv_istore_n (lv' := [(2, .int (mi j)), (4, .int (mi j)), (0, .ref (a 0)), (1, .int (nI i)), (3, .int (nI j))]) hx hb dX0_closestOf_52 rfl hl (by decide) rfl (fun ls hl => ?_)
                refine lv_iinc (v := nI (j + 1)) (lv' := [(3, .int (nI (j + 1))), (2, .int (mi j)), (4, .int (mi j)), (0, .ref (a 0)), (1, .int (nI i))]) hx hb dX0_closestOf_53 hl (k := 4) rfl (nI_1 _) (by decide) rfl (fun ls hl => ?_)
                refine lv_goto (tgt := 9) hx hb dX0_closestOf_56 (by decide) ?_
                exact ih9 (j + 1) (mi j) (by omega) (by omega) (by rw [ex] at *; simp [sp_close, c_32, c_37, c_41, c_47]) _ (lv_sub hl [3, 4, 1, 0] rfl)
  exact loop_9 (k + 1) 0 0 (Nat.zero_le _) (by omega) rfl _ (lv_sub hl [2, 3, 1, 0] rfl)
set_option maxHeartbeats 4000000 in
set_option maxRecDepth 100000 in
theorem c_X0_nerveOf (l : Launch) {D : va_G} {z : ClassId × ClassId} {a : Nat → Nat} {lv lk pu fa he : Nat → Int32} {n : Nat} {nv du ta : Nat → Int32} {w : Nat} {mp mi : Nat → Int32} {k : Nat} {nt fu re : Int32} (i : Nat) (hi : i < w) (hw : w ≤ 6) : Met l yX0_nerveOf (ws_ yX0_nerveOf cX0_nerveOf 2 (some .int)) ({ frames := 2, cells := 0, slots := 0, locals := 42 } : Room) (va_Pc [.ref (a 0), .int (nI i)] (xI D z a lv lk pu fa he n nv du ta w mp mi k nt fu re)) (vp_Si (fun r : Int32 => r = nv i)) 0 0 (fun _ => False) := by
  refine Met.ofW (cc := cX0_nerveOf) (maxL := 2) (ret := (some .int)) (by decide) rfl ?_
  intro p e s m args below meth c s₁ B hml hv
  obtain ⟨rfl, hP, hK⟩ := hv
  have hx := B.exec
  have hb := B.bytes
  have hr := B.returns
  have hts := atoms_spec (ws := ws_ yX0_nerveOf cX0_nerveOf 2 (some .int)) B.pre
  have hts : ∀ w ∈ lw_all, w.before _ s = true := fun w h => hts w (List.mem_cons_of_mem _ h)
  have hown : s.vm.findClass RX0 = some m.cls := findClass_of_methodNamed B.named
  have hlocks := B.notSynchronized
  have hC : CallFix p m c cX0_nerveOf 2 s _ lw_all RX0 := ⟨hx, hb, hml, hown, hts⟩
  have hl := lv_entry ([.ref (a 0), .int (nI i)]) (n := 2) (Nat.le_of_ble_eq_true rfl)
  rw [lg_entry_eq]
  generalize (lg_sl ([.ref (a 0), .int (nI i)]) ++ List.replicate (2 - (lg_sl ([.ref (a 0), .int (nI i)])).length) Slot.unset).toArray = ls at hl ⊢
  have hl : lv_has ls 2 [(0, .ref (a 0)), (1, .int (nI i))] := hl
  refine lv_aload_n hx hb dX0_nerveOf_0 rfl (lv_at hl 0 rfl) ?_
  refine lv_iload_n hx hb dX0_nerveOf_1 rfl (lv_at hl 1 rfl) ?_
  refine k_X0_requireWitness hC hK hP hl.1 ⟨Nat.le_of_ble_eq_true rfl, Nat.le_of_ble_eq_true rfl⟩ ⟨Nat.zero_le _, Nat.zero_le _⟩ (Nat.le_of_ble_eq_true rfl) rfl (by first | assumption | omega) (by first | assumption | omega) dX0_nerveOf_2 ?_
  refine lv_aload_n hx hb dX0_nerveOf_5 rfl (lv_at hl 0 rfl) ?_
  refine xg_nv hC hK hP dX0_nerveOf_6 ?_
  refine lv_iload_n hx hb dX0_nerveOf_9 rfl (lv_at hl 1 rfl) ?_
  refine xl_nv hC hK hP i rfl (by omega) dX0_nerveOf_10 ?_
  exact W.iret (v := nv i) hx hb hr (fun t ht hW => ⟨nv i, rfl, rfl, ht⟩) (fun q hq => absurd hq List.not_mem_nil) dX0_nerveOf_11
set_option maxHeartbeats 4000000 in
set_option maxRecDepth 100000 in
theorem c_X0_isOnDuty (l : Launch) {D : va_G} {z : ClassId × ClassId} {a : Nat → Nat} {lv lk pu fa he : Nat → Int32} {n : Nat} {nv du ta : Nat → Int32} {w : Nat} {mp mi : Nat → Int32} {k : Nat} {nt fu re : Int32} (i : Nat) (hi : i < w) (hw : w ≤ 6) (h01 : du i = 0 ∨ du i = 1) : Met l yX0_isOnDuty (ws_ yX0_isOnDuty cX0_isOnDuty 2 (some .boolean)) ({ frames := 2, cells := 0, slots := 0, locals := 42 } : Room) (va_Pc [.ref (a 0), .int (nI i)] (xI D z a lv lk pu fa he n nv du ta w mp mi k nt fu re)) (vp_Si (fun r : Int32 => r = du i)) 0 0 (fun _ => False) := by
  refine Met.ofW (cc := cX0_isOnDuty) (maxL := 2) (ret := (some .boolean)) (by decide) rfl ?_
  intro p e s m args below meth c s₁ B hml hv
  obtain ⟨rfl, hP, hK⟩ := hv
  have hx := B.exec
  have hb := B.bytes
  have hr := B.returns
  have hts := atoms_spec (ws := ws_ yX0_isOnDuty cX0_isOnDuty 2 (some .boolean)) B.pre
  have hts : ∀ w ∈ lw_all, w.before _ s = true := fun w h => hts w (List.mem_cons_of_mem _ h)
  have hown : s.vm.findClass RX0 = some m.cls := findClass_of_methodNamed B.named
  have hlocks := B.notSynchronized
  have hC : CallFix p m c cX0_isOnDuty 2 s _ lw_all RX0 := ⟨hx, hb, hml, hown, hts⟩
  have hl := lv_entry ([.ref (a 0), .int (nI i)]) (n := 2) (Nat.le_of_ble_eq_true rfl)
  rw [lg_entry_eq]
  generalize (lg_sl ([.ref (a 0), .int (nI i)]) ++ List.replicate (2 - (lg_sl ([.ref (a 0), .int (nI i)])).length) Slot.unset).toArray = ls at hl ⊢
  have hl : lv_has ls 2 [(0, .ref (a 0)), (1, .int (nI i))] := hl
  refine lv_aload_n hx hb dX0_isOnDuty_0 rfl (lv_at hl 0 rfl) ?_
  refine lv_iload_n hx hb dX0_isOnDuty_1 rfl (lv_at hl 1 rfl) ?_
  refine k_X0_requireWitness hC hK hP hl.1 ⟨Nat.le_of_ble_eq_true rfl, Nat.le_of_ble_eq_true rfl⟩ ⟨Nat.zero_le _, Nat.zero_le _⟩ (Nat.le_of_ble_eq_true rfl) rfl (by first | assumption | omega) (by first | assumption | omega) dX0_isOnDuty_2 ?_
  refine lv_aload_n hx hb dX0_isOnDuty_5 rfl (lv_at hl 0 rfl) ?_
  refine xg_du hC hK hP dX0_isOnDuty_6 ?_
  refine lv_iload_n hx hb dX0_isOnDuty_9 rfl (lv_at hl 1 rfl) ?_
  refine xl_du hC hK hP i rfl (by omega) dX0_isOnDuty_10 ?_
  exact W.zret (v := du i) hx hb hr (nar_bool h01) (fun t ht hW => ⟨du i, rfl, rfl, ht⟩) (fun q hq => absurd hq List.not_mem_nil) dX0_isOnDuty_11
set_option maxHeartbeats 4000000 in
set_option maxRecDepth 100000 in
theorem c_X0_wouldTell (l : Launch) {D : va_G} {z : ClassId × ClassId} {a : Nat → Nat} {lv lk pu fa he : Nat → Int32} {n : Nat} {nv du ta : Nat → Int32} {w : Nat} {mp mi : Nat → Int32} {k : Nat} {nt fu re : Int32} (i : Nat) (hi : i < w) (hw : w ≤ 6) (b : Int32) (h1 : ¬ b < 1) (h2 : b ≤ 60) : Met l yX0_wouldTell (ws_ yX0_wouldTell cX0_wouldTell 3 (some .int)) ({ frames := 2, cells := 0, slots := 0, locals := 43 } : Room) (va_Pc [.ref (a 0), .int (nI i), .int b] (xI D z a lv lk pu fa he n nv du ta w mp mi k nt fu re)) (vp_Si (fun r : Int32 => r = sp_tale (nv i) b)) 0 0 (fun _ => False) := by
  refine Met.ofW (cc := cX0_wouldTell) (maxL := 3) (ret := (some .int)) (by decide) rfl ?_
  intro p e s m args below meth c s₁ B hml hv
  obtain ⟨rfl, hP, hK⟩ := hv
  have hx := B.exec
  have hb := B.bytes
  have hr := B.returns
  have hts := atoms_spec (ws := ws_ yX0_wouldTell cX0_wouldTell 3 (some .int)) B.pre
  have hts : ∀ w ∈ lw_all, w.before _ s = true := fun w h => hts w (List.mem_cons_of_mem _ h)
  have hown : s.vm.findClass RX0 = some m.cls := findClass_of_methodNamed B.named
  have hlocks := B.notSynchronized
  have hC : CallFix p m c cX0_wouldTell 3 s _ lw_all RX0 := ⟨hx, hb, hml, hown, hts⟩
  have hl := lv_entry ([.ref (a 0), .int (nI i), .int b]) (n := 3) (Nat.le_of_ble_eq_true rfl)
  rw [lg_entry_eq]
  generalize (lg_sl ([.ref (a 0), .int (nI i), .int b]) ++ List.replicate (3 - (lg_sl ([.ref (a 0), .int (nI i), .int b])).length) Slot.unset).toArray = ls at hl ⊢
  have hl : lv_has ls 3 [(0, .ref (a 0)), (1, .int (nI i)), (2, .int b)] := hl
  refine lv_aload_n hx hb dX0_wouldTell_0 rfl (lv_at hl 0 rfl) ?_
  refine lv_iload_n hx hb dX0_wouldTell_1 rfl (lv_at hl 1 rfl) ?_
  refine k_X0_requireWitness hC hK hP hl.1 ⟨Nat.le_of_ble_eq_true rfl, Nat.le_of_ble_eq_true rfl⟩ ⟨Nat.zero_le _, Nat.zero_le _⟩ (Nat.le_of_ble_eq_true rfl) rfl (by first | assumption | omega) (by first | assumption | omega) dX0_wouldTell_2 ?_
  refine lv_aload_n hx hb dX0_wouldTell_5 rfl (lv_at hl 0 rfl) ?_
  refine lv_iload_n hx hb dX0_wouldTell_6 rfl (lv_at hl 2 rfl) ?_
  refine k_X0_requireInches hC hK hP hl.1 ⟨Nat.le_of_ble_eq_true rfl, Nat.le_of_ble_eq_true rfl⟩ ⟨Nat.zero_le _, Nat.zero_le _⟩ (Nat.le_of_ble_eq_true rfl)  (by first | assumption | omega) (by first | assumption | omega) dX0_wouldTell_7 ?_
  refine lv_aload_n hx hb dX0_wouldTell_10 rfl (lv_at hl 0 rfl) ?_
  refine lv_iload_n hx hb dX0_wouldTell_11 rfl (lv_at hl 1 rfl) ?_
  refine lv_iload_n hx hb dX0_wouldTell_12 rfl (lv_at hl 2 rfl) ?_
  refine k_X0_tale hC hK hP hl.1 ⟨Nat.le_of_ble_eq_true rfl, Nat.le_of_ble_eq_true rfl⟩ ⟨Nat.zero_le _, Nat.zero_le _⟩ (Nat.le_of_ble_eq_true rfl) rfl (by first | assumption | omega) dX0_wouldTell_13 ?_
  exact W.iret (v := sp_tale (nv i) b) hx hb hr (fun t ht hW => ⟨sp_tale (nv i) b, rfl, rfl, ht⟩) (fun q hq => absurd hq List.not_mem_nil) dX0_wouldTell_16
set_option maxHeartbeats 4000000 in
set_option maxRecDepth 100000 in
theorem c_X0_personOf (l : Launch) {D : va_G} {z : ClassId × ClassId} {a : Nat → Nat} {lv lk pu fa he : Nat → Int32} {n : Nat} {nv du ta : Nat → Int32} {w : Nat} {mp mi : Nat → Int32} {k : Nat} {nt fu re : Int32} (i : Nat) (hi : i < k) (hk : k ≤ 60) : Met l yX0_personOf (ws_ yX0_personOf cX0_personOf 2 (some .int)) ({ frames := 1, cells := 0, slots := 0, locals := 21 } : Room) (va_Pc [.ref (a 0), .int (nI i)] (xI D z a lv lk pu fa he n nv du ta w mp mi k nt fu re)) (vp_Si (fun r : Int32 => r = mp i)) 0 0 (fun _ => False) := by
  refine Met.ofW (cc := cX0_personOf) (maxL := 2) (ret := (some .int)) (by decide) rfl ?_
  intro p e s m args below meth c s₁ B hml hv
  obtain ⟨rfl, hP, hK⟩ := hv
  have hx := B.exec
  have hb := B.bytes
  have hr := B.returns
  have hts := atoms_spec (ws := ws_ yX0_personOf cX0_personOf 2 (some .int)) B.pre
  have hts : ∀ w ∈ lw_all, w.before _ s = true := fun w h => hts w (List.mem_cons_of_mem _ h)
  have hown : s.vm.findClass RX0 = some m.cls := findClass_of_methodNamed B.named
  have hlocks := B.notSynchronized
  have hC : CallFix p m c cX0_personOf 2 s _ lw_all RX0 := ⟨hx, hb, hml, hown, hts⟩
  have hl := lv_entry ([.ref (a 0), .int (nI i)]) (n := 2) (Nat.le_of_ble_eq_true rfl)
  rw [lg_entry_eq]
  generalize (lg_sl ([.ref (a 0), .int (nI i)]) ++ List.replicate (2 - (lg_sl ([.ref (a 0), .int (nI i)])).length) Slot.unset).toArray = ls at hl ⊢
  have hl : lv_has ls 2 [(0, .ref (a 0)), (1, .int (nI i))] := hl
  refine lv_aload_n hx hb dX0_personOf_0 rfl (lv_at hl 0 rfl) ?_
  refine lv_iload_n hx hb dX0_personOf_1 rfl (lv_at hl 1 rfl) ?_
  refine k_X0_requireMiss hC hK hP hl.1 ⟨Nat.le_of_ble_eq_true rfl, Nat.le_of_ble_eq_true rfl⟩ ⟨Nat.zero_le _, Nat.zero_le _⟩ (Nat.le_of_ble_eq_true rfl) rfl (by first | assumption | omega) (by first | assumption | omega) dX0_personOf_2 ?_
  refine lv_aload_n hx hb dX0_personOf_5 rfl (lv_at hl 0 rfl) ?_
  refine xg_mp hC hK hP dX0_personOf_6 ?_
  refine lv_iload_n hx hb dX0_personOf_9 rfl (lv_at hl 1 rfl) ?_
  refine xl_mp hC hK hP i rfl (by omega) dX0_personOf_10 ?_
  exact W.iret (v := mp i) hx hb hr (fun t ht hW => ⟨mp i, rfl, rfl, ht⟩) (fun q hq => absurd hq List.not_mem_nil) dX0_personOf_11
set_option maxHeartbeats 4000000 in
set_option maxRecDepth 100000 in
theorem c_X0_inchesOf (l : Launch) {D : va_G} {z : ClassId × ClassId} {a : Nat → Nat} {lv lk pu fa he : Nat → Int32} {n : Nat} {nv du ta : Nat → Int32} {w : Nat} {mp mi : Nat → Int32} {k : Nat} {nt fu re : Int32} (i : Nat) (hi : i < k) (hk : k ≤ 60) : Met l yX0_inchesOf (ws_ yX0_inchesOf cX0_inchesOf 2 (some .int)) ({ frames := 1, cells := 0, slots := 0, locals := 21 } : Room) (va_Pc [.ref (a 0), .int (nI i)] (xI D z a lv lk pu fa he n nv du ta w mp mi k nt fu re)) (vp_Si (fun r : Int32 => r = mi i)) 0 0 (fun _ => False) := by
  refine Met.ofW (cc := cX0_inchesOf) (maxL := 2) (ret := (some .int)) (by decide) rfl ?_
  intro p e s m args below meth c s₁ B hml hv
  obtain ⟨rfl, hP, hK⟩ := hv
  have hx := B.exec
  have hb := B.bytes
  have hr := B.returns
  have hts := atoms_spec (ws := ws_ yX0_inchesOf cX0_inchesOf 2 (some .int)) B.pre
  have hts : ∀ w ∈ lw_all, w.before _ s = true := fun w h => hts w (List.mem_cons_of_mem _ h)
  have hown : s.vm.findClass RX0 = some m.cls := findClass_of_methodNamed B.named
  have hlocks := B.notSynchronized
  have hC : CallFix p m c cX0_inchesOf 2 s _ lw_all RX0 := ⟨hx, hb, hml, hown, hts⟩
  have hl := lv_entry ([.ref (a 0), .int (nI i)]) (n := 2) (Nat.le_of_ble_eq_true rfl)
  rw [lg_entry_eq]
  generalize (lg_sl ([.ref (a 0), .int (nI i)]) ++ List.replicate (2 - (lg_sl ([.ref (a 0), .int (nI i)])).length) Slot.unset).toArray = ls at hl ⊢
  have hl : lv_has ls 2 [(0, .ref (a 0)), (1, .int (nI i))] := hl
  refine lv_aload_n hx hb dX0_inchesOf_0 rfl (lv_at hl 0 rfl) ?_
  refine lv_iload_n hx hb dX0_inchesOf_1 rfl (lv_at hl 1 rfl) ?_
  refine k_X0_requireMiss hC hK hP hl.1 ⟨Nat.le_of_ble_eq_true rfl, Nat.le_of_ble_eq_true rfl⟩ ⟨Nat.zero_le _, Nat.zero_le _⟩ (Nat.le_of_ble_eq_true rfl) rfl (by first | assumption | omega) (by first | assumption | omega) dX0_inchesOf_2 ?_
  refine lv_aload_n hx hb dX0_inchesOf_5 rfl (lv_at hl 0 rfl) ?_
  refine xg_mi hC hK hP dX0_inchesOf_6 ?_
  refine lv_iload_n hx hb dX0_inchesOf_9 rfl (lv_at hl 1 rfl) ?_
  refine xl_mi hC hK hP i rfl (by omega) dX0_inchesOf_10 ?_
  exact W.iret (v := mi i) hx hb hr (fun t ht hW => ⟨mi i, rfl, rfl, ht⟩) (fun q hq => absurd hq List.not_mem_nil) dX0_inchesOf_11
set_option maxHeartbeats 4000000 in
set_option maxRecDepth 100000 in
theorem c_X0_missesUntilShaken (l : Launch) {D : va_G} {z : ClassId × ClassId} {a : Nat → Nat} {lv lk pu fa he : Nat → Int32} {n : Nat} {nv du ta : Nat → Int32} {w : Nat} {mp mi : Nat → Int32} {k : Nat} {nt fu re : Int32} (b : Int32) (h1 : ¬ b < 1) (h2 : b ≤ 60) (hw : w ≤ 6) : Met l yX0_missesUntilShaken (ws_ yX0_missesUntilShaken cX0_missesUntilShaken 5 (some .int)) ({ frames := 1, cells := 0, slots := 0, locals := 23 } : Room) (va_Pc [.ref (a 0), .int b] (xI D z a lv lk pu fa he n nv du ta w mp mi k nt fu re)) (vp_Si (fun r : Int32 => r = sp_mus nv du w b)) 0 0 (fun _ => False) := by
  refine Met.ofW (cc := cX0_missesUntilShaken) (maxL := 5) (ret := (some .int)) (by decide) rfl ?_
  intro p e s m args below meth c s₁ B hml hv
  obtain ⟨rfl, hP, hK⟩ := hv
  have hx := B.exec
  have hb := B.bytes
  have hr := B.returns
  have hts := atoms_spec (ws := ws_ yX0_missesUntilShaken cX0_missesUntilShaken 5 (some .int)) B.pre
  have hts : ∀ w ∈ lw_all, w.before _ s = true := fun w h => hts w (List.mem_cons_of_mem _ h)
  have hown : s.vm.findClass RX0 = some m.cls := findClass_of_methodNamed B.named
  have hlocks := B.notSynchronized
  have hC : CallFix p m c cX0_missesUntilShaken 5 s _ lw_all RX0 := ⟨hx, hb, hml, hown, hts⟩
  have hl := lv_entry ([.ref (a 0), .int b]) (n := 5) (Nat.le_of_ble_eq_true rfl)
  rw [lg_entry_eq]
  generalize (lg_sl ([.ref (a 0), .int b]) ++ List.replicate (5 - (lg_sl ([.ref (a 0), .int b])).length) Slot.unset).toArray = ls at hl ⊢
  have hl : lv_has ls 5 [(0, .ref (a 0)), (1, .int b)] := hl
  refine lv_aload_n hx hb dX0_missesUntilShaken_0 rfl (lv_at hl 0 rfl) ?_
  refine lv_iload_n hx hb dX0_missesUntilShaken_1 rfl (lv_at hl 1 rfl) ?_
  refine k_X0_requireInches hC hK hP hl.1 ⟨Nat.le_of_ble_eq_true rfl, Nat.le_of_ble_eq_true rfl⟩ ⟨Nat.zero_le _, Nat.zero_le _⟩ (Nat.le_of_ble_eq_true rfl)  (by first | assumption | omega) (by first | assumption | omega) dX0_missesUntilShaken_2 ?_
  refine lv_aload_n hx hb dX0_missesUntilShaken_5 rfl (lv_at hl 0 rfl) ?_
  refine k_X0_steadiest hC hK hP hl.1 ⟨Nat.le_of_ble_eq_true rfl, Nat.le_of_ble_eq_true rfl⟩ ⟨Nat.zero_le _, Nat.zero_le _⟩ (Nat.le_of_ble_eq_true rfl)  (by first | assumption | omega) dX0_missesUntilShaken_6 ?_
  refine lv_istore_n (lv' := [(2, .int ((sp_best du nv w).1)), (0, .ref (a 0)), (1, .int b)]) hx hb dX0_missesUntilShaken_9 rfl hl (by decide) rfl (fun ls hl => ?_)
  refine lv_aload_n hx hb dX0_missesUntilShaken_10 rfl (lv_at hl 1 rfl) ?_
  refine lv_iload_n hx hb dX0_missesUntilShaken_11 rfl (lv_at hl 0 rfl) ?_
  refine k_X0_isWitness hC hK hP hl.1 ⟨Nat.le_of_ble_eq_true rfl, Nat.le_of_ble_eq_true rfl⟩ ⟨Nat.zero_le _, Nat.zero_le _⟩ (Nat.le_of_ble_eq_true rfl)   dX0_missesUntilShaken_12 ?_
  refine lv_if_ne (tgt := 20) hx hb dX0_missesUntilShaken_15 (by decide) (fun c_15 => ?_) (fun c_15 => ?_)
  · obtain ⟨y, hyw, hy⟩ := isP_ex (by omega) c_15
    have eNy : (sp_best du nv w).1.toNatClampNeg = y := by rw [hy]; exact nI_clamp (by omega)
    refine lv_iload_n hx hb dX0_missesUntilShaken_20 rfl (lv_at hl 2 rfl) ?_
    refine k_X0_nerveLoss hC hl.1 ⟨Nat.le_of_ble_eq_true rfl, Nat.le_of_ble_eq_true rfl⟩ ⟨Nat.zero_le _, Nat.zero_le _⟩ (Nat.le_of_ble_eq_true rfl)   dX0_missesUntilShaken_21 ?_
    refine lv_istore_n (lv' := [(3, .int (sp_loss b)), (2, .int ((sp_best du nv w).1)), (0, .ref (a 0)), (1, .int b)]) hx hb dX0_missesUntilShaken_24 rfl hl (by decide) rfl (fun ls hl => ?_)
    refine lv_iconst (v := 0) hx hb dX0_missesUntilShaken_25 (by decide) ?_
    refine lv_istore (lv' := [(4, .int 0), (3, .int (sp_loss b)), (2, .int ((sp_best du nv w).1)), (0, .ref (a 0)), (1, .int b)]) hx hb dX0_missesUntilShaken_26 hl (by decide) rfl (fun ls hl => ?_)
    have loop_28 : ∀ (f : Nat) (j : Nat), j ≤ 9 → j + f = 10 → sp_musN (nv y) (sp_loss b) f j = sp_musN (nv y) (sp_loss b) 10 0 → ∀ ls : Array Slot, lv_has ls 5 [(0, .ref (a 0)), (1, .int b), (2, .int ((sp_best du nv w).1)), (3, .int (sp_loss b)), (4, .int (nI j))] → W p l e ({ frames := 1, cells := 0, slots := 0, locals := 23 } : Room) s m ([.ref (a 0), .int b] : List Value).toArray below meth c s.heap [] 0 0 (MQ below (vp_Si (fun r : Int32 => r = sp_mus nv du w b)) ([.ref (a 0), .int b] : List Value).toArray s 0 0 (fun _ => False)) (F0 m 28 ls []) := by
      intro f
      induction f with
      | zero =>
        intro j hj hf er
        exact absurd hf (by omega)
      | succ f ih28 =>
        intro j hj hf er ls hl
        refine lv_iload hx hb dX0_missesUntilShaken_28 (lv_at hl 4 rfl) ?_
        refine lv_bipush (v := 9) hx hb dX0_missesUntilShaken_30 (by decide) ?_
        refine lv_icmp_ge (tgt := 56) hx hb dX0_missesUntilShaken_32 (by decide) (fun c_32 => ?_) (fun c_32 => ?_)
        · have nc_32 : 9 ≤ j := nn_le (by omega) c_32
          refine lv_iload hx hb dX0_missesUntilShaken_56 (lv_at hl 4 rfl) ?_
          exact W.iret (v := nI j) hx hb hr (fun t ht hW => ⟨nI j, rfl, (by unfold sp_mus; rw [if_neg c_15, eNy, ← er]; simp [sp_musN, nc_32]), ht⟩) (fun q hq => absurd hq List.not_mem_nil) dX0_missesUntilShaken_58
        · have nc_32 : j < 9 := nn_nle (by omega) c_32
          refine lv_aload_n hx hb dX0_missesUntilShaken_35 rfl (lv_at hl 0 rfl) ?_
          refine xg_nv hC hK hP dX0_missesUntilShaken_36 ?_
          refine lv_iload_n hx hb dX0_missesUntilShaken_39 rfl (lv_at hl 2 rfl) ?_
          refine xl_nv hC hK hP y hy (by omega) dX0_missesUntilShaken_40 ?_
          refine lv_iload hx hb dX0_missesUntilShaken_41 (lv_at hl 4 rfl) ?_
          refine lv_iload_n hx hb dX0_missesUntilShaken_43 rfl (lv_at hl 3 rfl) ?_
          refine lv_imul hx hb dX0_missesUntilShaken_44 ?_
          refine lv_isub hx hb dX0_missesUntilShaken_45 ?_
          refine lv_iconst (v := 2) hx hb dX0_missesUntilShaken_46 (by decide) ?_
          refine lv_icmp_le (tgt := 56) hx hb dX0_missesUntilShaken_47 (by decide) (fun c_47 => ?_) (fun c_47 => ?_)
          · refine lv_iload hx hb dX0_missesUntilShaken_56 (lv_at hl 4 rfl) ?_
            exact W.iret (v := nI j) hx hb hr (fun t ht hW => ⟨nI j, rfl, (by unfold sp_mus; rw [if_neg c_15, eNy, ← er]; simp [sp_musN, c_47]), ht⟩) (fun q hq => absurd hq List.not_mem_nil) dX0_missesUntilShaken_58
          · refine lv_iinc (v := nI (j + 1)) (lv' := [(4, .int (nI (j + 1))), (0, .ref (a 0)), (1, .int b), (2, .int ((sp_best du nv w).1)), (3, .int (sp_loss b))]) hx hb dX0_missesUntilShaken_50 hl (k := 4) rfl (nI_1 _) (by decide) rfl (fun ls hl => ?_)
            refine lv_goto (tgt := 28) hx hb dX0_missesUntilShaken_53 (by decide) ?_
            exact ih28 (j + 1) (by omega) (by omega) (by rw [← er]; simp [sp_musN, c_47, Nat.not_le.mpr nc_32]) _ (lv_sub hl [1, 2, 3, 4, 0] rfl)
    exact loop_28 10 0 (by omega) (by omega) rfl _ (lv_sub hl [3, 4, 2, 1, 0] rfl)
  · refine lv_iconst (v := 0) hx hb dX0_missesUntilShaken_18 (by decide) ?_
    exact W.iret (v := 0) hx hb hr (fun t ht hW => ⟨0, rfl, (by unfold sp_mus; rw [if_pos c_15]), ht⟩) (fun q hq => absurd hq List.not_mem_nil) dX0_missesUntilShaken_19

theorem le_nlt {x y : Int32} (h : x ≤ y) : ¬ y < x := by rw [Int32.lt_iff_toInt_lt]; rw [Int32.le_iff_toInt_le] at h; omega
theorem i32_rng (x : Int32) : -2147483648 ≤ x.toInt ∧ x.toInt < 2147483648 := ⟨by have := Int32.le_toInt x; simpa using this, by have := Int32.toInt_lt x; simpa using this⟩
def sp_in (x lo hi : Int32) : Int32 := if x < lo then 0 else if hi < x then 0 else 1
def mq_liv (gn : Nat → Int32) : Nat → Int32
  | 0 => 0
  | j + 1 => if gn j = 0 then mq_liv gn j + 1 else mq_liv gn j
def mq_last (he gn : Nat → Int32) (p : Nat) : Nat → Nat → Int32
  | 0, _ => -1
  | f + 1, t => if he t = -1 then -1 else if he t = nI p then -1 else if gn (he t).toNatClampNeg = 0 then he t else mq_last he gn p f (he t).toNatClampNeg
def mq_cn (of nv : Nat → Int32) (b : Int32) : Nat → Int32
  | 0 => 0
  | j + 1 => if of j = 0 then if sp_tale (nv j) b ≤ 0 then mq_cn of nv b j else mq_cn of nv b j + 1 else mq_cn of nv b j
def mq_es (of nv : Nat → Int32) (b t s : Int32) : Nat → Int32
  | 0 => s
  | j + 1 => if of j = 0 then if sp_tale (nv j) b = t then mq_es of nv b t s j + 1 else mq_es of nv b t s j else mq_es of nv b t s j
def mq_sr (of nv : Nat → Int32) (b : Int32) (w : Nat) (q : Int32) : Nat → Nat → Int32 → Int32
  | 0, _, _ => 0
  | f + 1, t, s => if 60 < nI t then 0 else if mq_es of nv b (nI t) s w ≤ (q - 1) / 2 then mq_sr of nv b w q f (t + 1) (mq_es of nv b (nI t) s w) else nI t
def mq_mid (of nv : Nat → Int32) (b : Int32) (w : Nat) : Int32 := if mq_cn of nv b w = 0 then 0 else mq_sr of nv b w (mq_cn of nv b w) 61 1 0
def mq_rfd (fv lkv fu ce : Int32) : Int32 := if ce = 0 then 0 else if 24 < ce then 0 else if fv = 0 then 0 else imin fu (sp_price lkv + 24 - ce)
def mq_mx (of nv : Nat → Int32) : Nat → Int32
  | 0 => 0
  | j + 1 => if of j = 0 then imax (mq_mx of nv j) (nv j) else mq_mx of nv j
def mq_usk (of nv : Nat → Int32) (w : Nat) (b : Int32) : Int32 := if 2 < mq_mx of nv w then (mq_mx of nv w - 2 + sp_loss b - 1) / sp_loss b else 0
def mq_cl (v o : Int32) : Int32 := if o = 0 then imax 0 (3 - v) else (imax 0 (3 - v) + 1) / 2
def mq_ucl (of nv : Nat → Int32) : Nat → Int32
  | 0 => 0
  | j + 1 => imax (mq_ucl of nv j) (mq_cl (nv j) (of j))
def mq_best (gn v : Nat → Int32) : Nat → Int32
  | 0 => -1
  | j + 1 => if gn j = 0 then if mq_best gn v j = -1 then nI j else if v j ≤ v (mq_best gn v j).toNatClampNeg then mq_best gn v j else nI j else mq_best gn v j
theorem best_ex (gn v : Nat → Int32) : ∀ j : Nat, mq_best gn v j = -1 ∨ ∃ t : Nat, t < j ∧ mq_best gn v j = nI t
  | 0 => Or.inl rfl
  | j + 1 => by
    unfold mq_best
    have ih := best_ex gn v j
    have up : mq_best gn v j = -1 ∨ ∃ t : Nat, t < j + 1 ∧ mq_best gn v j = nI t := ih.imp id (fun ⟨t, h1, h2⟩ => ⟨t, by omega, h2⟩)
    split
    · split
      · exact Or.inr ⟨j, by omega, rfl⟩
      · split
        · exact up
        · exact Or.inr ⟨j, by omega, rfl⟩
    · exact up
theorem pm1 {n : Nat} (hn : n < 2 ^ 31) (x : Int32) : nI n - 1 < x ↔ nI n ≤ x := by
  have h1 : (1 : Int32).toInt = 1 := by decide
  have h2 := i32_rng x
  rw [Int32.lt_iff_toInt_lt, Int32.le_iff_toInt_le, Int32.toInt_sub, nI_toInt hn, h1, Int.bmod_eq_of_le (by omega) (by omega)]
  omega
theorem in_P {n : Nat} (hn : n < 2 ^ 31) (x : Int32) : sp_in x 0 (nI n - 1) = sp_isP n x := by
  unfold sp_in sp_isP
  by_cases h : x < 0
  · rw [if_pos h, if_pos h]
  · rw [if_neg h, if_neg h]
    by_cases h2 : nI n ≤ x
    · rw [if_pos ((pm1 hn x).mpr h2), if_pos h2]
    · rw [if_neg (fun q => h2 ((pm1 hn x).mp q)), if_neg h2]
theorem loss_ne (b : Int32) : ¬ sp_loss b = 0 := by
  unfold sp_loss
  split
  · split <;> decide
  · decide
theorem isP_bool (n : Nat) (x : Int32) : sp_isP n x = 0 ∨ sp_isP n x = 1 := by
  unfold sp_isP
  split
  · exact Or.inl rfl
  · split
    · exact Or.inl rfl
    · exact Or.inr rfl

set_option maxHeartbeats 4000000 in
set_option maxRecDepth 100000 in
theorem c_X1_isIn (l : Launch) (x lo hi : Int32) : Met l yX1_isIn (ws_ yX1_isIn cX1_isIn 3 (some .boolean)) ({ frames := 0, cells := 0, slots := 0, locals := 0 } : Room) (va_Pc [.int x, .int lo, .int hi] (fun _ => True)) (vp_Si (fun r : Int32 => r = sp_in x lo hi)) 0 0 (fun _ => False) := by
  refine Met.ofW (cc := cX1_isIn) (maxL := 3) (ret := (some .boolean)) (by decide) rfl ?_
  intro p e s m args below meth c s₁ B hml hv
  obtain ⟨rfl, -⟩ := hv
  have hx := B.exec
  have hb := B.bytes
  have hr := B.returns
  have hts := atoms_spec (ws := ws_ yX1_isIn cX1_isIn 3 (some .boolean)) B.pre
  have hts : ∀ w ∈ lw_all, w.before _ s = true := fun w h => hts w (List.mem_cons_of_mem _ h)
  have hown : s.vm.findClass RX1 = some m.cls := findClass_of_methodNamed B.named
  have hlocks := B.notSynchronized
  have hC : CallFix p m c cX1_isIn 3 s _ lw_all RX1 := ⟨hx, hb, hml, hown, hts⟩
  have hl := lv_entry ([.int x, .int lo, .int hi]) (n := 3) (Nat.le_of_ble_eq_true rfl)
  rw [lg_entry_eq]
  generalize (lg_sl ([.int x, .int lo, .int hi]) ++ List.replicate (3 - (lg_sl ([.int x, .int lo, .int hi])).length) Slot.unset).toArray = ls at hl ⊢
  have hl : lv_has ls 3 [(0, .int x), (1, .int lo), (2, .int hi)] := hl
  refine lv_iload_n hx hb dX1_isIn_0 rfl (lv_at hl 0 rfl) ?_
  refine lv_iload_n hx hb dX1_isIn_1 rfl (lv_at hl 1 rfl) ?_
  refine lv_icmp_lt (tgt := 14) hx hb dX1_isIn_2 (by decide) (fun c_2 => ?_) (fun c_2 => ?_)
  · refine lv_iconst (v := 0) hx hb dX1_isIn_14 (by decide) ?_
    exact W.zret (v := 0) hx hb hr (by decide) (fun t ht hW => ⟨0, rfl, (by simp [sp_in, c_2]), ht⟩) (fun q hq => absurd hq List.not_mem_nil) dX1_isIn_15
  · refine lv_iload_n hx hb dX1_isIn_5 rfl (lv_at hl 0 rfl) ?_
    refine lv_iload_n hx hb dX1_isIn_6 rfl (lv_at hl 2 rfl) ?_
    refine lv_icmp_gt (tgt := 14) hx hb dX1_isIn_7 (by decide) (fun c_7 => ?_) (fun c_7 => ?_)
    · refine lv_iconst (v := 0) hx hb dX1_isIn_14 (by decide) ?_
      exact W.zret (v := 0) hx hb hr (by decide) (fun t ht hW => ⟨0, rfl, (by simp [sp_in, c_2, c_7]), ht⟩) (fun q hq => absurd hq List.not_mem_nil) dX1_isIn_15
    · refine lv_iconst (v := 1) hx hb dX1_isIn_10 (by decide) ?_
      refine lv_goto (tgt := 15) hx hb dX1_isIn_11 (by decide) ?_
      exact W.zret (v := 1) hx hb hr (by decide) (fun t ht hW => ⟨1, rfl, (by simp [sp_in, c_2, c_7]), ht⟩) (fun q hq => absurd hq List.not_mem_nil) dX1_isIn_15
set_option maxRecDepth 100000 in
theorem k_X1_isIn {p : Program} {l : Launch} {e : Env} {R : Room} {s : State} {m : MethodId} {args : Array Value} {below : List Frame} {meth : Method} {c : Code} {H : Heap} {locs : List Loc} {cells slots : Nat} {Q : State → Prop} {cc : ByteArray} {nL pc : Nat} {ls : Array Slot} {rest : List Value} (hC : CallFix p m c cc nL s args lw_all RX1) (hl : ls.size = nL) (hR : 1 ≤ R.frames ∧ 22 ≤ R.locals) (hz : cells ≤ R.cells ∧ slots ≤ R.slots) (hr : (rest.map fun v => v.category).sum ≤ 8) {x : Int32} {lo : Int32} {hi : Int32}   (hdg : decode cc pc = .ok (.invokestatic 45, 3)) (kk : W p l e R s m args below meth c H locs cells slots Q (F0 m (pc + 3) ls (.int (sp_in x lo hi) :: rest))) : W p l e R s m args below meth c H locs cells slots Q (F0 m pc ls (.int hi :: .int lo :: .int x :: rest)) := by
  exact vp_callSi (W.runS (As := [.int x, .int lo, .int hi]) (rest := rest) hC (c_X1_isIn l x lo hi) (va_cwS 3 hC.2.2.2.2 (gi_S mM_X1_45 mT_X1_isIn mI_MissRegistryModel mC_X1_isIn) rfl rfl rfl (by decide +kernel) hR) ⟨fun _ _ _ _ q => q, fun U hU hW => ⟨rfl, trivial⟩⟩ rfl rfl hl rfl (lv_room hr) hdg hz) (fun r hr => by rw [hr]; exact kk)
set_option maxHeartbeats 4000000 in
set_option maxRecDepth 100000 in
theorem c_X1_isPerson (l : Launch) {D : va_G} {z : ClassId × ClassId} {a : Nat → Nat} {th : Int32} {n w : Nat} {gn lk pu fa he nv of mp mi : Nat → Int32} {k : Nat} {nt fu re : Int32} (x : Int32) (hn : n ≤ 10) : Met l yX1_isPerson (ws_ yX1_isPerson cX1_isPerson 2 (some .boolean)) ({ frames := 1, cells := 0, slots := 0, locals := 22 } : Room) (va_Pc [.ref (a 0), .int x] (mI D z a th n w gn lk pu fa he nv of mp mi k nt fu re)) (vp_Si (fun r : Int32 => r = sp_isP n x)) 0 0 (fun _ => False) := by
  refine Met.ofW (cc := cX1_isPerson) (maxL := 2) (ret := (some .boolean)) (by decide) rfl ?_
  intro p e s m args below meth c s₁ B hml hv
  obtain ⟨rfl, hP, hK⟩ := hv
  have hx := B.exec
  have hb := B.bytes
  have hr := B.returns
  have hts := atoms_spec (ws := ws_ yX1_isPerson cX1_isPerson 2 (some .boolean)) B.pre
  have hts : ∀ w ∈ lw_all, w.before _ s = true := fun w h => hts w (List.mem_cons_of_mem _ h)
  have hown : s.vm.findClass RX1 = some m.cls := findClass_of_methodNamed B.named
  have hlocks := B.notSynchronized
  have hC : CallFix p m c cX1_isPerson 2 s _ lw_all RX1 := ⟨hx, hb, hml, hown, hts⟩
  have hl := lv_entry ([.ref (a 0), .int x]) (n := 2) (Nat.le_of_ble_eq_true rfl)
  rw [lg_entry_eq]
  generalize (lg_sl ([.ref (a 0), .int x]) ++ List.replicate (2 - (lg_sl ([.ref (a 0), .int x])).length) Slot.unset).toArray = ls at hl ⊢
  have hl : lv_has ls 2 [(0, .ref (a 0)), (1, .int x)] := hl
  refine lv_iload_n hx hb dX1_isPerson_0 rfl (lv_at hl 1 rfl) ?_
  refine lv_iconst (v := 0) hx hb dX1_isPerson_1 (by decide) ?_
  refine lv_aload_n hx hb dX1_isPerson_2 rfl (lv_at hl 0 rfl) ?_
  refine mg_n hC hK hP dX1_isPerson_3 ?_
  refine lv_iconst (v := 1) hx hb dX1_isPerson_6 (by decide) ?_
  refine lv_isub hx hb dX1_isPerson_7 ?_
  refine k_X1_isIn hC hl.1 ⟨Nat.le_of_ble_eq_true rfl, Nat.le_of_ble_eq_true rfl⟩ ⟨Nat.zero_le _, Nat.zero_le _⟩ (Nat.le_of_ble_eq_true rfl)   dX1_isPerson_8 ?_
  exact W.zret (v := sp_in x 0 ((nI n) - 1)) hx hb hr (nar_bool (by rw [in_P (by omega)]; exact isP_bool _ _)) (fun t ht hW => ⟨sp_in x 0 ((nI n) - 1), rfl, (in_P (by omega) x), ht⟩) (fun q hq => absurd hq List.not_mem_nil) dX1_isPerson_11
set_option maxRecDepth 100000 in
theorem k_X1_isPerson {p : Program} {l : Launch} {e : Env} {R : Room} {s : State} {m : MethodId} {args : Array Value} {below : List Frame} {meth : Method} {c : Code} {H : Heap} {locs : List Loc} {cells slots : Nat} {Q : State → Prop} {D : va_G} {z : ClassId × ClassId} {a : Nat → Nat} {th : Int32} {n w : Nat} {gn lk pu fa he nv of mp mi : Nat → Int32} {k : Nat} {nt fu re : Int32} {cc : ByteArray} {nL pc : Nat} {ls : Array Slot} {rest : List Value} (hC : CallFix p m c cc nL s args lw_all RX1) (hK : kK D z s) (hP : va_P D vwCl (mW z a th n w gn lk pu fa he nv of mp mi k nt fu re) H) (hl : ls.size = nL) (hR : 2 ≤ R.frames ∧ 43 ≤ R.locals) (hz : cells ≤ R.cells ∧ slots ≤ R.slots) (hr : (rest.map fun v => v.category).sum ≤ 8) {x : Int32}  (hn : n ≤ 10) (hdg : decode cc pc = .ok (.invokevirtual 100, 3)) (kk : W p l e R s m args below meth c H locs cells slots Q (F0 m (pc + 3) ls (.int (sp_isP n x) :: rest))) : W p l e R s m args below meth c H locs cells slots Q (F0 m pc ls (.int x :: .ref (a 0) :: rest)) := by
  exact vp_callSi (W.runV (As := [.int x]) (rest := rest) hC (c_X1_isPerson l x hn) (cwV 1 hC.2.2.2.2 (gi_V mM_X1_100 mV_X1_isPerson mS_X1_isPerson mI_MissRegistryModel mC_X1_isPerson) rfl rfl rfl (by decide +kernel) hR) (mpre hK hP) rfl rfl hl rfl (lv_room hr) hdg hz) (fun r hr => by rw [hr]; exact kk)
set_option maxHeartbeats 4000000 in
set_option maxRecDepth 100000 in
theorem c_X1_isWitness (l : Launch) {D : va_G} {z : ClassId × ClassId} {a : Nat → Nat} {th : Int32} {n w : Nat} {gn lk pu fa he nv of mp mi : Nat → Int32} {k : Nat} {nt fu re : Int32} (x : Int32) (hw : w ≤ 6) : Met l yX1_isWitness (ws_ yX1_isWitness cX1_isWitness 2 (some .boolean)) ({ frames := 1, cells := 0, slots := 0, locals := 22 } : Room) (va_Pc [.ref (a 0), .int x] (mI D z a th n w gn lk pu fa he nv of mp mi k nt fu re)) (vp_Si (fun r : Int32 => r = sp_isP w x)) 0 0 (fun _ => False) := by
  refine Met.ofW (cc := cX1_isWitness) (maxL := 2) (ret := (some .boolean)) (by decide) rfl ?_
  intro p e s m args below meth c s₁ B hml hv
  obtain ⟨rfl, hP, hK⟩ := hv
  have hx := B.exec
  have hb := B.bytes
  have hr := B.returns
  have hts := atoms_spec (ws := ws_ yX1_isWitness cX1_isWitness 2 (some .boolean)) B.pre
  have hts : ∀ w ∈ lw_all, w.before _ s = true := fun w h => hts w (List.mem_cons_of_mem _ h)
  have hown : s.vm.findClass RX1 = some m.cls := findClass_of_methodNamed B.named
  have hlocks := B.notSynchronized
  have hC : CallFix p m c cX1_isWitness 2 s _ lw_all RX1 := ⟨hx, hb, hml, hown, hts⟩
  have hl := lv_entry ([.ref (a 0), .int x]) (n := 2) (Nat.le_of_ble_eq_true rfl)
  rw [lg_entry_eq]
  generalize (lg_sl ([.ref (a 0), .int x]) ++ List.replicate (2 - (lg_sl ([.ref (a 0), .int x])).length) Slot.unset).toArray = ls at hl ⊢
  have hl : lv_has ls 2 [(0, .ref (a 0)), (1, .int x)] := hl
  refine lv_iload_n hx hb dX1_isWitness_0 rfl (lv_at hl 1 rfl) ?_
  refine lv_iconst (v := 0) hx hb dX1_isWitness_1 (by decide) ?_
  refine lv_aload_n hx hb dX1_isWitness_2 rfl (lv_at hl 0 rfl) ?_
  refine mg_w hC hK hP dX1_isWitness_3 ?_
  refine lv_iconst (v := 1) hx hb dX1_isWitness_6 (by decide) ?_
  refine lv_isub hx hb dX1_isWitness_7 ?_
  refine k_X1_isIn hC hl.1 ⟨Nat.le_of_ble_eq_true rfl, Nat.le_of_ble_eq_true rfl⟩ ⟨Nat.zero_le _, Nat.zero_le _⟩ (Nat.le_of_ble_eq_true rfl)   dX1_isWitness_8 ?_
  exact W.zret (v := sp_in x 0 ((nI w) - 1)) hx hb hr (nar_bool (by rw [in_P (by omega)]; exact isP_bool _ _)) (fun t ht hW => ⟨sp_in x 0 ((nI w) - 1), rfl, (in_P (by omega) x), ht⟩) (fun q hq => absurd hq List.not_mem_nil) dX1_isWitness_11
set_option maxRecDepth 100000 in
theorem k_X1_isWitness {p : Program} {l : Launch} {e : Env} {R : Room} {s : State} {m : MethodId} {args : Array Value} {below : List Frame} {meth : Method} {c : Code} {H : Heap} {locs : List Loc} {cells slots : Nat} {Q : State → Prop} {D : va_G} {z : ClassId × ClassId} {a : Nat → Nat} {th : Int32} {n w : Nat} {gn lk pu fa he nv of mp mi : Nat → Int32} {k : Nat} {nt fu re : Int32} {cc : ByteArray} {nL pc : Nat} {ls : Array Slot} {rest : List Value} (hC : CallFix p m c cc nL s args lw_all RX1) (hK : kK D z s) (hP : va_P D vwCl (mW z a th n w gn lk pu fa he nv of mp mi k nt fu re) H) (hl : ls.size = nL) (hR : 2 ≤ R.frames ∧ 43 ≤ R.locals) (hz : cells ≤ R.cells ∧ slots ≤ R.slots) (hr : (rest.map fun v => v.category).sum ≤ 8) {x : Int32}  (hw : w ≤ 6) (hdg : decode cc pc = .ok (.invokevirtual 104, 3)) (kk : W p l e R s m args below meth c H locs cells slots Q (F0 m (pc + 3) ls (.int (sp_isP w x) :: rest))) : W p l e R s m args below meth c H locs cells slots Q (F0 m pc ls (.int x :: .ref (a 0) :: rest)) := by
  exact vp_callSi (W.runV (As := [.int x]) (rest := rest) hC (c_X1_isWitness l x hw) (cwV 1 hC.2.2.2.2 (gi_V mM_X1_104 mV_X1_isWitness mS_X1_isWitness mI_MissRegistryModel mC_X1_isWitness) rfl rfl rfl (by decide +kernel) hR) (mpre hK hP) rfl rfl hl rfl (lv_room hr) hdg hz) (fun r hr => by rw [hr]; exact kk)
set_option maxHeartbeats 4000000 in
set_option maxRecDepth 100000 in
theorem c_X1_isMiss (l : Launch) {D : va_G} {z : ClassId × ClassId} {a : Nat → Nat} {th : Int32} {n w : Nat} {gn lk pu fa he nv of mp mi : Nat → Int32} {k : Nat} {nt fu re : Int32} (x : Int32) (hk : k ≤ 60) : Met l yX1_isMiss (ws_ yX1_isMiss cX1_isMiss 2 (some .boolean)) ({ frames := 1, cells := 0, slots := 0, locals := 22 } : Room) (va_Pc [.ref (a 0), .int x] (mI D z a th n w gn lk pu fa he nv of mp mi k nt fu re)) (vp_Si (fun r : Int32 => r = sp_isP k x)) 0 0 (fun _ => False) := by
  refine Met.ofW (cc := cX1_isMiss) (maxL := 2) (ret := (some .boolean)) (by decide) rfl ?_
  intro p e s m args below meth c s₁ B hml hv
  obtain ⟨rfl, hP, hK⟩ := hv
  have hx := B.exec
  have hb := B.bytes
  have hr := B.returns
  have hts := atoms_spec (ws := ws_ yX1_isMiss cX1_isMiss 2 (some .boolean)) B.pre
  have hts : ∀ w ∈ lw_all, w.before _ s = true := fun w h => hts w (List.mem_cons_of_mem _ h)
  have hown : s.vm.findClass RX1 = some m.cls := findClass_of_methodNamed B.named
  have hlocks := B.notSynchronized
  have hC : CallFix p m c cX1_isMiss 2 s _ lw_all RX1 := ⟨hx, hb, hml, hown, hts⟩
  have hl := lv_entry ([.ref (a 0), .int x]) (n := 2) (Nat.le_of_ble_eq_true rfl)
  rw [lg_entry_eq]
  generalize (lg_sl ([.ref (a 0), .int x]) ++ List.replicate (2 - (lg_sl ([.ref (a 0), .int x])).length) Slot.unset).toArray = ls at hl ⊢
  have hl : lv_has ls 2 [(0, .ref (a 0)), (1, .int x)] := hl
  refine lv_iload_n hx hb dX1_isMiss_0 rfl (lv_at hl 1 rfl) ?_
  refine lv_iconst (v := 0) hx hb dX1_isMiss_1 (by decide) ?_
  refine lv_aload_n hx hb dX1_isMiss_2 rfl (lv_at hl 0 rfl) ?_
  refine mg_k hC hK hP dX1_isMiss_3 ?_
  refine lv_iconst (v := 1) hx hb dX1_isMiss_6 (by decide) ?_
  refine lv_isub hx hb dX1_isMiss_7 ?_
  refine k_X1_isIn hC hl.1 ⟨Nat.le_of_ble_eq_true rfl, Nat.le_of_ble_eq_true rfl⟩ ⟨Nat.zero_le _, Nat.zero_le _⟩ (Nat.le_of_ble_eq_true rfl)   dX1_isMiss_8 ?_
  exact W.zret (v := sp_in x 0 ((nI k) - 1)) hx hb hr (nar_bool (by rw [in_P (by omega)]; exact isP_bool _ _)) (fun t ht hW => ⟨sp_in x 0 ((nI k) - 1), rfl, (in_P (by omega) x), ht⟩) (fun q hq => absurd hq List.not_mem_nil) dX1_isMiss_11
set_option maxRecDepth 100000 in
theorem k_X1_isMiss {p : Program} {l : Launch} {e : Env} {R : Room} {s : State} {m : MethodId} {args : Array Value} {below : List Frame} {meth : Method} {c : Code} {H : Heap} {locs : List Loc} {cells slots : Nat} {Q : State → Prop} {D : va_G} {z : ClassId × ClassId} {a : Nat → Nat} {th : Int32} {n w : Nat} {gn lk pu fa he nv of mp mi : Nat → Int32} {k : Nat} {nt fu re : Int32} {cc : ByteArray} {nL pc : Nat} {ls : Array Slot} {rest : List Value} (hC : CallFix p m c cc nL s args lw_all RX1) (hK : kK D z s) (hP : va_P D vwCl (mW z a th n w gn lk pu fa he nv of mp mi k nt fu re) H) (hl : ls.size = nL) (hR : 2 ≤ R.frames ∧ 43 ≤ R.locals) (hz : cells ≤ R.cells ∧ slots ≤ R.slots) (hr : (rest.map fun v => v.category).sum ≤ 8) {x : Int32}  (hk : k ≤ 60) (hdg : decode cc pc = .ok (.invokevirtual 147, 3)) (kk : W p l e R s m args below meth c H locs cells slots Q (F0 m (pc + 3) ls (.int (sp_isP k x) :: rest))) : W p l e R s m args below meth c H locs cells slots Q (F0 m pc ls (.int x :: .ref (a 0) :: rest)) := by
  exact vp_callSi (W.runV (As := [.int x]) (rest := rest) hC (c_X1_isMiss l x hk) (cwV 1 hC.2.2.2.2 (gi_V mM_X1_147 mV_X1_isMiss mS_X1_isMiss mI_MissRegistryModel mC_X1_isMiss) rfl rfl rfl (by decide +kernel) hR) (mpre hK hP) rfl rfl hl rfl (lv_room hr) hdg hz) (fun r hr => by rw [hr]; exact kk)
set_option maxHeartbeats 4000000 in
set_option maxRecDepth 100000 in
theorem c_X1_thrown (l : Launch) {D : va_G} {z : ClassId × ClassId} {a : Nat → Nat} {th : Int32} {n w : Nat} {gn lk pu fa he nv of mp mi : Nat → Int32} {k : Nat} {nt fu re : Int32}  : Met l yX1_thrown (ws_ yX1_thrown cX1_thrown 1 (some .int)) ({ frames := 0, cells := 0, slots := 0, locals := 0 } : Room) (va_Pc [.ref (a 0)] (mI D z a th n w gn lk pu fa he nv of mp mi k nt fu re)) (vp_Si (fun r : Int32 => r = th)) 0 0 (fun _ => False) := by
  refine Met.ofW (cc := cX1_thrown) (maxL := 1) (ret := (some .int)) (by decide) rfl ?_
  intro p e s m args below meth c s₁ B hml hv
  obtain ⟨rfl, hP, hK⟩ := hv
  have hx := B.exec
  have hb := B.bytes
  have hr := B.returns
  have hts := atoms_spec (ws := ws_ yX1_thrown cX1_thrown 1 (some .int)) B.pre
  have hts : ∀ w ∈ lw_all, w.before _ s = true := fun w h => hts w (List.mem_cons_of_mem _ h)
  have hown : s.vm.findClass RX1 = some m.cls := findClass_of_methodNamed B.named
  have hlocks := B.notSynchronized
  have hC : CallFix p m c cX1_thrown 1 s _ lw_all RX1 := ⟨hx, hb, hml, hown, hts⟩
  have hl := lv_entry ([.ref (a 0)]) (n := 1) (Nat.le_of_ble_eq_true rfl)
  rw [lg_entry_eq]
  generalize (lg_sl ([.ref (a 0)]) ++ List.replicate (1 - (lg_sl ([.ref (a 0)])).length) Slot.unset).toArray = ls at hl ⊢
  have hl : lv_has ls 1 [(0, .ref (a 0))] := hl
  refine lv_aload_n hx hb dX1_thrown_0 rfl (lv_at hl 0 rfl) ?_
  refine mg_th hC hK hP dX1_thrown_1 ?_
  exact W.iret (v := th) hx hb hr (fun t ht hW => ⟨th, rfl, rfl, ht⟩) (fun q hq => absurd hq List.not_mem_nil) dX1_thrown_4
set_option maxHeartbeats 4000000 in
set_option maxRecDepth 100000 in
theorem c_X1_price (l : Launch) {D : va_G} {z : ClassId × ClassId} {a : Nat → Nat} {th : Int32} {n w : Nat} {gn lk pu fa he nv of mp mi : Nat → Int32} {k : Nat} {nt fu re : Int32} (i : Nat) (hi : i < 10) : Met l yX1_price (ws_ yX1_price cX1_price 2 (some .int)) ({ frames := 0, cells := 0, slots := 0, locals := 0 } : Room) (va_Pc [.ref (a 0), .int (nI i)] (mI D z a th n w gn lk pu fa he nv of mp mi k nt fu re)) (vp_Si (fun r : Int32 => r = sp_price (lk i))) 0 0 (fun _ => False) := by
  refine Met.ofW (cc := cX1_price) (maxL := 2) (ret := (some .int)) (by decide) rfl ?_
  intro p e s m args below meth c s₁ B hml hv
  obtain ⟨rfl, hP, hK⟩ := hv
  have hx := B.exec
  have hb := B.bytes
  have hr := B.returns
  have hts := atoms_spec (ws := ws_ yX1_price cX1_price 2 (some .int)) B.pre
  have hts : ∀ w ∈ lw_all, w.before _ s = true := fun w h => hts w (List.mem_cons_of_mem _ h)
  have hown : s.vm.findClass RX1 = some m.cls := findClass_of_methodNamed B.named
  have hlocks := B.notSynchronized
  have hC : CallFix p m c cX1_price 2 s _ lw_all RX1 := ⟨hx, hb, hml, hown, hts⟩
  have hl := lv_entry ([.ref (a 0), .int (nI i)]) (n := 2) (Nat.le_of_ble_eq_true rfl)
  rw [lg_entry_eq]
  generalize (lg_sl ([.ref (a 0), .int (nI i)]) ++ List.replicate (2 - (lg_sl ([.ref (a 0), .int (nI i)])).length) Slot.unset).toArray = ls at hl ⊢
  have hl : lv_has ls 2 [(0, .ref (a 0)), (1, .int (nI i))] := hl
  refine lv_iconst (v := 5) hx hb dX1_price_0 (by decide) ?_
  refine lv_bipush (v := 99) hx hb dX1_price_1 (by decide) ?_
  refine lv_aload_n hx hb dX1_price_3 rfl (lv_at hl 0 rfl) ?_
  refine mg_lk hC hK hP dX1_price_4 ?_
  refine lv_iload_n hx hb dX1_price_7 rfl (lv_at hl 1 rfl) ?_
  refine ml_lk hC hK hP i rfl (by omega) dX1_price_8 ?_
  refine lv_isub hx hb dX1_price_9 ?_
  refine lv_bipush (v := 10) hx hb dX1_price_10 (by decide) ?_
  refine lv_idiv hx hb dX1_price_12 (by decide) ?_
  refine lv_iadd hx hb dX1_price_13 ?_
  exact W.iret (v := 5 + ((99 - (lk i)) / 10)) hx hb hr (fun t ht hW => ⟨5 + ((99 - (lk i)) / 10), rfl, (by unfold sp_price; rfl), ht⟩) (fun q hq => absurd hq List.not_mem_nil) dX1_price_14
set_option maxRecDepth 100000 in
theorem k_X1_price {p : Program} {l : Launch} {e : Env} {R : Room} {s : State} {m : MethodId} {args : Array Value} {below : List Frame} {meth : Method} {c : Code} {H : Heap} {locs : List Loc} {cells slots : Nat} {Q : State → Prop} {D : va_G} {z : ClassId × ClassId} {a : Nat → Nat} {th : Int32} {n w : Nat} {gn lk pu fa he nv of mp mi : Nat → Int32} {k : Nat} {nt fu re : Int32} {cc : ByteArray} {nL pc : Nat} {ls : Array Slot} {rest : List Value} (hC : CallFix p m c cc nL s args lw_all RX1) (hK : kK D z s) (hP : va_P D vwCl (mW z a th n w gn lk pu fa he nv of mp mi k nt fu re) H) (hl : ls.size = nL) (hR : 1 ≤ R.frames ∧ 21 ≤ R.locals) (hz : cells ≤ R.cells ∧ slots ≤ R.slots) (hr : (rest.map fun v => v.category).sum ≤ 8) {i : Nat} {x0 : Int32} (hx0 : x0 = nI i) (hi : i < 10) (hdg : decode cc pc = .ok (.invokevirtual 67, 3)) (kk : W p l e R s m args below meth c H locs cells slots Q (F0 m (pc + 3) ls (.int (sp_price (lk i)) :: rest))) : W p l e R s m args below meth c H locs cells slots Q (F0 m pc ls (.int x0 :: .ref (a 0) :: rest)) := by
  subst hx0
  exact vp_callSi (W.runV (As := [.int (nI i)]) (rest := rest) hC (c_X1_price l i hi) (cwV 1 hC.2.2.2.2 (gi_V mM_X1_67 mV_X1_price mS_X1_price mI_MissRegistryModel mC_X1_price) rfl rfl rfl (by decide +kernel) hR) (mpre hK hP) rfl rfl hl rfl (lv_room hr) hdg hz) (fun r hr => by rw [hr]; exact kk)
set_option maxHeartbeats 4000000 in
set_option maxRecDepth 100000 in
theorem c_X1_last (l : Launch) {D : va_G} {z : ClassId × ClassId} {a : Nat → Nat} {th : Int32} {n w : Nat} {gn lk pu fa he nv of mp mi : Nat → Int32} {k : Nat} {nt fu re : Int32} (i : Nat) (hi : i < n) (hn : n ≤ 10) (hH : ∀ j : Nat, j < n → he j = -1 ∨ ∃ y : Nat, y < n ∧ he j = nI y) : Met l yX1_last (ws_ yX1_last cX1_last 4 (some .int)) ({ frames := 0, cells := 0, slots := 0, locals := 0 } : Room) (va_Pc [.ref (a 0), .int (nI i)] (mI D z a th n w gn lk pu fa he nv of mp mi k nt fu re)) (vp_Si (fun r : Int32 => r = mq_last he gn i (n + 1) i)) 0 0 (fun _ => False) := by
  refine Met.ofW (cc := cX1_last) (maxL := 4) (ret := (some .int)) (by decide) rfl ?_
  intro p e s m args below meth c s₁ B hml hv
  obtain ⟨rfl, hP, hK⟩ := hv
  have hx := B.exec
  have hb := B.bytes
  have hr := B.returns
  have hts := atoms_spec (ws := ws_ yX1_last cX1_last 4 (some .int)) B.pre
  have hts : ∀ w ∈ lw_all, w.before _ s = true := fun w h => hts w (List.mem_cons_of_mem _ h)
  have hown : s.vm.findClass RX1 = some m.cls := findClass_of_methodNamed B.named
  have hlocks := B.notSynchronized
  have hC : CallFix p m c cX1_last 4 s _ lw_all RX1 := ⟨hx, hb, hml, hown, hts⟩
  have hl := lv_entry ([.ref (a 0), .int (nI i)]) (n := 4) (Nat.le_of_ble_eq_true rfl)
  rw [lg_entry_eq]
  generalize (lg_sl ([.ref (a 0), .int (nI i)]) ++ List.replicate (4 - (lg_sl ([.ref (a 0), .int (nI i)])).length) Slot.unset).toArray = ls at hl ⊢
  have hl : lv_has ls 4 [(0, .ref (a 0)), (1, .int (nI i))] := hl
  refine lv_iload_n hx hb dX1_last_0 rfl (lv_at hl 1 rfl) ?_
  refine lv_istore_n (lv' := [(2, .int (nI i)), (0, .ref (a 0)), (1, .int (nI i))]) hx hb dX1_last_1 rfl hl (by decide) rfl (fun ls hl => ?_)
  refine lv_iconst (v := 0) hx hb dX1_last_2 (by decide) ?_
  refine lv_istore_n (lv' := [(3, .int 0), (2, .int (nI i)), (0, .ref (a 0)), (1, .int (nI i))]) hx hb dX1_last_3 rfl hl (by decide) rfl (fun ls hl => ?_)
  have loop_4 : ∀ (f : Nat) (j : Nat) (g : Nat), j ≤ n + 1 → j + f = n + 2 → g < n → mq_last he gn i (n + 1 - j) g = mq_last he gn i (n + 1) i → ∀ ls : Array Slot, lv_has ls 4 [(0, .ref (a 0)), (1, .int (nI i)), (2, .int (nI g)), (3, .int (nI j))] → W p l e ({ frames := 0, cells := 0, slots := 0, locals := 0 } : Room) s m ([.ref (a 0), .int (nI i)] : List Value).toArray below meth c s.heap [] 0 0 (MQ below (vp_Si (fun r : Int32 => r = mq_last he gn i (n + 1) i)) ([.ref (a 0), .int (nI i)] : List Value).toArray s 0 0 (fun _ => False)) (F0 m 4 ls []) := by
    intro f
    induction f with
    | zero =>
      intro j g hj hf hg er
      exact absurd hf (by omega)
    | succ f ih4 =>
      intro j g hj hf hg er ls hl
      refine lv_iload_n hx hb dX1_last_4 rfl (lv_at hl 3 rfl) ?_
      refine lv_aload_n hx hb dX1_last_5 rfl (lv_at hl 0 rfl) ?_
      refine mg_n hC hK hP dX1_last_6 ?_
      refine lv_icmp_gt (tgt := 48) hx hb dX1_last_9 (by decide) (fun c_9 => ?_) (fun c_9 => ?_)
      · have nc_9 : n < j := nn_lt (by omega) c_9
        refine lv_iconst (v := (-1)) hx hb dX1_last_48 (by decide) ?_
        exact W.iret (v := (-1)) hx hb hr (fun t ht hW => ⟨(-1), rfl, (by rw [← er, show n + 1 - j = 0 by omega]; rfl), ht⟩) (fun q hq => absurd hq List.not_mem_nil) dX1_last_49
      · have nc_9 : j ≤ n := nn_nlt (by omega) c_9
        refine lv_aload_n hx hb dX1_last_12 rfl (lv_at hl 0 rfl) ?_
        refine mg_he hC hK hP dX1_last_13 ?_
        refine lv_iload_n hx hb dX1_last_16 rfl (lv_at hl 2 rfl) ?_
        refine ml_he hC hK hP g rfl (by omega) dX1_last_17 ?_
        refine lv_istore_n (lv' := [(2, .int (he g)), (0, .ref (a 0)), (1, .int (nI i)), (3, .int (nI j))]) hx hb dX1_last_18 rfl hl (by decide) rfl (fun ls hl => ?_)
        refine lv_iload_n hx hb dX1_last_19 rfl (lv_at hl 0 rfl) ?_
        refine lv_iconst (v := (-1)) hx hb dX1_last_20 (by decide) ?_
        refine lv_icmp_eq (tgt := 29) hx hb dX1_last_21 (by decide) (fun c_21 => ?_) (fun c_21 => ?_)
        · refine lv_iconst (v := (-1)) hx hb dX1_last_29 (by decide) ?_
          exact W.iret (v := (-1)) hx hb hr (fun t ht hW => ⟨(-1), rfl, (by rw [← er, show n + 1 - j = (n + 1 - (j + 1)) + 1 by omega]; simp [mq_last, c_21]), ht⟩) (fun q hq => absurd hq List.not_mem_nil) dX1_last_30
        · obtain ⟨y, hyn, hy⟩ := (hH g hg).resolve_left c_21
          have eNy : (he g).toNatClampNeg = y := by rw [hy]; exact nI_clamp (by omega)
          refine lv_iload_n hx hb dX1_last_24 rfl (lv_at hl 0 rfl) ?_
          refine lv_iload_n hx hb dX1_last_25 rfl (lv_at hl 2 rfl) ?_
          refine lv_icmp_ne (tgt := 31) hx hb dX1_last_26 (by decide) (fun c_26 => ?_) (fun c_26 => ?_)
          · refine lv_aload_n hx hb dX1_last_31 rfl (lv_at hl 1 rfl) ?_
            refine mg_gn hC hK hP dX1_last_32 ?_
            refine lv_iload_n hx hb dX1_last_35 rfl (lv_at hl 0 rfl) ?_
            refine ml_gn hC hK hP y hy (by omega) dX1_last_36 ?_
            refine lv_if_ne (tgt := 42) hx hb dX1_last_37 (by decide) (fun c_37 => ?_) (fun c_37 => ?_)
            · refine lv_iinc (v := nI (j + 1)) (lv' := [(3, .int (nI (j + 1))), (2, .int (he g)), (0, .ref (a 0)), (1, .int (nI i))]) hx hb dX1_last_42 hl (k := 3) rfl (nI_1 _) (by decide) rfl (fun ls hl => ?_)
              refine lv_goto (tgt := 4) hx hb dX1_last_45 (by decide) ?_
              rw [hy] at hl
              exact ih4 (j + 1) y (by omega) (by omega) hyn (by rw [← er, show n + 1 - j = (n + 1 - (j + 1)) + 1 by omega]; simp [mq_last, c_21, c_26, eNy, c_37]) _ (lv_sub hl [2, 3, 1, 0] rfl)
            · refine lv_iload_n hx hb dX1_last_40 rfl (lv_at hl 0 rfl) ?_
              exact W.iret (v := he g) hx hb hr (fun t ht hW => ⟨he g, rfl, (by rw [← er, show n + 1 - j = (n + 1 - (j + 1)) + 1 by omega]; simp [mq_last, c_21, c_26, c_37, eNy]), ht⟩) (fun q hq => absurd hq List.not_mem_nil) dX1_last_41
          · refine lv_iconst (v := (-1)) hx hb dX1_last_29 (by decide) ?_
            exact W.iret (v := (-1)) hx hb hr (fun t ht hW => ⟨(-1), rfl, (by rw [← er, show n + 1 - j = (n + 1 - (j + 1)) + 1 by omega]; simp [mq_last, c_21, c_26]), ht⟩) (fun q hq => absurd hq List.not_mem_nil) dX1_last_30
  exact loop_4 (n + 2) 0 i (by omega) (by omega) hi rfl _ (lv_sub hl [2, 3, 1, 0] rfl)
set_option maxRecDepth 100000 in
theorem k_X1_last {p : Program} {l : Launch} {e : Env} {R : Room} {s : State} {m : MethodId} {args : Array Value} {below : List Frame} {meth : Method} {c : Code} {H : Heap} {locs : List Loc} {cells slots : Nat} {Q : State → Prop} {D : va_G} {z : ClassId × ClassId} {a : Nat → Nat} {th : Int32} {n w : Nat} {gn lk pu fa he nv of mp mi : Nat → Int32} {k : Nat} {nt fu re : Int32} {cc : ByteArray} {nL pc : Nat} {ls : Array Slot} {rest : List Value} (hC : CallFix p m c cc nL s args lw_all RX1) (hK : kK D z s) (hP : va_P D vwCl (mW z a th n w gn lk pu fa he nv of mp mi k nt fu re) H) (hl : ls.size = nL) (hR : 1 ≤ R.frames ∧ 23 ≤ R.locals) (hz : cells ≤ R.cells ∧ slots ≤ R.slots) (hr : (rest.map fun v => v.category).sum ≤ 8) {i : Nat} {x0 : Int32} (hx0 : x0 = nI i) (hi : i < n) (hn : n ≤ 10) (hH : ∀ j : Nat, j < n → he j = -1 ∨ ∃ y : Nat, y < n ∧ he j = nI y) (hdg : decode cc pc = .ok (.invokevirtual 119, 3)) (kk : W p l e R s m args below meth c H locs cells slots Q (F0 m (pc + 3) ls (.int (mq_last he gn i (n + 1) i) :: rest))) : W p l e R s m args below meth c H locs cells slots Q (F0 m pc ls (.int x0 :: .ref (a 0) :: rest)) := by
  subst hx0
  exact vp_callSi (W.runV (As := [.int (nI i)]) (rest := rest) hC (c_X1_last l i hi hn hH) (cwV 1 hC.2.2.2.2 (gi_V mM_X1_119 mV_X1_last mS_X1_last mI_MissRegistryModel mC_X1_last) rfl rfl rfl (by decide +kernel) hR) (mpre hK hP) rfl rfl hl rfl (lv_room hr) hdg hz) (fun r hr => by rw [hr]; exact kk)
set_option maxHeartbeats 4000000 in
set_option maxRecDepth 100000 in
theorem c_X1_tells (l : Launch) {D : va_G} {z : ClassId × ClassId} {a : Nat → Nat} {th : Int32} {n w : Nat} {gn lk pu fa he nv of mp mi : Nat → Int32} {k : Nat} {nt fu re : Int32} (i : Nat) (hi : i < 6) (b : Int32) : Met l yX1_tells (ws_ yX1_tells cX1_tells 3 (some .int)) ({ frames := 1, cells := 0, slots := 0, locals := 21 } : Room) (va_Pc [.ref (a 0), .int (nI i), .int b] (mI D z a th n w gn lk pu fa he nv of mp mi k nt fu re)) (vp_Si (fun r : Int32 => r = sp_tale (nv i) b)) 0 0 (fun _ => False) := by
  refine Met.ofW (cc := cX1_tells) (maxL := 3) (ret := (some .int)) (by decide) rfl ?_
  intro p e s m args below meth c s₁ B hml hv
  obtain ⟨rfl, hP, hK⟩ := hv
  have hx := B.exec
  have hb := B.bytes
  have hr := B.returns
  have hts := atoms_spec (ws := ws_ yX1_tells cX1_tells 3 (some .int)) B.pre
  have hts : ∀ w ∈ lw_all, w.before _ s = true := fun w h => hts w (List.mem_cons_of_mem _ h)
  have hown : s.vm.findClass RX1 = some m.cls := findClass_of_methodNamed B.named
  have hlocks := B.notSynchronized
  have hC : CallFix p m c cX1_tells 3 s _ lw_all RX1 := ⟨hx, hb, hml, hown, hts⟩
  have hl := lv_entry ([.ref (a 0), .int (nI i), .int b]) (n := 3) (Nat.le_of_ble_eq_true rfl)
  rw [lg_entry_eq]
  generalize (lg_sl ([.ref (a 0), .int (nI i), .int b]) ++ List.replicate (3 - (lg_sl ([.ref (a 0), .int (nI i), .int b])).length) Slot.unset).toArray = ls at hl ⊢
  have hl : lv_has ls 3 [(0, .ref (a 0)), (1, .int (nI i)), (2, .int b)] := hl
  refine lv_aload_n hx hb dX1_tells_0 rfl (lv_at hl 0 rfl) ?_
  refine mg_nv hC hK hP dX1_tells_1 ?_
  refine lv_iload_n hx hb dX1_tells_4 rfl (lv_at hl 1 rfl) ?_
  refine ml_nv hC hK hP i rfl (by omega) dX1_tells_5 ?_
  refine lv_iconst (v := 2) hx hb dX1_tells_6 (by decide) ?_
  refine lv_icmp_gt (tgt := 14) hx hb dX1_tells_7 (by decide) (fun c_7 => ?_) (fun c_7 => ?_)
  · refine lv_iconst (v := 1) hx hb dX1_tells_14 (by decide) ?_
    refine lv_iload_n hx hb dX1_tells_15 rfl (lv_at hl 2 rfl) ?_
    refine lv_bipush (v := 9) hx hb dX1_tells_16 (by decide) ?_
    refine lv_aload_n hx hb dX1_tells_18 rfl (lv_at hl 0 rfl) ?_
    refine mg_nv hC hK hP dX1_tells_19 ?_
    refine lv_iload_n hx hb dX1_tells_22 rfl (lv_at hl 1 rfl) ?_
    refine ml_nv hC hK hP i rfl (by omega) dX1_tells_23 ?_
    refine lv_isub hx hb dX1_tells_24 ?_
    refine lv_iconst (v := 2) hx hb dX1_tells_25 (by decide) ?_
    refine lv_idiv hx hb dX1_tells_26 (by decide) ?_
    refine lv_isub hx hb dX1_tells_27 ?_
    refine va_mmax hx hb (hml.trans hl.1.symm) hown (hts _ mM_X1_55) (hts _ mT_max) (hts _ mI_Math) (hts _ mC_max) (Nat.le_of_ble_eq_true rfl) (Nat.le_of_ble_eq_true rfl) (Nat.zero_le _) (Nat.zero_le _) dX1_tells_28 ?_
    exact W.iret (v := imax 1 (b - ((9 - (nv i)) / 2))) hx hb hr (fun t ht hW => ⟨imax 1 (b - ((9 - (nv i)) / 2)), rfl, (by simp [sp_tale, sp_sh, c_7]), ht⟩) (fun q hq => absurd hq List.not_mem_nil) dX1_tells_31
  · refine lv_iconst (v := 0) hx hb dX1_tells_10 (by decide) ?_
    refine lv_goto (tgt := 31) hx hb dX1_tells_11 (by decide) ?_
    exact W.iret (v := 0) hx hb hr (fun t ht hW => ⟨0, rfl, (by simp [sp_tale, sp_sh, c_7]), ht⟩) (fun q hq => absurd hq List.not_mem_nil) dX1_tells_31
set_option maxRecDepth 100000 in
theorem k_X1_tells {p : Program} {l : Launch} {e : Env} {R : Room} {s : State} {m : MethodId} {args : Array Value} {below : List Frame} {meth : Method} {c : Code} {H : Heap} {locs : List Loc} {cells slots : Nat} {Q : State → Prop} {D : va_G} {z : ClassId × ClassId} {a : Nat → Nat} {th : Int32} {n w : Nat} {gn lk pu fa he nv of mp mi : Nat → Int32} {k : Nat} {nt fu re : Int32} {cc : ByteArray} {nL pc : Nat} {ls : Array Slot} {rest : List Value} (hC : CallFix p m c cc nL s args lw_all RX1) (hK : kK D z s) (hP : va_P D vwCl (mW z a th n w gn lk pu fa he nv of mp mi k nt fu re) H) (hl : ls.size = nL) (hR : 2 ≤ R.frames ∧ 43 ≤ R.locals) (hz : cells ≤ R.cells ∧ slots ≤ R.slots) (hr : (rest.map fun v => v.category).sum ≤ 8) {i : Nat} {b : Int32} {x0 : Int32} (hx0 : x0 = nI i) (hi : i < 6) (hdg : decode cc pc = .ok (.invokevirtual 61, 3)) (kk : W p l e R s m args below meth c H locs cells slots Q (F0 m (pc + 3) ls (.int (sp_tale (nv i) b) :: rest))) : W p l e R s m args below meth c H locs cells slots Q (F0 m pc ls (.int b :: .int x0 :: .ref (a 0) :: rest)) := by
  subst hx0
  exact vp_callSi (W.runV (As := [.int (nI i), .int b]) (rest := rest) hC (c_X1_tells l i hi b) (cwV 2 hC.2.2.2.2 (gi_V mM_X1_61 mV_X1_tells mS_X1_tells mI_MissRegistryModel mC_X1_tells) rfl rfl rfl (by decide +kernel) hR) (mpre hK hP) rfl rfl hl rfl (lv_room hr) hdg hz) (fun r hr => by rw [hr]; exact kk)
set_option maxHeartbeats 4000000 in
set_option maxRecDepth 100000 in
theorem c_X1_middle (l : Launch) {D : va_G} {z : ClassId × ClassId} {a : Nat → Nat} {th : Int32} {n w : Nat} {gn lk pu fa he nv of mp mi : Nat → Int32} {k : Nat} {nt fu re : Int32} (b : Int32) (hw : w ≤ 6) : Met l yX1_middle (ws_ yX1_middle cX1_middle 6 (some .int)) ({ frames := 2, cells := 0, slots := 0, locals := 43 } : Room) (va_Pc [.ref (a 0), .int b] (mI D z a th n w gn lk pu fa he nv of mp mi k nt fu re)) (vp_Si (fun r : Int32 => r = mq_mid of nv b w)) 0 0 (fun _ => False) := by
  refine Met.ofW (cc := cX1_middle) (maxL := 6) (ret := (some .int)) (by decide) rfl ?_
  intro p e s m args below meth c s₁ B hml hv
  obtain ⟨rfl, hP, hK⟩ := hv
  have hx := B.exec
  have hb := B.bytes
  have hr := B.returns
  have hts := atoms_spec (ws := ws_ yX1_middle cX1_middle 6 (some .int)) B.pre
  have hts : ∀ w ∈ lw_all, w.before _ s = true := fun w h => hts w (List.mem_cons_of_mem _ h)
  have hown : s.vm.findClass RX1 = some m.cls := findClass_of_methodNamed B.named
  have hlocks := B.notSynchronized
  have hC : CallFix p m c cX1_middle 6 s _ lw_all RX1 := ⟨hx, hb, hml, hown, hts⟩
  have hl := lv_entry ([.ref (a 0), .int b]) (n := 6) (Nat.le_of_ble_eq_true rfl)
  rw [lg_entry_eq]
  generalize (lg_sl ([.ref (a 0), .int b]) ++ List.replicate (6 - (lg_sl ([.ref (a 0), .int b])).length) Slot.unset).toArray = ls at hl ⊢
  have hl : lv_has ls 6 [(0, .ref (a 0)), (1, .int b)] := hl
  refine lv_iconst (v := 0) hx hb dX1_middle_0 (by decide) ?_
  refine lv_istore_n (lv' := [(2, .int 0), (0, .ref (a 0)), (1, .int b)]) hx hb dX1_middle_1 rfl hl (by decide) rfl (fun ls hl => ?_)
  refine lv_iconst (v := 0) hx hb dX1_middle_2 (by decide) ?_
  refine lv_istore_n (lv' := [(3, .int 0), (2, .int 0), (0, .ref (a 0)), (1, .int b)]) hx hb dX1_middle_3 rfl hl (by decide) rfl (fun ls hl => ?_)
  have loop_4 : ∀ (f : Nat) (j : Nat) (x : Int32), j ≤ w → w + 1 ≤ j + f → x = mq_cn of nv b j → ∀ ls : Array Slot, lv_has ls 6 [(0, .ref (a 0)), (1, .int b), (2, .int x), (3, .int (nI j))] → W p l e ({ frames := 2, cells := 0, slots := 0, locals := 43 } : Room) s m ([.ref (a 0), .int b] : List Value).toArray below meth c s.heap [] 0 0 (MQ below (vp_Si (fun r : Int32 => r = mq_mid of nv b w)) ([.ref (a 0), .int b] : List Value).toArray s 0 0 (fun _ => False)) (F0 m 4 ls []) := by
    intro f
    induction f with
    | zero =>
      intro j x hj hf ex
      exact absurd hf (by omega)
    | succ f ih4 =>
      intro j x hj hf ex ls hl
      refine lv_iload_n hx hb dX1_middle_4 rfl (lv_at hl 3 rfl) ?_
      refine lv_aload_n hx hb dX1_middle_5 rfl (lv_at hl 0 rfl) ?_
      refine mg_w hC hK hP dX1_middle_6 ?_
      refine lv_icmp_ge (tgt := 44) hx hb dX1_middle_9 (by decide) (fun c_9 => ?_) (fun c_9 => ?_)
      · have nc_9 : w ≤ j := nn_le (by omega) c_9
        have ej : j = w := by omega
        rw [ej] at ex
        refine lv_iload_n hx hb dX1_middle_44 rfl (lv_at hl 2 rfl) ?_
        refine lv_if_ne (tgt := 50) hx hb dX1_middle_45 (by decide) (fun c_45 => ?_) (fun c_45 => ?_)
        · refine lv_iconst (v := 0) hx hb dX1_middle_50 (by decide) ?_
          refine lv_istore_n (lv' := [(3, .int 0), (0, .ref (a 0)), (1, .int b), (2, .int x)]) hx hb dX1_middle_51 rfl hl (by decide) rfl (fun ls hl => ?_)
          refine lv_iconst (v := 1) hx hb dX1_middle_52 (by decide) ?_
          refine lv_istore (lv' := [(4, .int 1), (3, .int 0), (0, .ref (a 0)), (1, .int b), (2, .int x)]) hx hb dX1_middle_53 hl (by decide) rfl (fun ls hl => ?_)
          have loop_55 : ∀ (f : Nat) (tt : Nat) (y : Int32), tt ≤ 61 → tt + f = 62 → mq_sr of nv b w x f tt y = mq_sr of nv b w x 61 1 0 → ∀ ls : Array Slot, lv_has ls 6 [(0, .ref (a 0)), (1, .int b), (2, .int x), (3, .int y), (4, .int (nI tt))] → W p l e ({ frames := 2, cells := 0, slots := 0, locals := 43 } : Room) s m ([.ref (a 0), .int b] : List Value).toArray below meth c s.heap [] 0 0 (MQ below (vp_Si (fun r : Int32 => r = mq_mid of nv b w)) ([.ref (a 0), .int b] : List Value).toArray s 0 0 (fun _ => False)) (F0 m 55 ls []) := by
            intro f
            induction f with
            | zero =>
              intro tt y ht1 hf2 er
              exact absurd hf2 (by omega)
            | succ f ih55 =>
              intro tt y ht1 hf2 er ls hl
              refine lv_iload hx hb dX1_middle_55 (lv_at hl 4 rfl) ?_
              refine lv_bipush (v := 60) hx hb dX1_middle_57 (by decide) ?_
              refine lv_icmp_gt (tgt := 128) hx hb dX1_middle_59 (by decide) (fun c_59 => ?_) (fun c_59 => ?_)
              · have nc_59 : 60 < tt := nn_lt (by omega) c_59
                refine lv_iconst (v := 0) hx hb dX1_middle_128 (by decide) ?_
                exact W.iret (v := 0) hx hb hr (fun t ht hW => ⟨0, rfl, (by rw [ex] at c_45; unfold mq_mid; rw [if_neg c_45, ← ex, ← er]; simp [mq_sr, c_59]), ht⟩) (fun q hq => absurd hq List.not_mem_nil) dX1_middle_129
              · have nc_59 : tt ≤ 60 := nn_nlt (by omega) c_59
                refine lv_iconst (v := 0) hx hb dX1_middle_62 (by decide) ?_
                refine lv_istore (lv' := [(5, .int 0), (0, .ref (a 0)), (1, .int b), (2, .int x), (3, .int y), (4, .int (nI tt))]) hx hb dX1_middle_63 hl (by decide) rfl (fun ls hl => ?_)
                have loop_65 : ∀ (f : Nat) (i : Nat) (u : Int32), i ≤ w → w + 1 ≤ i + f → u = mq_es of nv b (nI tt) y i → ∀ ls : Array Slot, lv_has ls 6 [(0, .ref (a 0)), (1, .int b), (2, .int x), (3, .int u), (4, .int (nI tt)), (5, .int (nI i))] → W p l e ({ frames := 2, cells := 0, slots := 0, locals := 43 } : Room) s m ([.ref (a 0), .int b] : List Value).toArray below meth c s.heap [] 0 0 (MQ below (vp_Si (fun r : Int32 => r = mq_mid of nv b w)) ([.ref (a 0), .int b] : List Value).toArray s 0 0 (fun _ => False)) (F0 m 65 ls []) := by
                  intro f
                  induction f with
                  | zero =>
                    intro i u hi hf3 eu
                    exact absurd hf3 (by omega)
                  | succ f ih65 =>
                    intro i u hi hf3 eu ls hl
                    refine lv_iload hx hb dX1_middle_65 (lv_at hl 5 rfl) ?_
                    refine lv_aload_n hx hb dX1_middle_67 rfl (lv_at hl 0 rfl) ?_
                    refine mg_w hC hK hP dX1_middle_68 ?_
                    refine lv_icmp_ge (tgt := 110) hx hb dX1_middle_71 (by decide) (fun c_71 => ?_) (fun c_71 => ?_)
                    · have nc_71 : w ≤ i := nn_le (by omega) c_71
                      refine lv_iload_n hx hb dX1_middle_110 rfl (lv_at hl 3 rfl) ?_
                      refine lv_iload_n hx hb dX1_middle_111 rfl (lv_at hl 2 rfl) ?_
                      refine lv_iconst (v := 1) hx hb dX1_middle_112 (by decide) ?_
                      refine lv_isub hx hb dX1_middle_113 ?_
                      refine lv_iconst (v := 2) hx hb dX1_middle_114 (by decide) ?_
                      refine lv_idiv hx hb dX1_middle_115 (by decide) ?_
                      refine lv_icmp_le (tgt := 122) hx hb dX1_middle_116 (by decide) (fun c_116 => ?_) (fun c_116 => ?_)
                      · refine lv_iinc (v := nI (tt + 1)) (lv' := [(4, .int (nI (tt + 1))), (0, .ref (a 0)), (1, .int b), (2, .int x), (3, .int u), (5, .int (nI i))]) hx hb dX1_middle_122 hl (k := 4) rfl (nI_1 _) (by decide) rfl (fun ls hl => ?_)
                        refine lv_goto (tgt := 55) hx hb dX1_middle_125 (by decide) ?_
                        exact ih55 (tt + 1) u (by omega) (by omega) (by rw [← er]; rw [eu, show i = w by omega] at c_116 ⊢; simp [mq_sr, c_116, c_59]) _ (lv_sub hl [1, 2, 3, 4, 0] rfl)
                      · refine lv_iload hx hb dX1_middle_119 (lv_at hl 4 rfl) ?_
                        exact W.iret (v := nI tt) hx hb hr (fun t ht hW => ⟨nI tt, rfl, (by rw [ex] at c_45; unfold mq_mid; rw [if_neg c_45, ← ex, ← er]; rw [eu, show i = w by omega] at c_116; simp [mq_sr, c_116, c_59]), ht⟩) (fun q hq => absurd hq List.not_mem_nil) dX1_middle_121
                    · have nc_71 : i < w := nn_nle (by omega) c_71
                      refine lv_iload_n hx hb dX1_middle_74 rfl (lv_at hl 3 rfl) ?_
                      refine lv_aload_n hx hb dX1_middle_75 rfl (lv_at hl 0 rfl) ?_
                      refine mg_of hC hK hP dX1_middle_76 ?_
                      refine lv_iload hx hb dX1_middle_79 (lv_at hl 5 rfl) ?_
                      refine ml_of hC hK hP i rfl (by omega) dX1_middle_81 ?_
                      refine lv_if_ne (tgt := 101) hx hb dX1_middle_82 (by decide) (fun c_82 => ?_) (fun c_82 => ?_)
                      · refine lv_iconst (v := 0) hx hb dX1_middle_101 (by decide) ?_
                        refine lv_iadd hx hb dX1_middle_102 ?_
                        refine lv_istore_n (lv' := [(3, .int (u + 0)), (0, .ref (a 0)), (1, .int b), (2, .int x), (4, .int (nI tt)), (5, .int (nI i))]) hx hb dX1_middle_103 rfl hl (by decide) rfl (fun ls hl => ?_)
                        refine lv_iinc (v := nI (i + 1)) (lv' := [(5, .int (nI (i + 1))), (3, .int (u + 0)), (0, .ref (a 0)), (1, .int b), (2, .int x), (4, .int (nI tt))]) hx hb dX1_middle_104 hl (k := 5) rfl (nI_1 _) (by decide) rfl (fun ls hl => ?_)
                        refine lv_goto (tgt := 65) hx hb dX1_middle_107 (by decide) ?_
                        exact ih65 (i + 1) (u + 0) (by omega) (by omega) (by simp [eu, mq_es, c_82]) _ (lv_sub hl [2, 3, 4, 1, 5, 0] rfl)
                      · refine lv_aload_n hx hb dX1_middle_85 rfl (lv_at hl 0 rfl) ?_
                        refine lv_iload hx hb dX1_middle_86 (lv_at hl 5 rfl) ?_
                        refine lv_iload_n hx hb dX1_middle_88 rfl (lv_at hl 1 rfl) ?_
                        refine k_X1_tells hC hK hP hl.1 ⟨Nat.le_of_ble_eq_true rfl, Nat.le_of_ble_eq_true rfl⟩ ⟨Nat.zero_le _, Nat.zero_le _⟩ (Nat.le_of_ble_eq_true rfl) rfl (by first | assumption | omega) dX1_middle_89 ?_
                        refine lv_iload hx hb dX1_middle_92 (lv_at hl 4 rfl) ?_
                        refine lv_icmp_ne (tgt := 101) hx hb dX1_middle_94 (by decide) (fun c_94 => ?_) (fun c_94 => ?_)
                        · refine lv_iconst (v := 0) hx hb dX1_middle_101 (by decide) ?_
                          refine lv_iadd hx hb dX1_middle_102 ?_
                          refine lv_istore_n (lv' := [(3, .int (u + 0)), (0, .ref (a 0)), (1, .int b), (2, .int x), (4, .int (nI tt)), (5, .int (nI i))]) hx hb dX1_middle_103 rfl hl (by decide) rfl (fun ls hl => ?_)
                          refine lv_iinc (v := nI (i + 1)) (lv' := [(5, .int (nI (i + 1))), (3, .int (u + 0)), (0, .ref (a 0)), (1, .int b), (2, .int x), (4, .int (nI tt))]) hx hb dX1_middle_104 hl (k := 5) rfl (nI_1 _) (by decide) rfl (fun ls hl => ?_)
                          refine lv_goto (tgt := 65) hx hb dX1_middle_107 (by decide) ?_
                          exact ih65 (i + 1) (u + 0) (by omega) (by omega) (by simp [eu, mq_es, c_82, c_94]) _ (lv_sub hl [2, 3, 4, 1, 5, 0] rfl)
                        · refine lv_iconst (v := 1) hx hb dX1_middle_97 (by decide) ?_
                          refine lv_goto (tgt := 102) hx hb dX1_middle_98 (by decide) ?_
                          refine lv_iadd hx hb dX1_middle_102 ?_
                          refine lv_istore_n (lv' := [(3, .int (u + 1)), (0, .ref (a 0)), (1, .int b), (2, .int x), (4, .int (nI tt)), (5, .int (nI i))]) hx hb dX1_middle_103 rfl hl (by decide) rfl (fun ls hl => ?_)
                          refine lv_iinc (v := nI (i + 1)) (lv' := [(5, .int (nI (i + 1))), (3, .int (u + 1)), (0, .ref (a 0)), (1, .int b), (2, .int x), (4, .int (nI tt))]) hx hb dX1_middle_104 hl (k := 5) rfl (nI_1 _) (by decide) rfl (fun ls hl => ?_)
                          refine lv_goto (tgt := 65) hx hb dX1_middle_107 (by decide) ?_
                          exact ih65 (i + 1) (u + 1) (by omega) (by omega) (by simp [eu, mq_es, c_82, c_94]) _ (lv_sub hl [2, 3, 4, 1, 5, 0] rfl)
                exact loop_65 (w + 1) 0 y (Nat.zero_le _) (by omega) rfl _ (lv_sub hl [1, 2, 3, 4, 5, 0] rfl)
          exact loop_55 61 1 0 (by omega) (by omega) rfl _ (lv_sub hl [2, 3, 4, 1, 0] rfl)
        · refine lv_iconst (v := 0) hx hb dX1_middle_48 (by decide) ?_
          exact W.iret (v := 0) hx hb hr (fun t ht hW => ⟨0, rfl, (by rw [ex] at c_45; unfold mq_mid; rw [if_pos c_45]), ht⟩) (fun q hq => absurd hq List.not_mem_nil) dX1_middle_49
      · have nc_9 : j < w := nn_nle (by omega) c_9
        refine lv_iload_n hx hb dX1_middle_12 rfl (lv_at hl 2 rfl) ?_
        refine lv_aload_n hx hb dX1_middle_13 rfl (lv_at hl 0 rfl) ?_
        refine mg_of hC hK hP dX1_middle_14 ?_
        refine lv_iload_n hx hb dX1_middle_17 rfl (lv_at hl 3 rfl) ?_
        refine ml_of hC hK hP j rfl (by omega) dX1_middle_18 ?_
        refine lv_if_ne (tgt := 35) hx hb dX1_middle_19 (by decide) (fun c_19 => ?_) (fun c_19 => ?_)
        · refine lv_iconst (v := 0) hx hb dX1_middle_35 (by decide) ?_
          refine lv_iadd hx hb dX1_middle_36 ?_
          refine lv_istore_n (lv' := [(2, .int (x + 0)), (0, .ref (a 0)), (1, .int b), (3, .int (nI j))]) hx hb dX1_middle_37 rfl hl (by decide) rfl (fun ls hl => ?_)
          refine lv_iinc (v := nI (j + 1)) (lv' := [(3, .int (nI (j + 1))), (2, .int (x + 0)), (0, .ref (a 0)), (1, .int b)]) hx hb dX1_middle_38 hl (k := 3) rfl (nI_1 _) (by decide) rfl (fun ls hl => ?_)
          refine lv_goto (tgt := 4) hx hb dX1_middle_41 (by decide) ?_
          exact ih4 (j + 1) (x + 0) (by omega) (by omega) (by simp [ex, mq_cn, c_19]) _ (lv_sub hl [2, 3, 1, 0] rfl)
        · refine lv_aload_n hx hb dX1_middle_22 rfl (lv_at hl 0 rfl) ?_
          refine lv_iload_n hx hb dX1_middle_23 rfl (lv_at hl 3 rfl) ?_
          refine lv_iload_n hx hb dX1_middle_24 rfl (lv_at hl 1 rfl) ?_
          refine k_X1_tells hC hK hP hl.1 ⟨Nat.le_of_ble_eq_true rfl, Nat.le_of_ble_eq_true rfl⟩ ⟨Nat.zero_le _, Nat.zero_le _⟩ (Nat.le_of_ble_eq_true rfl) rfl (by first | assumption | omega) dX1_middle_25 ?_
          refine lv_if_le (tgt := 35) hx hb dX1_middle_28 (by decide) (fun c_28 => ?_) (fun c_28 => ?_)
          · refine lv_iconst (v := 0) hx hb dX1_middle_35 (by decide) ?_
            refine lv_iadd hx hb dX1_middle_36 ?_
            refine lv_istore_n (lv' := [(2, .int (x + 0)), (0, .ref (a 0)), (1, .int b), (3, .int (nI j))]) hx hb dX1_middle_37 rfl hl (by decide) rfl (fun ls hl => ?_)
            refine lv_iinc (v := nI (j + 1)) (lv' := [(3, .int (nI (j + 1))), (2, .int (x + 0)), (0, .ref (a 0)), (1, .int b)]) hx hb dX1_middle_38 hl (k := 3) rfl (nI_1 _) (by decide) rfl (fun ls hl => ?_)
            refine lv_goto (tgt := 4) hx hb dX1_middle_41 (by decide) ?_
            exact ih4 (j + 1) (x + 0) (by omega) (by omega) (by simp [ex, mq_cn, c_19, c_28]) _ (lv_sub hl [2, 3, 1, 0] rfl)
          · refine lv_iconst (v := 1) hx hb dX1_middle_31 (by decide) ?_
            refine lv_goto (tgt := 36) hx hb dX1_middle_32 (by decide) ?_
            refine lv_iadd hx hb dX1_middle_36 ?_
            refine lv_istore_n (lv' := [(2, .int (x + 1)), (0, .ref (a 0)), (1, .int b), (3, .int (nI j))]) hx hb dX1_middle_37 rfl hl (by decide) rfl (fun ls hl => ?_)
            refine lv_iinc (v := nI (j + 1)) (lv' := [(3, .int (nI (j + 1))), (2, .int (x + 1)), (0, .ref (a 0)), (1, .int b)]) hx hb dX1_middle_38 hl (k := 3) rfl (nI_1 _) (by decide) rfl (fun ls hl => ?_)
            refine lv_goto (tgt := 4) hx hb dX1_middle_41 (by decide) ?_
            exact ih4 (j + 1) (x + 1) (by omega) (by omega) (by simp [ex, mq_cn, c_19, c_28]) _ (lv_sub hl [2, 3, 1, 0] rfl)
  exact loop_4 (w + 1) 0 0 (Nat.zero_le _) (by omega) rfl _ (lv_sub hl [2, 3, 1, 0] rfl)
set_option maxRecDepth 100000 in
theorem k_X1_middle {p : Program} {l : Launch} {e : Env} {R : Room} {s : State} {m : MethodId} {args : Array Value} {below : List Frame} {meth : Method} {c : Code} {H : Heap} {locs : List Loc} {cells slots : Nat} {Q : State → Prop} {D : va_G} {z : ClassId × ClassId} {a : Nat → Nat} {th : Int32} {n w : Nat} {gn lk pu fa he nv of mp mi : Nat → Int32} {k : Nat} {nt fu re : Int32} {cc : ByteArray} {nL pc : Nat} {ls : Array Slot} {rest : List Value} (hC : CallFix p m c cc nL s args lw_all RX1) (hK : kK D z s) (hP : va_P D vwCl (mW z a th n w gn lk pu fa he nv of mp mi k nt fu re) H) (hl : ls.size = nL) (hR : 3 ≤ R.frames ∧ 68 ≤ R.locals) (hz : cells ≤ R.cells ∧ slots ≤ R.slots) (hr : (rest.map fun v => v.category).sum ≤ 8) {b : Int32}  (hw : w ≤ 6) (hdg : decode cc pc = .ok (.invokevirtual 107, 3)) (kk : W p l e R s m args below meth c H locs cells slots Q (F0 m (pc + 3) ls (.int (mq_mid of nv b w) :: rest))) : W p l e R s m args below meth c H locs cells slots Q (F0 m pc ls (.int b :: .ref (a 0) :: rest)) := by
  exact vp_callSi (W.runV (As := [.int b]) (rest := rest) hC (c_X1_middle l b hw) (cwV 1 hC.2.2.2.2 (gi_V mM_X1_107 mV_X1_middle mS_X1_middle mI_MissRegistryModel mC_X1_middle) rfl rfl rfl (by decide +kernel) hR) (mpre hK hP) rfl rfl hl rfl (lv_room hr) hdg hz) (fun r hr => by rw [hr]; exact kk)
set_option maxHeartbeats 4000000 in
set_option maxRecDepth 100000 in
theorem c_X1_refund (l : Launch) {D : va_G} {z : ClassId × ClassId} {a : Nat → Nat} {th : Int32} {n w : Nat} {gn lk pu fa he nv of mp mi : Nat → Int32} {k : Nat} {nt fu re : Int32} (i : Nat) (hi : i < 10) (b : Int32) : Met l yX1_refund (ws_ yX1_refund cX1_refund 3 (some .int)) ({ frames := 1, cells := 0, slots := 0, locals := 21 } : Room) (va_Pc [.ref (a 0), .int (nI i), .int b] (mI D z a th n w gn lk pu fa he nv of mp mi k nt fu re)) (vp_Si (fun r : Int32 => r = mq_rfd (fa i) (lk i) fu b)) 0 0 (fun _ => False) := by
  refine Met.ofW (cc := cX1_refund) (maxL := 3) (ret := (some .int)) (by decide) rfl ?_
  intro p e s m args below meth c s₁ B hml hv
  obtain ⟨rfl, hP, hK⟩ := hv
  have hx := B.exec
  have hb := B.bytes
  have hr := B.returns
  have hts := atoms_spec (ws := ws_ yX1_refund cX1_refund 3 (some .int)) B.pre
  have hts : ∀ w ∈ lw_all, w.before _ s = true := fun w h => hts w (List.mem_cons_of_mem _ h)
  have hown : s.vm.findClass RX1 = some m.cls := findClass_of_methodNamed B.named
  have hlocks := B.notSynchronized
  have hC : CallFix p m c cX1_refund 3 s _ lw_all RX1 := ⟨hx, hb, hml, hown, hts⟩
  have hl := lv_entry ([.ref (a 0), .int (nI i), .int b]) (n := 3) (Nat.le_of_ble_eq_true rfl)
  rw [lg_entry_eq]
  generalize (lg_sl ([.ref (a 0), .int (nI i), .int b]) ++ List.replicate (3 - (lg_sl ([.ref (a 0), .int (nI i), .int b])).length) Slot.unset).toArray = ls at hl ⊢
  have hl : lv_has ls 3 [(0, .ref (a 0)), (1, .int (nI i)), (2, .int b)] := hl
  refine lv_iload_n hx hb dX1_refund_0 rfl (lv_at hl 2 rfl) ?_
  refine lv_if_eq (tgt := 19) hx hb dX1_refund_1 (by decide) (fun c_1 => ?_) (fun c_1 => ?_)
  · refine lv_iconst (v := 0) hx hb dX1_refund_19 (by decide) ?_
    exact W.iret (v := 0) hx hb hr (fun t ht hW => ⟨0, rfl, (by simp [mq_rfd, c_1]), ht⟩) (fun q hq => absurd hq List.not_mem_nil) dX1_refund_20
  · refine lv_iload_n hx hb dX1_refund_4 rfl (lv_at hl 2 rfl) ?_
    refine lv_bipush (v := 24) hx hb dX1_refund_5 (by decide) ?_
    refine lv_icmp_gt (tgt := 19) hx hb dX1_refund_7 (by decide) (fun c_7 => ?_) (fun c_7 => ?_)
    · refine lv_iconst (v := 0) hx hb dX1_refund_19 (by decide) ?_
      exact W.iret (v := 0) hx hb hr (fun t ht hW => ⟨0, rfl, (by simp [mq_rfd, c_1, c_7]), ht⟩) (fun q hq => absurd hq List.not_mem_nil) dX1_refund_20
    · refine lv_aload_n hx hb dX1_refund_10 rfl (lv_at hl 0 rfl) ?_
      refine mg_fa hC hK hP dX1_refund_11 ?_
      refine lv_iload_n hx hb dX1_refund_14 rfl (lv_at hl 1 rfl) ?_
      refine ml_fa hC hK hP i rfl (by omega) dX1_refund_15 ?_
      refine lv_if_ne (tgt := 21) hx hb dX1_refund_16 (by decide) (fun c_16 => ?_) (fun c_16 => ?_)
      · refine lv_aload_n hx hb dX1_refund_21 rfl (lv_at hl 0 rfl) ?_
        refine mg_fu hC hK hP dX1_refund_22 ?_
        refine lv_aload_n hx hb dX1_refund_25 rfl (lv_at hl 0 rfl) ?_
        refine lv_iload_n hx hb dX1_refund_26 rfl (lv_at hl 1 rfl) ?_
        refine k_X1_price hC hK hP hl.1 ⟨Nat.le_of_ble_eq_true rfl, Nat.le_of_ble_eq_true rfl⟩ ⟨Nat.zero_le _, Nat.zero_le _⟩ (Nat.le_of_ble_eq_true rfl) rfl (by first | assumption | omega) dX1_refund_27 ?_
        refine lv_bipush (v := 24) hx hb dX1_refund_30 (by decide) ?_
        refine lv_iadd hx hb dX1_refund_32 ?_
        refine lv_iload_n hx hb dX1_refund_33 rfl (lv_at hl 2 rfl) ?_
        refine lv_isub hx hb dX1_refund_34 ?_
        refine va_mmin hx hb (hml.trans hl.1.symm) hown (hts _ mM_X1_71) (hts _ mT_min) (hts _ mI_Math) (hts _ mC_min) (Nat.le_of_ble_eq_true rfl) (Nat.le_of_ble_eq_true rfl) (Nat.zero_le _) (Nat.zero_le _) dX1_refund_35 ?_
        exact W.iret (v := imin fu (((sp_price (lk i)) + 24) - b)) hx hb hr (fun t ht hW => ⟨imin fu (((sp_price (lk i)) + 24) - b), rfl, (by simp [mq_rfd, c_1, c_7, c_16]), ht⟩) (fun q hq => absurd hq List.not_mem_nil) dX1_refund_38
      · refine lv_iconst (v := 0) hx hb dX1_refund_19 (by decide) ?_
        exact W.iret (v := 0) hx hb hr (fun t ht hW => ⟨0, rfl, (by simp [mq_rfd, c_1, c_7, c_16]), ht⟩) (fun q hq => absurd hq List.not_mem_nil) dX1_refund_20
set_option maxRecDepth 100000 in
theorem k_X1_refund {p : Program} {l : Launch} {e : Env} {R : Room} {s : State} {m : MethodId} {args : Array Value} {below : List Frame} {meth : Method} {c : Code} {H : Heap} {locs : List Loc} {cells slots : Nat} {Q : State → Prop} {D : va_G} {z : ClassId × ClassId} {a : Nat → Nat} {th : Int32} {n w : Nat} {gn lk pu fa he nv of mp mi : Nat → Int32} {k : Nat} {nt fu re : Int32} {cc : ByteArray} {nL pc : Nat} {ls : Array Slot} {rest : List Value} (hC : CallFix p m c cc nL s args lw_all RX1) (hK : kK D z s) (hP : va_P D vwCl (mW z a th n w gn lk pu fa he nv of mp mi k nt fu re) H) (hl : ls.size = nL) (hR : 2 ≤ R.frames ∧ 43 ≤ R.locals) (hz : cells ≤ R.cells ∧ slots ≤ R.slots) (hr : (rest.map fun v => v.category).sum ≤ 8) {i : Nat} {b : Int32} {x0 : Int32} (hx0 : x0 = nI i) (hi : i < 10) (hdg : decode cc pc = .ok (.invokevirtual 110, 3)) (kk : W p l e R s m args below meth c H locs cells slots Q (F0 m (pc + 3) ls (.int (mq_rfd (fa i) (lk i) fu b) :: rest))) : W p l e R s m args below meth c H locs cells slots Q (F0 m pc ls (.int b :: .int x0 :: .ref (a 0) :: rest)) := by
  subst hx0
  exact vp_callSi (W.runV (As := [.int (nI i), .int b]) (rest := rest) hC (c_X1_refund l i hi b) (cwV 2 hC.2.2.2.2 (gi_V mM_X1_110 mV_X1_refund mS_X1_refund mI_MissRegistryModel mC_X1_refund) rfl rfl rfl (by decide +kernel) hR) (mpre hK hP) rfl rfl hl rfl (lv_room hr) hdg hz) (fun r hr => by rw [hr]; exact kk)
set_option maxHeartbeats 4000000 in
set_option maxRecDepth 100000 in
theorem c_X1_shock (l : Launch) (b : Int32) : Met l yX1_shock (ws_ yX1_shock cX1_shock 1 (some .int)) ({ frames := 0, cells := 0, slots := 0, locals := 0 } : Room) (va_Pc [.int b] (fun _ => True)) (vp_Si (fun r : Int32 => r = sp_loss b)) 0 0 (fun _ => False) := by
  refine Met.ofW (cc := cX1_shock) (maxL := 1) (ret := (some .int)) (by decide) rfl ?_
  intro p e s m args below meth c s₁ B hml hv
  obtain ⟨rfl, -⟩ := hv
  have hx := B.exec
  have hb := B.bytes
  have hr := B.returns
  have hts := atoms_spec (ws := ws_ yX1_shock cX1_shock 1 (some .int)) B.pre
  have hts : ∀ w ∈ lw_all, w.before _ s = true := fun w h => hts w (List.mem_cons_of_mem _ h)
  have hown : s.vm.findClass RX1 = some m.cls := findClass_of_methodNamed B.named
  have hlocks := B.notSynchronized
  have hC : CallFix p m c cX1_shock 1 s _ lw_all RX1 := ⟨hx, hb, hml, hown, hts⟩
  have hl := lv_entry ([.int b]) (n := 1) (Nat.le_of_ble_eq_true rfl)
  rw [lg_entry_eq]
  generalize (lg_sl ([.int b]) ++ List.replicate (1 - (lg_sl ([.int b])).length) Slot.unset).toArray = ls at hl ⊢
  have hl : lv_has ls 1 [(0, .int b)] := hl
  refine lv_iload_n hx hb dX1_shock_0 rfl (lv_at hl 0 rfl) ?_
  refine lv_iconst (v := 5) hx hb dX1_shock_1 (by decide) ?_
  refine lv_icmp_gt (tgt := 9) hx hb dX1_shock_2 (by decide) (fun c_2 => ?_) (fun c_2 => ?_)
  · refine lv_iload_n hx hb dX1_shock_9 rfl (lv_at hl 0 rfl) ?_
    refine lv_bipush (v := 12) hx hb dX1_shock_10 (by decide) ?_
    refine lv_icmp_gt (tgt := 19) hx hb dX1_shock_12 (by decide) (fun c_12 => ?_) (fun c_12 => ?_)
    · refine lv_iconst (v := 1) hx hb dX1_shock_19 (by decide) ?_
      exact W.iret (v := 1) hx hb hr (fun t ht hW => ⟨1, rfl, (by simp [sp_loss, c_2, c_12]), ht⟩) (fun q hq => absurd hq List.not_mem_nil) dX1_shock_20
    · refine lv_iconst (v := 2) hx hb dX1_shock_15 (by decide) ?_
      refine lv_goto (tgt := 20) hx hb dX1_shock_16 (by decide) ?_
      exact W.iret (v := 2) hx hb hr (fun t ht hW => ⟨2, rfl, (by simp [sp_loss, c_2, c_12]), ht⟩) (fun q hq => absurd hq List.not_mem_nil) dX1_shock_20
  · refine lv_iconst (v := 3) hx hb dX1_shock_5 (by decide) ?_
    refine lv_goto (tgt := 20) hx hb dX1_shock_6 (by decide) ?_
    exact W.iret (v := 3) hx hb hr (fun t ht hW => ⟨3, rfl, (by simp [sp_loss, c_2]), ht⟩) (fun q hq => absurd hq List.not_mem_nil) dX1_shock_20
set_option maxRecDepth 100000 in
theorem k_X1_shock {p : Program} {l : Launch} {e : Env} {R : Room} {s : State} {m : MethodId} {args : Array Value} {below : List Frame} {meth : Method} {c : Code} {H : Heap} {locs : List Loc} {cells slots : Nat} {Q : State → Prop} {cc : ByteArray} {nL pc : Nat} {ls : Array Slot} {rest : List Value} (hC : CallFix p m c cc nL s args lw_all RX1) (hl : ls.size = nL) (hR : 1 ≤ R.frames ∧ 20 ≤ R.locals) (hz : cells ≤ R.cells ∧ slots ≤ R.slots) (hr : (rest.map fun v => v.category).sum ≤ 8) {b : Int32}   (hdg : decode cc pc = .ok (.invokestatic 116, 3)) (kk : W p l e R s m args below meth c H locs cells slots Q (F0 m (pc + 3) ls (.int (sp_loss b) :: rest))) : W p l e R s m args below meth c H locs cells slots Q (F0 m pc ls (.int b :: rest)) := by
  exact vp_callSi (W.runS (As := [.int b]) (rest := rest) hC (c_X1_shock l b) (va_cwS 1 hC.2.2.2.2 (gi_S mM_X1_116 mT_X1_shock mI_MissRegistryModel mC_X1_shock) rfl rfl rfl (by decide +kernel) hR) ⟨fun _ _ _ _ q => q, fun U hU hW => ⟨rfl, trivial⟩⟩ rfl rfl hl rfl (lv_room hr) hdg hz) (fun r hr => by rw [hr]; exact kk)
set_option maxHeartbeats 4000000 in
set_option maxRecDepth 100000 in
theorem c_X1_shakenNow (l : Launch) {D : va_G} {z : ClassId × ClassId} {a : Nat → Nat} {th : Int32} {n w : Nat} {gn lk pu fa he nv of mp mi : Nat → Int32} {k : Nat} {nt fu re : Int32} (hw : w ≤ 6) : Met l yX1_shakenNow (ws_ yX1_shakenNow cX1_shakenNow 3 (some .int)) ({ frames := 0, cells := 0, slots := 0, locals := 0 } : Room) (va_Pc [.ref (a 0)] (mI D z a th n w gn lk pu fa he nv of mp mi k nt fu re)) (vp_Si (fun r : Int32 => r = sp_shk nv w)) 0 0 (fun _ => False) := by
  refine Met.ofW (cc := cX1_shakenNow) (maxL := 3) (ret := (some .int)) (by decide) rfl ?_
  intro p e s m args below meth c s₁ B hml hv
  obtain ⟨rfl, hP, hK⟩ := hv
  have hx := B.exec
  have hb := B.bytes
  have hr := B.returns
  have hts := atoms_spec (ws := ws_ yX1_shakenNow cX1_shakenNow 3 (some .int)) B.pre
  have hts : ∀ w ∈ lw_all, w.before _ s = true := fun w h => hts w (List.mem_cons_of_mem _ h)
  have hown : s.vm.findClass RX1 = some m.cls := findClass_of_methodNamed B.named
  have hlocks := B.notSynchronized
  have hC : CallFix p m c cX1_shakenNow 3 s _ lw_all RX1 := ⟨hx, hb, hml, hown, hts⟩
  have hl := lv_entry ([.ref (a 0)]) (n := 3) (Nat.le_of_ble_eq_true rfl)
  rw [lg_entry_eq]
  generalize (lg_sl ([.ref (a 0)]) ++ List.replicate (3 - (lg_sl ([.ref (a 0)])).length) Slot.unset).toArray = ls at hl ⊢
  have hl : lv_has ls 3 [(0, .ref (a 0))] := hl
  refine lv_iconst (v := 0) hx hb dX1_shakenNow_0 (by decide) ?_
  refine lv_istore_n (lv' := [(1, .int 0), (0, .ref (a 0))]) hx hb dX1_shakenNow_1 rfl hl (by decide) rfl (fun ls hl => ?_)
  refine lv_iconst (v := 0) hx hb dX1_shakenNow_2 (by decide) ?_
  refine lv_istore_n (lv' := [(2, .int 0), (1, .int 0), (0, .ref (a 0))]) hx hb dX1_shakenNow_3 rfl hl (by decide) rfl (fun ls hl => ?_)
  have loop_4 : ∀ (f : Nat) (j : Nat) (x : Int32), j ≤ w → w + 1 ≤ j + f → x = sp_shk nv j → ∀ ls : Array Slot, lv_has ls 3 [(0, .ref (a 0)), (1, .int x), (2, .int (nI j))] → W p l e ({ frames := 0, cells := 0, slots := 0, locals := 0 } : Room) s m ([.ref (a 0)] : List Value).toArray below meth c s.heap [] 0 0 (MQ below (vp_Si (fun r : Int32 => r = sp_shk nv w)) ([.ref (a 0)] : List Value).toArray s 0 0 (fun _ => False)) (F0 m 4 ls []) := by
    intro f
    induction f with
    | zero =>
      intro j x hj hf ex
      exact absurd hf (by omega)
    | succ f ih4 =>
      intro j x hj hf ex ls hl
      refine lv_iload_n hx hb dX1_shakenNow_4 rfl (lv_at hl 2 rfl) ?_
      refine lv_aload_n hx hb dX1_shakenNow_5 rfl (lv_at hl 0 rfl) ?_
      refine mg_w hC hK hP dX1_shakenNow_6 ?_
      refine lv_icmp_ge (tgt := 36) hx hb dX1_shakenNow_9 (by decide) (fun c_9 => ?_) (fun c_9 => ?_)
      · have nc_9 : w ≤ j := nn_le (by omega) c_9
        refine lv_iload_n hx hb dX1_shakenNow_36 rfl (lv_at hl 1 rfl) ?_
        exact W.iret (v := x) hx hb hr (fun t ht hW => ⟨x, rfl, (by rw [ex, show j = w by omega]), ht⟩) (fun q hq => absurd hq List.not_mem_nil) dX1_shakenNow_37
      · have nc_9 : j < w := nn_nle (by omega) c_9
        refine lv_iload_n hx hb dX1_shakenNow_12 rfl (lv_at hl 1 rfl) ?_
        refine lv_aload_n hx hb dX1_shakenNow_13 rfl (lv_at hl 0 rfl) ?_
        refine mg_nv hC hK hP dX1_shakenNow_14 ?_
        refine lv_iload_n hx hb dX1_shakenNow_17 rfl (lv_at hl 2 rfl) ?_
        refine ml_nv hC hK hP j rfl (by omega) dX1_shakenNow_18 ?_
        refine lv_iconst (v := 2) hx hb dX1_shakenNow_19 (by decide) ?_
        refine lv_icmp_gt (tgt := 27) hx hb dX1_shakenNow_20 (by decide) (fun c_20 => ?_) (fun c_20 => ?_)
        · refine lv_iconst (v := 0) hx hb dX1_shakenNow_27 (by decide) ?_
          refine lv_iadd hx hb dX1_shakenNow_28 ?_
          refine lv_istore_n (lv' := [(1, .int (x + 0)), (0, .ref (a 0)), (2, .int (nI j))]) hx hb dX1_shakenNow_29 rfl hl (by decide) rfl (fun ls hl => ?_)
          refine lv_iinc (v := nI (j + 1)) (lv' := [(2, .int (nI (j + 1))), (1, .int (x + 0)), (0, .ref (a 0))]) hx hb dX1_shakenNow_30 hl (k := 2) rfl (nI_1 _) (by decide) rfl (fun ls hl => ?_)
          refine lv_goto (tgt := 4) hx hb dX1_shakenNow_33 (by decide) ?_
          exact ih4 (j + 1) (x + 0) (by omega) (by omega) (by simp [ex, sp_shk, sp_sh, c_20]) _ (lv_sub hl [2, 1, 0] rfl)
        · refine lv_iconst (v := 1) hx hb dX1_shakenNow_23 (by decide) ?_
          refine lv_goto (tgt := 28) hx hb dX1_shakenNow_24 (by decide) ?_
          refine lv_iadd hx hb dX1_shakenNow_28 ?_
          refine lv_istore_n (lv' := [(1, .int (x + 1)), (0, .ref (a 0)), (2, .int (nI j))]) hx hb dX1_shakenNow_29 rfl hl (by decide) rfl (fun ls hl => ?_)
          refine lv_iinc (v := nI (j + 1)) (lv' := [(2, .int (nI (j + 1))), (1, .int (x + 1)), (0, .ref (a 0))]) hx hb dX1_shakenNow_30 hl (k := 2) rfl (nI_1 _) (by decide) rfl (fun ls hl => ?_)
          refine lv_goto (tgt := 4) hx hb dX1_shakenNow_33 (by decide) ?_
          exact ih4 (j + 1) (x + 1) (by omega) (by omega) (by simp [ex, sp_shk, sp_sh, c_20]) _ (lv_sub hl [2, 1, 0] rfl)
  exact loop_4 (w + 1) 0 0 (Nat.zero_le _) (by omega) rfl _ (lv_sub hl [2, 1, 0] rfl)
set_option maxRecDepth 100000 in
theorem k_X1_shakenNow {p : Program} {l : Launch} {e : Env} {R : Room} {s : State} {m : MethodId} {args : Array Value} {below : List Frame} {meth : Method} {c : Code} {H : Heap} {locs : List Loc} {cells slots : Nat} {Q : State → Prop} {D : va_G} {z : ClassId × ClassId} {a : Nat → Nat} {th : Int32} {n w : Nat} {gn lk pu fa he nv of mp mi : Nat → Int32} {k : Nat} {nt fu re : Int32} {cc : ByteArray} {nL pc : Nat} {ls : Array Slot} {rest : List Value} (hC : CallFix p m c cc nL s args lw_all RX1) (hK : kK D z s) (hP : va_P D vwCl (mW z a th n w gn lk pu fa he nv of mp mi k nt fu re) H) (hl : ls.size = nL) (hR : 1 ≤ R.frames ∧ 22 ≤ R.locals) (hz : cells ≤ R.cells ∧ slots ≤ R.slots) (hr : (rest.map fun v => v.category).sum ≤ 8)   (hw : w ≤ 6) (hdg : decode cc pc = .ok (.invokevirtual 125, 3)) (kk : W p l e R s m args below meth c H locs cells slots Q (F0 m (pc + 3) ls (.int (sp_shk nv w) :: rest))) : W p l e R s m args below meth c H locs cells slots Q (F0 m pc ls (.ref (a 0) :: rest)) := by
  exact vp_callSi (W.runV (As := []) (rest := rest) hC (c_X1_shakenNow l hw) (cwV 0 hC.2.2.2.2 (gi_V mM_X1_125 mV_X1_shakenNow mS_X1_shakenNow mI_MissRegistryModel mC_X1_shakenNow) rfl rfl rfl (by decide +kernel) hR) (mpre hK hP) rfl rfl hl rfl (lv_room hr) hdg hz) (fun r hr => by rw [hr]; exact kk)
set_option maxHeartbeats 4000000 in
set_option maxRecDepth 100000 in
theorem c_X1_living (l : Launch) {D : va_G} {z : ClassId × ClassId} {a : Nat → Nat} {th : Int32} {n w : Nat} {gn lk pu fa he nv of mp mi : Nat → Int32} {k : Nat} {nt fu re : Int32} (hn : n ≤ 10) : Met l yX1_living (ws_ yX1_living cX1_living 3 (some .int)) ({ frames := 0, cells := 0, slots := 0, locals := 0 } : Room) (va_Pc [.ref (a 0)] (mI D z a th n w gn lk pu fa he nv of mp mi k nt fu re)) (vp_Si (fun r : Int32 => r = mq_liv gn n)) 0 0 (fun _ => False) := by
  refine Met.ofW (cc := cX1_living) (maxL := 3) (ret := (some .int)) (by decide) rfl ?_
  intro p e s m args below meth c s₁ B hml hv
  obtain ⟨rfl, hP, hK⟩ := hv
  have hx := B.exec
  have hb := B.bytes
  have hr := B.returns
  have hts := atoms_spec (ws := ws_ yX1_living cX1_living 3 (some .int)) B.pre
  have hts : ∀ w ∈ lw_all, w.before _ s = true := fun w h => hts w (List.mem_cons_of_mem _ h)
  have hown : s.vm.findClass RX1 = some m.cls := findClass_of_methodNamed B.named
  have hlocks := B.notSynchronized
  have hC : CallFix p m c cX1_living 3 s _ lw_all RX1 := ⟨hx, hb, hml, hown, hts⟩
  have hl := lv_entry ([.ref (a 0)]) (n := 3) (Nat.le_of_ble_eq_true rfl)
  rw [lg_entry_eq]
  generalize (lg_sl ([.ref (a 0)]) ++ List.replicate (3 - (lg_sl ([.ref (a 0)])).length) Slot.unset).toArray = ls at hl ⊢
  have hl : lv_has ls 3 [(0, .ref (a 0))] := hl
  refine lv_iconst (v := 0) hx hb dX1_living_0 (by decide) ?_
  refine lv_istore_n (lv' := [(1, .int 0), (0, .ref (a 0))]) hx hb dX1_living_1 rfl hl (by decide) rfl (fun ls hl => ?_)
  refine lv_iconst (v := 0) hx hb dX1_living_2 (by decide) ?_
  refine lv_istore_n (lv' := [(2, .int 0), (1, .int 0), (0, .ref (a 0))]) hx hb dX1_living_3 rfl hl (by decide) rfl (fun ls hl => ?_)
  have loop_4 : ∀ (f : Nat) (j : Nat) (x : Int32), j ≤ n → n + 1 ≤ j + f → x = mq_liv gn j → ∀ ls : Array Slot, lv_has ls 3 [(0, .ref (a 0)), (1, .int x), (2, .int (nI j))] → W p l e ({ frames := 0, cells := 0, slots := 0, locals := 0 } : Room) s m ([.ref (a 0)] : List Value).toArray below meth c s.heap [] 0 0 (MQ below (vp_Si (fun r : Int32 => r = mq_liv gn n)) ([.ref (a 0)] : List Value).toArray s 0 0 (fun _ => False)) (F0 m 4 ls []) := by
    intro f
    induction f with
    | zero =>
      intro j x hj hf ex
      exact absurd hf (by omega)
    | succ f ih4 =>
      intro j x hj hf ex ls hl
      refine lv_iload_n hx hb dX1_living_4 rfl (lv_at hl 2 rfl) ?_
      refine lv_aload_n hx hb dX1_living_5 rfl (lv_at hl 0 rfl) ?_
      refine mg_n hC hK hP dX1_living_6 ?_
      refine lv_icmp_ge (tgt := 35) hx hb dX1_living_9 (by decide) (fun c_9 => ?_) (fun c_9 => ?_)
      · have nc_9 : n ≤ j := nn_le (by omega) c_9
        refine lv_iload_n hx hb dX1_living_35 rfl (lv_at hl 1 rfl) ?_
        exact W.iret (v := x) hx hb hr (fun t ht hW => ⟨x, rfl, (by rw [ex, show j = n by omega]), ht⟩) (fun q hq => absurd hq List.not_mem_nil) dX1_living_36
      · have nc_9 : j < n := nn_nle (by omega) c_9
        refine lv_iload_n hx hb dX1_living_12 rfl (lv_at hl 1 rfl) ?_
        refine lv_aload_n hx hb dX1_living_13 rfl (lv_at hl 0 rfl) ?_
        refine mg_gn hC hK hP dX1_living_14 ?_
        refine lv_iload_n hx hb dX1_living_17 rfl (lv_at hl 2 rfl) ?_
        refine ml_gn hC hK hP j rfl (by omega) dX1_living_18 ?_
        refine lv_if_eq (tgt := 26) hx hb dX1_living_19 (by decide) (fun c_19 => ?_) (fun c_19 => ?_)
        · refine lv_iconst (v := 1) hx hb dX1_living_26 (by decide) ?_
          refine lv_iadd hx hb dX1_living_27 ?_
          refine lv_istore_n (lv' := [(1, .int (x + 1)), (0, .ref (a 0)), (2, .int (nI j))]) hx hb dX1_living_28 rfl hl (by decide) rfl (fun ls hl => ?_)
          refine lv_iinc (v := nI (j + 1)) (lv' := [(2, .int (nI (j + 1))), (1, .int (x + 1)), (0, .ref (a 0))]) hx hb dX1_living_29 hl (k := 2) rfl (nI_1 _) (by decide) rfl (fun ls hl => ?_)
          refine lv_goto (tgt := 4) hx hb dX1_living_32 (by decide) ?_
          exact ih4 (j + 1) (x + 1) (by omega) (by omega) (by simp [ex, mq_liv, c_19]) _ (lv_sub hl [2, 1, 0] rfl)
        · refine lv_iconst (v := 0) hx hb dX1_living_22 (by decide) ?_
          refine lv_goto (tgt := 27) hx hb dX1_living_23 (by decide) ?_
          refine lv_iadd hx hb dX1_living_27 ?_
          refine lv_istore_n (lv' := [(1, .int (x + 0)), (0, .ref (a 0)), (2, .int (nI j))]) hx hb dX1_living_28 rfl hl (by decide) rfl (fun ls hl => ?_)
          refine lv_iinc (v := nI (j + 1)) (lv' := [(2, .int (nI (j + 1))), (1, .int (x + 0)), (0, .ref (a 0))]) hx hb dX1_living_29 hl (k := 2) rfl (nI_1 _) (by decide) rfl (fun ls hl => ?_)
          refine lv_goto (tgt := 4) hx hb dX1_living_32 (by decide) ?_
          exact ih4 (j + 1) (x + 0) (by omega) (by omega) (by simp [ex, mq_liv, c_19]) _ (lv_sub hl [2, 1, 0] rfl)
  exact loop_4 (n + 1) 0 0 (Nat.zero_le _) (by omega) rfl _ (lv_sub hl [2, 1, 0] rfl)
set_option maxRecDepth 100000 in
theorem k_X1_living {p : Program} {l : Launch} {e : Env} {R : Room} {s : State} {m : MethodId} {args : Array Value} {below : List Frame} {meth : Method} {c : Code} {H : Heap} {locs : List Loc} {cells slots : Nat} {Q : State → Prop} {D : va_G} {z : ClassId × ClassId} {a : Nat → Nat} {th : Int32} {n w : Nat} {gn lk pu fa he nv of mp mi : Nat → Int32} {k : Nat} {nt fu re : Int32} {cc : ByteArray} {nL pc : Nat} {ls : Array Slot} {rest : List Value} (hC : CallFix p m c cc nL s args lw_all RX1) (hK : kK D z s) (hP : va_P D vwCl (mW z a th n w gn lk pu fa he nv of mp mi k nt fu re) H) (hl : ls.size = nL) (hR : 1 ≤ R.frames ∧ 22 ≤ R.locals) (hz : cells ≤ R.cells ∧ slots ≤ R.slots) (hr : (rest.map fun v => v.category).sum ≤ 8)   (hn : n ≤ 10) (hdg : decode cc pc = .ok (.invokevirtual 131, 3)) (kk : W p l e R s m args below meth c H locs cells slots Q (F0 m (pc + 3) ls (.int (mq_liv gn n) :: rest))) : W p l e R s m args below meth c H locs cells slots Q (F0 m pc ls (.ref (a 0) :: rest)) := by
  exact vp_callSi (W.runV (As := []) (rest := rest) hC (c_X1_living l hn) (cwV 0 hC.2.2.2.2 (gi_V mM_X1_131 mV_X1_living mS_X1_living mI_MissRegistryModel mC_X1_living) rfl rfl rfl (by decide +kernel) hR) (mpre hK hP) rfl rfl hl rfl (lv_room hr) hdg hz) (fun r hr => by rw [hr]; exact kk)
set_option maxHeartbeats 4000000 in
set_option maxRecDepth 100000 in
theorem c_X1_sealed (l : Launch) {D : va_G} {z : ClassId × ClassId} {a : Nat → Nat} {th : Int32} {n w : Nat} {gn lk pu fa he nv of mp mi : Nat → Int32} {k : Nat} {nt fu re : Int32} (hk : k ≤ 60) : Met l yX1_sealed (ws_ yX1_sealed cX1_sealed 3 (some .int)) ({ frames := 0, cells := 0, slots := 0, locals := 0 } : Room) (va_Pc [.ref (a 0)] (mI D z a th n w gn lk pu fa he nv of mp mi k nt fu re)) (vp_Si (fun r : Int32 => r = sp_cert mi k)) 0 0 (fun _ => False) := by
  refine Met.ofW (cc := cX1_sealed) (maxL := 3) (ret := (some .int)) (by decide) rfl ?_
  intro p e s m args below meth c s₁ B hml hv
  obtain ⟨rfl, hP, hK⟩ := hv
  have hx := B.exec
  have hb := B.bytes
  have hr := B.returns
  have hts := atoms_spec (ws := ws_ yX1_sealed cX1_sealed 3 (some .int)) B.pre
  have hts : ∀ w ∈ lw_all, w.before _ s = true := fun w h => hts w (List.mem_cons_of_mem _ h)
  have hown : s.vm.findClass RX1 = some m.cls := findClass_of_methodNamed B.named
  have hlocks := B.notSynchronized
  have hC : CallFix p m c cX1_sealed 3 s _ lw_all RX1 := ⟨hx, hb, hml, hown, hts⟩
  have hl := lv_entry ([.ref (a 0)]) (n := 3) (Nat.le_of_ble_eq_true rfl)
  rw [lg_entry_eq]
  generalize (lg_sl ([.ref (a 0)]) ++ List.replicate (3 - (lg_sl ([.ref (a 0)])).length) Slot.unset).toArray = ls at hl ⊢
  have hl : lv_has ls 3 [(0, .ref (a 0))] := hl
  refine lv_iconst (v := 0) hx hb dX1_sealed_0 (by decide) ?_
  refine lv_istore_n (lv' := [(1, .int 0), (0, .ref (a 0))]) hx hb dX1_sealed_1 rfl hl (by decide) rfl (fun ls hl => ?_)
  refine lv_iconst (v := 0) hx hb dX1_sealed_2 (by decide) ?_
  refine lv_istore_n (lv' := [(2, .int 0), (1, .int 0), (0, .ref (a 0))]) hx hb dX1_sealed_3 rfl hl (by decide) rfl (fun ls hl => ?_)
  have loop_4 : ∀ (f : Nat) (j : Nat) (x : Int32), j ≤ k → k + 1 ≤ j + f → x = sp_cert mi j → ∀ ls : Array Slot, lv_has ls 3 [(0, .ref (a 0)), (1, .int x), (2, .int (nI j))] → W p l e ({ frames := 0, cells := 0, slots := 0, locals := 0 } : Room) s m ([.ref (a 0)] : List Value).toArray below meth c s.heap [] 0 0 (MQ below (vp_Si (fun r : Int32 => r = sp_cert mi k)) ([.ref (a 0)] : List Value).toArray s 0 0 (fun _ => False)) (F0 m 4 ls []) := by
    intro f
    induction f with
    | zero =>
      intro j x hj hf ex
      exact absurd hf (by omega)
    | succ f ih4 =>
      intro j x hj hf ex ls hl
      refine lv_iload_n hx hb dX1_sealed_4 rfl (lv_at hl 2 rfl) ?_
      refine lv_aload_n hx hb dX1_sealed_5 rfl (lv_at hl 0 rfl) ?_
      refine mg_k hC hK hP dX1_sealed_6 ?_
      refine lv_icmp_ge (tgt := 35) hx hb dX1_sealed_9 (by decide) (fun c_9 => ?_) (fun c_9 => ?_)
      · have nc_9 : k ≤ j := nn_le (by omega) c_9
        refine lv_iload_n hx hb dX1_sealed_35 rfl (lv_at hl 1 rfl) ?_
        exact W.iret (v := x) hx hb hr (fun t ht hW => ⟨x, rfl, (by rw [ex, show j = k by omega]), ht⟩) (fun q hq => absurd hq List.not_mem_nil) dX1_sealed_36
      · have nc_9 : j < k := nn_nle (by omega) c_9
        refine lv_iload_n hx hb dX1_sealed_12 rfl (lv_at hl 1 rfl) ?_
        refine lv_aload_n hx hb dX1_sealed_13 rfl (lv_at hl 0 rfl) ?_
        refine mg_mi hC hK hP dX1_sealed_14 ?_
        refine lv_iload_n hx hb dX1_sealed_17 rfl (lv_at hl 2 rfl) ?_
        refine ml_mi hC hK hP j rfl (by omega) dX1_sealed_18 ?_
        refine lv_if_le (tgt := 26) hx hb dX1_sealed_19 (by decide) (fun c_19 => ?_) (fun c_19 => ?_)
        · refine lv_iconst (v := 0) hx hb dX1_sealed_26 (by decide) ?_
          refine lv_iadd hx hb dX1_sealed_27 ?_
          refine lv_istore_n (lv' := [(1, .int (x + 0)), (0, .ref (a 0)), (2, .int (nI j))]) hx hb dX1_sealed_28 rfl hl (by decide) rfl (fun ls hl => ?_)
          refine lv_iinc (v := nI (j + 1)) (lv' := [(2, .int (nI (j + 1))), (1, .int (x + 0)), (0, .ref (a 0))]) hx hb dX1_sealed_29 hl (k := 2) rfl (nI_1 _) (by decide) rfl (fun ls hl => ?_)
          refine lv_goto (tgt := 4) hx hb dX1_sealed_32 (by decide) ?_
          exact ih4 (j + 1) (x + 0) (by omega) (by omega) (by simp [ex, sp_cert, c_19]) _ (lv_sub hl [2, 1, 0] rfl)
        · refine lv_iconst (v := 1) hx hb dX1_sealed_22 (by decide) ?_
          refine lv_goto (tgt := 27) hx hb dX1_sealed_23 (by decide) ?_
          refine lv_iadd hx hb dX1_sealed_27 ?_
          refine lv_istore_n (lv' := [(1, .int (x + 1)), (0, .ref (a 0)), (2, .int (nI j))]) hx hb dX1_sealed_28 rfl hl (by decide) rfl (fun ls hl => ?_)
          refine lv_iinc (v := nI (j + 1)) (lv' := [(2, .int (nI (j + 1))), (1, .int (x + 1)), (0, .ref (a 0))]) hx hb dX1_sealed_29 hl (k := 2) rfl (nI_1 _) (by decide) rfl (fun ls hl => ?_)
          refine lv_goto (tgt := 4) hx hb dX1_sealed_32 (by decide) ?_
          exact ih4 (j + 1) (x + 1) (by omega) (by omega) (by simp [ex, sp_cert, c_19]) _ (lv_sub hl [2, 1, 0] rfl)
  exact loop_4 (k + 1) 0 0 (Nat.zero_le _) (by omega) rfl _ (lv_sub hl [2, 1, 0] rfl)
set_option maxRecDepth 100000 in
theorem k_X1_sealed {p : Program} {l : Launch} {e : Env} {R : Room} {s : State} {m : MethodId} {args : Array Value} {below : List Frame} {meth : Method} {c : Code} {H : Heap} {locs : List Loc} {cells slots : Nat} {Q : State → Prop} {D : va_G} {z : ClassId × ClassId} {a : Nat → Nat} {th : Int32} {n w : Nat} {gn lk pu fa he nv of mp mi : Nat → Int32} {k : Nat} {nt fu re : Int32} {cc : ByteArray} {nL pc : Nat} {ls : Array Slot} {rest : List Value} (hC : CallFix p m c cc nL s args lw_all RX1) (hK : kK D z s) (hP : va_P D vwCl (mW z a th n w gn lk pu fa he nv of mp mi k nt fu re) H) (hl : ls.size = nL) (hR : 1 ≤ R.frames ∧ 22 ≤ R.locals) (hz : cells ≤ R.cells ∧ slots ≤ R.slots) (hr : (rest.map fun v => v.category).sum ≤ 8)   (hk : k ≤ 60) (hdg : decode cc pc = .ok (.invokevirtual 134, 3)) (kk : W p l e R s m args below meth c H locs cells slots Q (F0 m (pc + 3) ls (.int (sp_cert mi k) :: rest))) : W p l e R s m args below meth c H locs cells slots Q (F0 m pc ls (.ref (a 0) :: rest)) := by
  exact vp_callSi (W.runV (As := []) (rest := rest) hC (c_X1_sealed l hk) (cwV 0 hC.2.2.2.2 (gi_V mM_X1_134 mV_X1_sealed mS_X1_sealed mI_MissRegistryModel mC_X1_sealed) rfl rfl rfl (by decide +kernel) hR) (mpre hK hP) rfl rfl hl rfl (lv_room hr) hdg hz) (fun r hr => by rw [hr]; exact kk)
set_option maxHeartbeats 4000000 in
set_option maxRecDepth 100000 in
theorem c_X1_many (l : Launch) {D : va_G} {z : ClassId × ClassId} {a : Nat → Nat} {th : Int32} {n w : Nat} {gn lk pu fa he nv of mp mi : Nat → Int32} {k : Nat} {nt fu re : Int32} (i : Nat) (hk : k ≤ 60) : Met l yX1_many (ws_ yX1_many cX1_many 4 (some .int)) ({ frames := 0, cells := 0, slots := 0, locals := 0 } : Room) (va_Pc [.ref (a 0), .int (nI i)] (mI D z a th n w gn lk pu fa he nv of mp mi k nt fu re)) (vp_Si (fun r : Int32 => r = sp_many mp (nI i) k)) 0 0 (fun _ => False) := by
  refine Met.ofW (cc := cX1_many) (maxL := 4) (ret := (some .int)) (by decide) rfl ?_
  intro p e s m args below meth c s₁ B hml hv
  obtain ⟨rfl, hP, hK⟩ := hv
  have hx := B.exec
  have hb := B.bytes
  have hr := B.returns
  have hts := atoms_spec (ws := ws_ yX1_many cX1_many 4 (some .int)) B.pre
  have hts : ∀ w ∈ lw_all, w.before _ s = true := fun w h => hts w (List.mem_cons_of_mem _ h)
  have hown : s.vm.findClass RX1 = some m.cls := findClass_of_methodNamed B.named
  have hlocks := B.notSynchronized
  have hC : CallFix p m c cX1_many 4 s _ lw_all RX1 := ⟨hx, hb, hml, hown, hts⟩
  have hl := lv_entry ([.ref (a 0), .int (nI i)]) (n := 4) (Nat.le_of_ble_eq_true rfl)
  rw [lg_entry_eq]
  generalize (lg_sl ([.ref (a 0), .int (nI i)]) ++ List.replicate (4 - (lg_sl ([.ref (a 0), .int (nI i)])).length) Slot.unset).toArray = ls at hl ⊢
  have hl : lv_has ls 4 [(0, .ref (a 0)), (1, .int (nI i))] := hl
  refine lv_iconst (v := 0) hx hb dX1_many_0 (by decide) ?_
  refine lv_istore_n (lv' := [(2, .int 0), (0, .ref (a 0)), (1, .int (nI i))]) hx hb dX1_many_1 rfl hl (by decide) rfl (fun ls hl => ?_)
  refine lv_iconst (v := 0) hx hb dX1_many_2 (by decide) ?_
  refine lv_istore_n (lv' := [(3, .int 0), (2, .int 0), (0, .ref (a 0)), (1, .int (nI i))]) hx hb dX1_many_3 rfl hl (by decide) rfl (fun ls hl => ?_)
  have loop_4 : ∀ (f : Nat) (j : Nat) (x : Int32), j ≤ k → k + 1 ≤ j + f → x = sp_many mp (nI i) j → ∀ ls : Array Slot, lv_has ls 4 [(0, .ref (a 0)), (1, .int (nI i)), (2, .int x), (3, .int (nI j))] → W p l e ({ frames := 0, cells := 0, slots := 0, locals := 0 } : Room) s m ([.ref (a 0), .int (nI i)] : List Value).toArray below meth c s.heap [] 0 0 (MQ below (vp_Si (fun r : Int32 => r = sp_many mp (nI i) k)) ([.ref (a 0), .int (nI i)] : List Value).toArray s 0 0 (fun _ => False)) (F0 m 4 ls []) := by
    intro f
    induction f with
    | zero =>
      intro j x hj hf ex
      exact absurd hf (by omega)
    | succ f ih4 =>
      intro j x hj hf ex ls hl
      refine lv_iload_n hx hb dX1_many_4 rfl (lv_at hl 3 rfl) ?_
      refine lv_aload_n hx hb dX1_many_5 rfl (lv_at hl 0 rfl) ?_
      refine mg_k hC hK hP dX1_many_6 ?_
      refine lv_icmp_ge (tgt := 36) hx hb dX1_many_9 (by decide) (fun c_9 => ?_) (fun c_9 => ?_)
      · have nc_9 : k ≤ j := nn_le (by omega) c_9
        refine lv_iload_n hx hb dX1_many_36 rfl (lv_at hl 2 rfl) ?_
        exact W.iret (v := x) hx hb hr (fun t ht hW => ⟨x, rfl, (by rw [ex, show j = k by omega]), ht⟩) (fun q hq => absurd hq List.not_mem_nil) dX1_many_37
      · have nc_9 : j < k := nn_nle (by omega) c_9
        refine lv_iload_n hx hb dX1_many_12 rfl (lv_at hl 2 rfl) ?_
        refine lv_aload_n hx hb dX1_many_13 rfl (lv_at hl 0 rfl) ?_
        refine mg_mp hC hK hP dX1_many_14 ?_
        refine lv_iload_n hx hb dX1_many_17 rfl (lv_at hl 3 rfl) ?_
        refine ml_mp hC hK hP j rfl (by omega) dX1_many_18 ?_
        refine lv_iload_n hx hb dX1_many_19 rfl (lv_at hl 1 rfl) ?_
        refine lv_icmp_ne (tgt := 27) hx hb dX1_many_20 (by decide) (fun c_20 => ?_) (fun c_20 => ?_)
        · refine lv_iconst (v := 0) hx hb dX1_many_27 (by decide) ?_
          refine lv_iadd hx hb dX1_many_28 ?_
          refine lv_istore_n (lv' := [(2, .int (x + 0)), (0, .ref (a 0)), (1, .int (nI i)), (3, .int (nI j))]) hx hb dX1_many_29 rfl hl (by decide) rfl (fun ls hl => ?_)
          refine lv_iinc (v := nI (j + 1)) (lv' := [(3, .int (nI (j + 1))), (2, .int (x + 0)), (0, .ref (a 0)), (1, .int (nI i))]) hx hb dX1_many_30 hl (k := 3) rfl (nI_1 _) (by decide) rfl (fun ls hl => ?_)
          refine lv_goto (tgt := 4) hx hb dX1_many_33 (by decide) ?_
          exact ih4 (j + 1) (x + 0) (by omega) (by omega) (by simp [ex, sp_many, c_20]) _ (lv_sub hl [2, 3, 1, 0] rfl)
        · refine lv_iconst (v := 1) hx hb dX1_many_23 (by decide) ?_
          refine lv_goto (tgt := 28) hx hb dX1_many_24 (by decide) ?_
          refine lv_iadd hx hb dX1_many_28 ?_
          refine lv_istore_n (lv' := [(2, .int (x + 1)), (0, .ref (a 0)), (1, .int (nI i)), (3, .int (nI j))]) hx hb dX1_many_29 rfl hl (by decide) rfl (fun ls hl => ?_)
          refine lv_iinc (v := nI (j + 1)) (lv' := [(3, .int (nI (j + 1))), (2, .int (x + 1)), (0, .ref (a 0)), (1, .int (nI i))]) hx hb dX1_many_30 hl (k := 3) rfl (nI_1 _) (by decide) rfl (fun ls hl => ?_)
          refine lv_goto (tgt := 4) hx hb dX1_many_33 (by decide) ?_
          exact ih4 (j + 1) (x + 1) (by omega) (by omega) (by simp [ex, sp_many, c_20]) _ (lv_sub hl [2, 3, 1, 0] rfl)
  exact loop_4 (k + 1) 0 0 (Nat.zero_le _) (by omega) rfl _ (lv_sub hl [2, 3, 1, 0] rfl)
set_option maxRecDepth 100000 in
theorem k_X1_many {p : Program} {l : Launch} {e : Env} {R : Room} {s : State} {m : MethodId} {args : Array Value} {below : List Frame} {meth : Method} {c : Code} {H : Heap} {locs : List Loc} {cells slots : Nat} {Q : State → Prop} {D : va_G} {z : ClassId × ClassId} {a : Nat → Nat} {th : Int32} {n w : Nat} {gn lk pu fa he nv of mp mi : Nat → Int32} {k : Nat} {nt fu re : Int32} {cc : ByteArray} {nL pc : Nat} {ls : Array Slot} {rest : List Value} (hC : CallFix p m c cc nL s args lw_all RX1) (hK : kK D z s) (hP : va_P D vwCl (mW z a th n w gn lk pu fa he nv of mp mi k nt fu re) H) (hl : ls.size = nL) (hR : 1 ≤ R.frames ∧ 23 ≤ R.locals) (hz : cells ≤ R.cells ∧ slots ≤ R.slots) (hr : (rest.map fun v => v.category).sum ≤ 8) {i : Nat} {x0 : Int32} (hx0 : x0 = nI i) (hk : k ≤ 60) (hdg : decode cc pc = .ok (.invokevirtual 141, 3)) (kk : W p l e R s m args below meth c H locs cells slots Q (F0 m (pc + 3) ls (.int (sp_many mp (nI i) k) :: rest))) : W p l e R s m args below meth c H locs cells slots Q (F0 m pc ls (.int x0 :: .ref (a 0) :: rest)) := by
  subst hx0
  exact vp_callSi (W.runV (As := [.int (nI i)]) (rest := rest) hC (c_X1_many l i hk) (cwV 1 hC.2.2.2.2 (gi_V mM_X1_141 mV_X1_many mS_X1_many mI_MissRegistryModel mC_X1_many) rfl rfl rfl (by decide +kernel) hR) (mpre hK hP) rfl rfl hl rfl (lv_room hr) hdg hz) (fun r hr => by rw [hr]; exact kk)
set_option maxHeartbeats 4000000 in
set_option maxRecDepth 100000 in
theorem c_X1_closest (l : Launch) {D : va_G} {z : ClassId × ClassId} {a : Nat → Nat} {th : Int32} {n w : Nat} {gn lk pu fa he nv of mp mi : Nat → Int32} {k : Nat} {nt fu re : Int32} (i : Nat) (hk : k ≤ 60) : Met l yX1_closest (ws_ yX1_closest cX1_closest 4 (some .int)) ({ frames := 0, cells := 0, slots := 0, locals := 0 } : Room) (va_Pc [.ref (a 0), .int (nI i)] (mI D z a th n w gn lk pu fa he nv of mp mi k nt fu re)) (vp_Si (fun r : Int32 => r = sp_close mp mi (nI i) k)) 0 0 (fun _ => False) := by
  refine Met.ofW (cc := cX1_closest) (maxL := 4) (ret := (some .int)) (by decide) rfl ?_
  intro p e s m args below meth c s₁ B hml hv
  obtain ⟨rfl, hP, hK⟩ := hv
  have hx := B.exec
  have hb := B.bytes
  have hr := B.returns
  have hts := atoms_spec (ws := ws_ yX1_closest cX1_closest 4 (some .int)) B.pre
  have hts : ∀ w ∈ lw_all, w.before _ s = true := fun w h => hts w (List.mem_cons_of_mem _ h)
  have hown : s.vm.findClass RX1 = some m.cls := findClass_of_methodNamed B.named
  have hlocks := B.notSynchronized
  have hC : CallFix p m c cX1_closest 4 s _ lw_all RX1 := ⟨hx, hb, hml, hown, hts⟩
  have hl := lv_entry ([.ref (a 0), .int (nI i)]) (n := 4) (Nat.le_of_ble_eq_true rfl)
  rw [lg_entry_eq]
  generalize (lg_sl ([.ref (a 0), .int (nI i)]) ++ List.replicate (4 - (lg_sl ([.ref (a 0), .int (nI i)])).length) Slot.unset).toArray = ls at hl ⊢
  have hl : lv_has ls 4 [(0, .ref (a 0)), (1, .int (nI i))] := hl
  refine lv_iconst (v := 0) hx hb dX1_closest_0 (by decide) ?_
  refine lv_istore_n (lv' := [(2, .int 0), (0, .ref (a 0)), (1, .int (nI i))]) hx hb dX1_closest_1 rfl hl (by decide) rfl (fun ls hl => ?_)
  refine lv_iconst (v := 0) hx hb dX1_closest_2 (by decide) ?_
  refine lv_istore_n (lv' := [(3, .int 0), (2, .int 0), (0, .ref (a 0)), (1, .int (nI i))]) hx hb dX1_closest_3 rfl hl (by decide) rfl (fun ls hl => ?_)
  have loop_4 : ∀ (f : Nat) (j : Nat) (x : Int32), j ≤ k → k + 1 ≤ j + f → x = sp_close mp mi (nI i) j → ∀ ls : Array Slot, lv_has ls 4 [(0, .ref (a 0)), (1, .int (nI i)), (2, .int x), (3, .int (nI j))] → W p l e ({ frames := 0, cells := 0, slots := 0, locals := 0 } : Room) s m ([.ref (a 0), .int (nI i)] : List Value).toArray below meth c s.heap [] 0 0 (MQ below (vp_Si (fun r : Int32 => r = sp_close mp mi (nI i) k)) ([.ref (a 0), .int (nI i)] : List Value).toArray s 0 0 (fun _ => False)) (F0 m 4 ls []) := by
    intro f
    induction f with
    | zero =>
      intro j x hj hf ex
      exact absurd hf (by omega)
    | succ f ih4 =>
      intro j x hj hf ex ls hl
      refine lv_iload_n hx hb dX1_closest_4 rfl (lv_at hl 3 rfl) ?_
      refine lv_aload_n hx hb dX1_closest_5 rfl (lv_at hl 0 rfl) ?_
      refine mg_k hC hK hP dX1_closest_6 ?_
      refine lv_icmp_ge (tgt := 58) hx hb dX1_closest_9 (by decide) (fun c_9 => ?_) (fun c_9 => ?_)
      · have nc_9 : k ≤ j := nn_le (by omega) c_9
        refine lv_iload_n hx hb dX1_closest_58 rfl (lv_at hl 2 rfl) ?_
        exact W.iret (v := x) hx hb hr (fun t ht hW => ⟨x, rfl, (by rw [ex, show j = k by omega]), ht⟩) (fun q hq => absurd hq List.not_mem_nil) dX1_closest_59
      · have nc_9 : j < k := nn_nle (by omega) c_9
        refine lv_aload_n hx hb dX1_closest_12 rfl (lv_at hl 0 rfl) ?_
        refine mg_mp hC hK hP dX1_closest_13 ?_
        refine lv_iload_n hx hb dX1_closest_16 rfl (lv_at hl 3 rfl) ?_
        refine ml_mp hC hK hP j rfl (by omega) dX1_closest_17 ?_
        refine lv_iload_n hx hb dX1_closest_18 rfl (lv_at hl 1 rfl) ?_
        refine lv_icmp_ne (tgt := 52) hx hb dX1_closest_19 (by decide) (fun c_19 => ?_) (fun c_19 => ?_)
        · refine lv_iinc (v := nI (j + 1)) (lv' := [(3, .int (nI (j + 1))), (0, .ref (a 0)), (1, .int (nI i)), (2, .int x)]) hx hb dX1_closest_52 hl (k := 3) rfl (nI_1 _) (by decide) rfl (fun ls hl => ?_)
          refine lv_goto (tgt := 4) hx hb dX1_closest_55 (by decide) ?_
          exact ih4 (j + 1) x (by omega) (by omega) (by rw [ex] at *; simp [sp_close, c_19]) _ (lv_sub hl [1, 2, 3, 0] rfl)
        · refine lv_aload_n hx hb dX1_closest_22 rfl (lv_at hl 0 rfl) ?_
          refine mg_mi hC hK hP dX1_closest_23 ?_
          refine lv_iload_n hx hb dX1_closest_26 rfl (lv_at hl 3 rfl) ?_
          refine ml_mi hC hK hP j rfl (by omega) dX1_closest_27 ?_
          refine lv_if_le (tgt := 52) hx hb dX1_closest_28 (by decide) (fun c_28 => ?_) (fun c_28 => ?_)
          · refine lv_iinc (v := nI (j + 1)) (lv' := [(3, .int (nI (j + 1))), (0, .ref (a 0)), (1, .int (nI i)), (2, .int x)]) hx hb dX1_closest_52 hl (k := 3) rfl (nI_1 _) (by decide) rfl (fun ls hl => ?_)
            refine lv_goto (tgt := 4) hx hb dX1_closest_55 (by decide) ?_
            exact ih4 (j + 1) x (by omega) (by omega) (by rw [ex] at *; simp [sp_close, c_19, c_28]) _ (lv_sub hl [1, 2, 3, 0] rfl)
          · refine lv_iload_n hx hb dX1_closest_31 rfl (lv_at hl 2 rfl) ?_
            refine lv_if_eq (tgt := 45) hx hb dX1_closest_32 (by decide) (fun c_32 => ?_) (fun c_32 => ?_)
            · refine lv_aload_n hx hb dX1_closest_45 rfl (lv_at hl 0 rfl) ?_
              refine mg_mi hC hK hP dX1_closest_46 ?_
              refine lv_iload_n hx hb dX1_closest_49 rfl (lv_at hl 3 rfl) ?_
              refine ml_mi hC hK hP j rfl (by omega) dX1_closest_50 ?_
              refine lv_istore_n (lv' := [(2, .int (mi j)), (0, .ref (a 0)), (1, .int (nI i)), (3, .int (nI j))]) hx hb dX1_closest_51 rfl hl (by decide) rfl (fun ls hl => ?_)
              refine lv_iinc (v := nI (j + 1)) (lv' := [(3, .int (nI (j + 1))), (2, .int (mi j)), (0, .ref (a 0)), (1, .int (nI i))]) hx hb dX1_closest_52 hl (k := 3) rfl (nI_1 _) (by decide) rfl (fun ls hl => ?_)
              refine lv_goto (tgt := 4) hx hb dX1_closest_55 (by decide) ?_
              exact ih4 (j + 1) (mi j) (by omega) (by omega) (by rw [ex] at *; simp [sp_close, c_19, c_28, c_32]) _ (lv_sub hl [2, 3, 1, 0] rfl)
            · refine lv_aload_n hx hb dX1_closest_35 rfl (lv_at hl 0 rfl) ?_
              refine mg_mi hC hK hP dX1_closest_36 ?_
              refine lv_iload_n hx hb dX1_closest_39 rfl (lv_at hl 3 rfl) ?_
              refine ml_mi hC hK hP j rfl (by omega) dX1_closest_40 ?_
              refine lv_iload_n hx hb dX1_closest_41 rfl (lv_at hl 2 rfl) ?_
              refine lv_icmp_ge (tgt := 52) hx hb dX1_closest_42 (by decide) (fun c_42 => ?_) (fun c_42 => ?_)
              · refine lv_iinc (v := nI (j + 1)) (lv' := [(3, .int (nI (j + 1))), (0, .ref (a 0)), (1, .int (nI i)), (2, .int x)]) hx hb dX1_closest_52 hl (k := 3) rfl (nI_1 _) (by decide) rfl (fun ls hl => ?_)
                refine lv_goto (tgt := 4) hx hb dX1_closest_55 (by decide) ?_
                exact ih4 (j + 1) x (by omega) (by omega) (by rw [ex] at *; simp [sp_close, c_19, c_28, c_32, c_42]) _ (lv_sub hl [1, 2, 3, 0] rfl)
              · refine lv_aload_n hx hb dX1_closest_45 rfl (lv_at hl 0 rfl) ?_
                refine mg_mi hC hK hP dX1_closest_46 ?_
                refine lv_iload_n hx hb dX1_closest_49 rfl (lv_at hl 3 rfl) ?_
                refine ml_mi hC hK hP j rfl (by omega) dX1_closest_50 ?_
                refine lv_istore_n (lv' := [(2, .int (mi j)), (0, .ref (a 0)), (1, .int (nI i)), (3, .int (nI j))]) hx hb dX1_closest_51 rfl hl (by decide) rfl (fun ls hl => ?_)
                refine lv_iinc (v := nI (j + 1)) (lv' := [(3, .int (nI (j + 1))), (2, .int (mi j)), (0, .ref (a 0)), (1, .int (nI i))]) hx hb dX1_closest_52 hl (k := 3) rfl (nI_1 _) (by decide) rfl (fun ls hl => ?_)
                refine lv_goto (tgt := 4) hx hb dX1_closest_55 (by decide) ?_
                exact ih4 (j + 1) (mi j) (by omega) (by omega) (by rw [ex] at *; simp [sp_close, c_19, c_28, c_32, c_42]) _ (lv_sub hl [2, 3, 1, 0] rfl)
  exact loop_4 (k + 1) 0 0 (Nat.zero_le _) (by omega) rfl _ (lv_sub hl [2, 3, 1, 0] rfl)
set_option maxRecDepth 100000 in
theorem k_X1_closest {p : Program} {l : Launch} {e : Env} {R : Room} {s : State} {m : MethodId} {args : Array Value} {below : List Frame} {meth : Method} {c : Code} {H : Heap} {locs : List Loc} {cells slots : Nat} {Q : State → Prop} {D : va_G} {z : ClassId × ClassId} {a : Nat → Nat} {th : Int32} {n w : Nat} {gn lk pu fa he nv of mp mi : Nat → Int32} {k : Nat} {nt fu re : Int32} {cc : ByteArray} {nL pc : Nat} {ls : Array Slot} {rest : List Value} (hC : CallFix p m c cc nL s args lw_all RX1) (hK : kK D z s) (hP : va_P D vwCl (mW z a th n w gn lk pu fa he nv of mp mi k nt fu re) H) (hl : ls.size = nL) (hR : 1 ≤ R.frames ∧ 23 ≤ R.locals) (hz : cells ≤ R.cells ∧ slots ≤ R.slots) (hr : (rest.map fun v => v.category).sum ≤ 8) {i : Nat} {x0 : Int32} (hx0 : x0 = nI i) (hk : k ≤ 60) (hdg : decode cc pc = .ok (.invokevirtual 144, 3)) (kk : W p l e R s m args below meth c H locs cells slots Q (F0 m (pc + 3) ls (.int (sp_close mp mi (nI i) k) :: rest))) : W p l e R s m args below meth c H locs cells slots Q (F0 m pc ls (.int x0 :: .ref (a 0) :: rest)) := by
  subst hx0
  exact vp_callSi (W.runV (As := [.int (nI i)]) (rest := rest) hC (c_X1_closest l i hk) (cwV 1 hC.2.2.2.2 (gi_V mM_X1_144 mV_X1_closest mS_X1_closest mI_MissRegistryModel mC_X1_closest) rfl rfl rfl (by decide +kernel) hR) (mpre hK hP) rfl rfl hl rfl (lv_room hr) hdg hz) (fun r hr => by rw [hr]; exact kk)
set_option maxHeartbeats 4000000 in
set_option maxRecDepth 100000 in
theorem c_X1_untilShaken (l : Launch) {D : va_G} {z : ClassId × ClassId} {a : Nat → Nat} {th : Int32} {n w : Nat} {gn lk pu fa he nv of mp mi : Nat → Int32} {k : Nat} {nt fu re : Int32} (b : Int32) (hw : w ≤ 6) : Met l yX1_untilShaken (ws_ yX1_untilShaken cX1_untilShaken 4 (some .int)) ({ frames := 1, cells := 0, slots := 0, locals := 21 } : Room) (va_Pc [.ref (a 0), .int b] (mI D z a th n w gn lk pu fa he nv of mp mi k nt fu re)) (vp_Si (fun r : Int32 => r = mq_usk of nv w b)) 0 0 (fun _ => False) := by
  refine Met.ofW (cc := cX1_untilShaken) (maxL := 4) (ret := (some .int)) (by decide) rfl ?_
  intro p e s m args below meth c s₁ B hml hv
  obtain ⟨rfl, hP, hK⟩ := hv
  have hx := B.exec
  have hb := B.bytes
  have hr := B.returns
  have hts := atoms_spec (ws := ws_ yX1_untilShaken cX1_untilShaken 4 (some .int)) B.pre
  have hts : ∀ w ∈ lw_all, w.before _ s = true := fun w h => hts w (List.mem_cons_of_mem _ h)
  have hown : s.vm.findClass RX1 = some m.cls := findClass_of_methodNamed B.named
  have hlocks := B.notSynchronized
  have hC : CallFix p m c cX1_untilShaken 4 s _ lw_all RX1 := ⟨hx, hb, hml, hown, hts⟩
  have hl := lv_entry ([.ref (a 0), .int b]) (n := 4) (Nat.le_of_ble_eq_true rfl)
  rw [lg_entry_eq]
  generalize (lg_sl ([.ref (a 0), .int b]) ++ List.replicate (4 - (lg_sl ([.ref (a 0), .int b])).length) Slot.unset).toArray = ls at hl ⊢
  have hl : lv_has ls 4 [(0, .ref (a 0)), (1, .int b)] := hl
  refine lv_iconst (v := 0) hx hb dX1_untilShaken_0 (by decide) ?_
  refine lv_istore_n (lv' := [(2, .int 0), (0, .ref (a 0)), (1, .int b)]) hx hb dX1_untilShaken_1 rfl hl (by decide) rfl (fun ls hl => ?_)
  refine lv_iconst (v := 0) hx hb dX1_untilShaken_2 (by decide) ?_
  refine lv_istore_n (lv' := [(3, .int 0), (2, .int 0), (0, .ref (a 0)), (1, .int b)]) hx hb dX1_untilShaken_3 rfl hl (by decide) rfl (fun ls hl => ?_)
  have loop_4 : ∀ (f : Nat) (j : Nat) (x : Int32), j ≤ w → w + 1 ≤ j + f → x = mq_mx of nv j → ∀ ls : Array Slot, lv_has ls 4 [(0, .ref (a 0)), (1, .int b), (2, .int x), (3, .int (nI j))] → W p l e ({ frames := 1, cells := 0, slots := 0, locals := 21 } : Room) s m ([.ref (a 0), .int b] : List Value).toArray below meth c s.heap [] 0 0 (MQ below (vp_Si (fun r : Int32 => r = mq_usk of nv w b)) ([.ref (a 0), .int b] : List Value).toArray s 0 0 (fun _ => False)) (F0 m 4 ls []) := by
    intro f
    induction f with
    | zero =>
      intro j x hj hf ex
      exact absurd hf (by omega)
    | succ f ih4 =>
      intro j x hj hf ex ls hl
      refine lv_iload_n hx hb dX1_untilShaken_4 rfl (lv_at hl 3 rfl) ?_
      refine lv_aload_n hx hb dX1_untilShaken_5 rfl (lv_at hl 0 rfl) ?_
      refine mg_w hC hK hP dX1_untilShaken_6 ?_
      refine lv_icmp_ge (tgt := 38) hx hb dX1_untilShaken_9 (by decide) (fun c_9 => ?_) (fun c_9 => ?_)
      · have nc_9 : w ≤ j := nn_le (by omega) c_9
        have ej : j = w := by omega
        rw [ej] at ex
        refine lv_iload_n hx hb dX1_untilShaken_38 rfl (lv_at hl 2 rfl) ?_
        refine lv_iconst (v := 2) hx hb dX1_untilShaken_39 (by decide) ?_
        refine lv_icmp_gt (tgt := 47) hx hb dX1_untilShaken_40 (by decide) (fun c_40 => ?_) (fun c_40 => ?_)
        · refine lv_iload_n hx hb dX1_untilShaken_47 rfl (lv_at hl 2 rfl) ?_
          refine lv_iconst (v := 2) hx hb dX1_untilShaken_48 (by decide) ?_
          refine lv_isub hx hb dX1_untilShaken_49 ?_
          refine lv_iload_n hx hb dX1_untilShaken_50 rfl (lv_at hl 1 rfl) ?_
          refine k_X1_shock hC hl.1 ⟨Nat.le_of_ble_eq_true rfl, Nat.le_of_ble_eq_true rfl⟩ ⟨Nat.zero_le _, Nat.zero_le _⟩ (Nat.le_of_ble_eq_true rfl)   dX1_untilShaken_51 ?_
          refine lv_iadd hx hb dX1_untilShaken_54 ?_
          refine lv_iconst (v := 1) hx hb dX1_untilShaken_55 (by decide) ?_
          refine lv_isub hx hb dX1_untilShaken_56 ?_
          refine lv_iload_n hx hb dX1_untilShaken_57 rfl (lv_at hl 1 rfl) ?_
          refine k_X1_shock hC hl.1 ⟨Nat.le_of_ble_eq_true rfl, Nat.le_of_ble_eq_true rfl⟩ ⟨Nat.zero_le _, Nat.zero_le _⟩ (Nat.le_of_ble_eq_true rfl)   dX1_untilShaken_58 ?_
          refine lv_idiv hx hb dX1_untilShaken_61 (loss_ne b) ?_
          exact W.iret (v := (((x - 2) + (sp_loss b)) - 1) / (sp_loss b)) hx hb hr (fun t ht hW => ⟨(((x - 2) + (sp_loss b)) - 1) / (sp_loss b), rfl, (by rw [ex] at *; unfold mq_usk; first | rw [if_pos c_40] | rw [if_neg c_40]), ht⟩) (fun q hq => absurd hq List.not_mem_nil) dX1_untilShaken_62
        · refine lv_iconst (v := 0) hx hb dX1_untilShaken_43 (by decide) ?_
          refine lv_goto (tgt := 62) hx hb dX1_untilShaken_44 (by decide) ?_
          exact W.iret (v := 0) hx hb hr (fun t ht hW => ⟨0, rfl, (by rw [ex] at *; unfold mq_usk; first | rw [if_pos c_40] | rw [if_neg c_40]), ht⟩) (fun q hq => absurd hq List.not_mem_nil) dX1_untilShaken_62
      · have nc_9 : j < w := nn_nle (by omega) c_9
        refine lv_aload_n hx hb dX1_untilShaken_12 rfl (lv_at hl 0 rfl) ?_
        refine mg_of hC hK hP dX1_untilShaken_13 ?_
        refine lv_iload_n hx hb dX1_untilShaken_16 rfl (lv_at hl 3 rfl) ?_
        refine ml_of hC hK hP j rfl (by omega) dX1_untilShaken_17 ?_
        refine lv_if_ne (tgt := 32) hx hb dX1_untilShaken_18 (by decide) (fun c_18 => ?_) (fun c_18 => ?_)
        · refine lv_iinc (v := nI (j + 1)) (lv' := [(3, .int (nI (j + 1))), (0, .ref (a 0)), (1, .int b), (2, .int x)]) hx hb dX1_untilShaken_32 hl (k := 3) rfl (nI_1 _) (by decide) rfl (fun ls hl => ?_)
          refine lv_goto (tgt := 4) hx hb dX1_untilShaken_35 (by decide) ?_
          exact ih4 (j + 1) x (by omega) (by omega) (by simp [ex, mq_mx, c_18]) _ (lv_sub hl [1, 2, 3, 0] rfl)
        · refine lv_iload_n hx hb dX1_untilShaken_21 rfl (lv_at hl 2 rfl) ?_
          refine lv_aload_n hx hb dX1_untilShaken_22 rfl (lv_at hl 0 rfl) ?_
          refine mg_nv hC hK hP dX1_untilShaken_23 ?_
          refine lv_iload_n hx hb dX1_untilShaken_26 rfl (lv_at hl 3 rfl) ?_
          refine ml_nv hC hK hP j rfl (by omega) dX1_untilShaken_27 ?_
          refine va_mmax hx hb (hml.trans hl.1.symm) hown (hts _ mM_X1_55) (hts _ mT_max) (hts _ mI_Math) (hts _ mC_max) (Nat.le_of_ble_eq_true rfl) (Nat.le_of_ble_eq_true rfl) (Nat.zero_le _) (Nat.zero_le _) dX1_untilShaken_28 ?_
          refine lv_istore_n (lv' := [(2, .int (imax x (nv j))), (0, .ref (a 0)), (1, .int b), (3, .int (nI j))]) hx hb dX1_untilShaken_31 rfl hl (by decide) rfl (fun ls hl => ?_)
          refine lv_iinc (v := nI (j + 1)) (lv' := [(3, .int (nI (j + 1))), (2, .int (imax x (nv j))), (0, .ref (a 0)), (1, .int b)]) hx hb dX1_untilShaken_32 hl (k := 3) rfl (nI_1 _) (by decide) rfl (fun ls hl => ?_)
          refine lv_goto (tgt := 4) hx hb dX1_untilShaken_35 (by decide) ?_
          exact ih4 (j + 1) (imax x (nv j)) (by omega) (by omega) (by simp [ex, mq_mx, c_18]) _ (lv_sub hl [2, 3, 1, 0] rfl)
  exact loop_4 (w + 1) 0 0 (Nat.zero_le _) (by omega) rfl _ (lv_sub hl [2, 3, 1, 0] rfl)
set_option maxRecDepth 100000 in
theorem k_X1_untilShaken {p : Program} {l : Launch} {e : Env} {R : Room} {s : State} {m : MethodId} {args : Array Value} {below : List Frame} {meth : Method} {c : Code} {H : Heap} {locs : List Loc} {cells slots : Nat} {Q : State → Prop} {D : va_G} {z : ClassId × ClassId} {a : Nat → Nat} {th : Int32} {n w : Nat} {gn lk pu fa he nv of mp mi : Nat → Int32} {k : Nat} {nt fu re : Int32} {cc : ByteArray} {nL pc : Nat} {ls : Array Slot} {rest : List Value} (hC : CallFix p m c cc nL s args lw_all RX1) (hK : kK D z s) (hP : va_P D vwCl (mW z a th n w gn lk pu fa he nv of mp mi k nt fu re) H) (hl : ls.size = nL) (hR : 2 ≤ R.frames ∧ 44 ≤ R.locals) (hz : cells ≤ R.cells ∧ slots ≤ R.slots) (hr : (rest.map fun v => v.category).sum ≤ 8) {b : Int32}  (hw : w ≤ 6) (hdg : decode cc pc = .ok (.invokevirtual 153, 3)) (kk : W p l e R s m args below meth c H locs cells slots Q (F0 m (pc + 3) ls (.int (mq_usk of nv w b) :: rest))) : W p l e R s m args below meth c H locs cells slots Q (F0 m pc ls (.int b :: .ref (a 0) :: rest)) := by
  exact vp_callSi (W.runV (As := [.int b]) (rest := rest) hC (c_X1_untilShaken l b hw) (cwV 1 hC.2.2.2.2 (gi_V mM_X1_153 mV_X1_untilShaken mS_X1_untilShaken mI_MissRegistryModel mC_X1_untilShaken) rfl rfl rfl (by decide +kernel) hR) (mpre hK hP) rfl rfl hl rfl (lv_room hr) hdg hz) (fun r hr => by rw [hr]; exact kk)
set_option maxHeartbeats 4000000 in
set_option maxRecDepth 100000 in
theorem c_X1_untilCalm (l : Launch) {D : va_G} {z : ClassId × ClassId} {a : Nat → Nat} {th : Int32} {n w : Nat} {gn lk pu fa he nv of mp mi : Nat → Int32} {k : Nat} {nt fu re : Int32} (hw : w ≤ 6) : Met l yX1_untilCalm (ws_ yX1_untilCalm cX1_untilCalm 4 (some .int)) ({ frames := 1, cells := 0, slots := 0, locals := 21 } : Room) (va_Pc [.ref (a 0)] (mI D z a th n w gn lk pu fa he nv of mp mi k nt fu re)) (vp_Si (fun r : Int32 => r = mq_ucl of nv w)) 0 0 (fun _ => False) := by
  refine Met.ofW (cc := cX1_untilCalm) (maxL := 4) (ret := (some .int)) (by decide) rfl ?_
  intro p e s m args below meth c s₁ B hml hv
  obtain ⟨rfl, hP, hK⟩ := hv
  have hx := B.exec
  have hb := B.bytes
  have hr := B.returns
  have hts := atoms_spec (ws := ws_ yX1_untilCalm cX1_untilCalm 4 (some .int)) B.pre
  have hts : ∀ w ∈ lw_all, w.before _ s = true := fun w h => hts w (List.mem_cons_of_mem _ h)
  have hown : s.vm.findClass RX1 = some m.cls := findClass_of_methodNamed B.named
  have hlocks := B.notSynchronized
  have hC : CallFix p m c cX1_untilCalm 4 s _ lw_all RX1 := ⟨hx, hb, hml, hown, hts⟩
  have hl := lv_entry ([.ref (a 0)]) (n := 4) (Nat.le_of_ble_eq_true rfl)
  rw [lg_entry_eq]
  generalize (lg_sl ([.ref (a 0)]) ++ List.replicate (4 - (lg_sl ([.ref (a 0)])).length) Slot.unset).toArray = ls at hl ⊢
  have hl : lv_has ls 4 [(0, .ref (a 0))] := hl
  refine lv_iconst (v := 0) hx hb dX1_untilCalm_0 (by decide) ?_
  refine lv_istore_n (lv' := [(1, .int 0), (0, .ref (a 0))]) hx hb dX1_untilCalm_1 rfl hl (by decide) rfl (fun ls hl => ?_)
  refine lv_iconst (v := 0) hx hb dX1_untilCalm_2 (by decide) ?_
  refine lv_istore_n (lv' := [(2, .int 0), (1, .int 0), (0, .ref (a 0))]) hx hb dX1_untilCalm_3 rfl hl (by decide) rfl (fun ls hl => ?_)
  have loop_4 : ∀ (f : Nat) (j : Nat) (x : Int32), j ≤ w → w + 1 ≤ j + f → x = mq_ucl of nv j → ∀ ls : Array Slot, lv_has ls 4 [(0, .ref (a 0)), (1, .int x), (2, .int (nI j))] → W p l e ({ frames := 1, cells := 0, slots := 0, locals := 21 } : Room) s m ([.ref (a 0)] : List Value).toArray below meth c s.heap [] 0 0 (MQ below (vp_Si (fun r : Int32 => r = mq_ucl of nv w)) ([.ref (a 0)] : List Value).toArray s 0 0 (fun _ => False)) (F0 m 4 ls []) := by
    intro f
    induction f with
    | zero =>
      intro j x hj hf ex
      exact absurd hf (by omega)
    | succ f ih4 =>
      intro j x hj hf ex ls hl
      refine lv_iload_n hx hb dX1_untilCalm_4 rfl (lv_at hl 2 rfl) ?_
      refine lv_aload_n hx hb dX1_untilCalm_5 rfl (lv_at hl 0 rfl) ?_
      refine mg_w hC hK hP dX1_untilCalm_6 ?_
      refine lv_icmp_ge (tgt := 54) hx hb dX1_untilCalm_9 (by decide) (fun c_9 => ?_) (fun c_9 => ?_)
      · have nc_9 : w ≤ j := nn_le (by omega) c_9
        refine lv_iload_n hx hb dX1_untilCalm_54 rfl (lv_at hl 1 rfl) ?_
        exact W.iret (v := x) hx hb hr (fun t ht hW => ⟨x, rfl, (by rw [ex, show j = w by omega]), ht⟩) (fun q hq => absurd hq List.not_mem_nil) dX1_untilCalm_55
      · have nc_9 : j < w := nn_nle (by omega) c_9
        refine lv_iconst (v := 0) hx hb dX1_untilCalm_12 (by decide) ?_
        refine lv_iconst (v := 3) hx hb dX1_untilCalm_13 (by decide) ?_
        refine lv_aload_n hx hb dX1_untilCalm_14 rfl (lv_at hl 0 rfl) ?_
        refine mg_nv hC hK hP dX1_untilCalm_15 ?_
        refine lv_iload_n hx hb dX1_untilCalm_18 rfl (lv_at hl 2 rfl) ?_
        refine ml_nv hC hK hP j rfl (by omega) dX1_untilCalm_19 ?_
        refine lv_isub hx hb dX1_untilCalm_20 ?_
        refine va_mmax hx hb (hml.trans hl.1.symm) hown (hts _ mM_X1_55) (hts _ mT_max) (hts _ mI_Math) (hts _ mC_max) (Nat.le_of_ble_eq_true rfl) (Nat.le_of_ble_eq_true rfl) (Nat.zero_le _) (Nat.zero_le _) dX1_untilCalm_21 ?_
        refine lv_istore_n (lv' := [(3, .int (imax 0 (3 - (nv j)))), (0, .ref (a 0)), (1, .int x), (2, .int (nI j))]) hx hb dX1_untilCalm_24 rfl hl (by decide) rfl (fun ls hl => ?_)
        refine lv_iload_n hx hb dX1_untilCalm_25 rfl (lv_at hl 2 rfl) ?_
        refine lv_aload_n hx hb dX1_untilCalm_26 rfl (lv_at hl 1 rfl) ?_
        refine mg_of hC hK hP dX1_untilCalm_27 ?_
        refine lv_iload_n hx hb dX1_untilCalm_30 rfl (lv_at hl 3 rfl) ?_
        refine ml_of hC hK hP j rfl (by omega) dX1_untilCalm_31 ?_
        refine lv_if_eq (tgt := 43) hx hb dX1_untilCalm_32 (by decide) (fun c_32 => ?_) (fun c_32 => ?_)
        · refine lv_iload_n hx hb dX1_untilCalm_43 rfl (lv_at hl 0 rfl) ?_
          refine va_mmax hx hb (hml.trans hl.1.symm) hown (hts _ mM_X1_55) (hts _ mT_max) (hts _ mI_Math) (hts _ mC_max) (Nat.le_of_ble_eq_true rfl) (Nat.le_of_ble_eq_true rfl) (Nat.zero_le _) (Nat.zero_le _) dX1_untilCalm_44 ?_
          refine lv_istore_n (lv' := [(1, .int (imax x (imax 0 (3 - (nv j))))), (3, .int (imax 0 (3 - (nv j)))), (0, .ref (a 0)), (2, .int (nI j))]) hx hb dX1_untilCalm_47 rfl hl (by decide) rfl (fun ls hl => ?_)
          refine lv_iinc (v := nI (j + 1)) (lv' := [(2, .int (nI (j + 1))), (1, .int (imax x (imax 0 (3 - (nv j))))), (3, .int (imax 0 (3 - (nv j)))), (0, .ref (a 0))]) hx hb dX1_untilCalm_48 hl (k := 3) rfl (nI_1 _) (by decide) rfl (fun ls hl => ?_)
          refine lv_goto (tgt := 4) hx hb dX1_untilCalm_51 (by decide) ?_
          exact ih4 (j + 1) (imax x (imax 0 (3 - (nv j)))) (by omega) (by omega) (by simp [ex, mq_ucl, mq_cl, c_32]) _ (lv_sub hl [3, 1, 0] rfl)
        · refine lv_iload_n hx hb dX1_untilCalm_35 rfl (lv_at hl 0 rfl) ?_
          refine lv_iconst (v := 1) hx hb dX1_untilCalm_36 (by decide) ?_
          refine lv_iadd hx hb dX1_untilCalm_37 ?_
          refine lv_iconst (v := 2) hx hb dX1_untilCalm_38 (by decide) ?_
          refine lv_idiv hx hb dX1_untilCalm_39 (by decide) ?_
          refine lv_goto (tgt := 44) hx hb dX1_untilCalm_40 (by decide) ?_
          refine va_mmax hx hb (hml.trans hl.1.symm) hown (hts _ mM_X1_55) (hts _ mT_max) (hts _ mI_Math) (hts _ mC_max) (Nat.le_of_ble_eq_true rfl) (Nat.le_of_ble_eq_true rfl) (Nat.zero_le _) (Nat.zero_le _) dX1_untilCalm_44 ?_
          refine lv_istore_n (lv' := [(1, .int (imax x (((imax 0 (3 - (nv j))) + 1) / 2))), (3, .int (imax 0 (3 - (nv j)))), (0, .ref (a 0)), (2, .int (nI j))]) hx hb dX1_untilCalm_47 rfl hl (by decide) rfl (fun ls hl => ?_)
          refine lv_iinc (v := nI (j + 1)) (lv' := [(2, .int (nI (j + 1))), (1, .int (imax x (((imax 0 (3 - (nv j))) + 1) / 2))), (3, .int (imax 0 (3 - (nv j)))), (0, .ref (a 0))]) hx hb dX1_untilCalm_48 hl (k := 3) rfl (nI_1 _) (by decide) rfl (fun ls hl => ?_)
          refine lv_goto (tgt := 4) hx hb dX1_untilCalm_51 (by decide) ?_
          exact ih4 (j + 1) (imax x (((imax 0 (3 - (nv j))) + 1) / 2)) (by omega) (by omega) (by simp [ex, mq_ucl, mq_cl, c_32]) _ (lv_sub hl [3, 1, 0] rfl)
  exact loop_4 (w + 1) 0 0 (Nat.zero_le _) (by omega) rfl _ (lv_sub hl [2, 1, 0] rfl)
set_option maxRecDepth 100000 in
theorem k_X1_untilCalm {p : Program} {l : Launch} {e : Env} {R : Room} {s : State} {m : MethodId} {args : Array Value} {below : List Frame} {meth : Method} {c : Code} {H : Heap} {locs : List Loc} {cells slots : Nat} {Q : State → Prop} {D : va_G} {z : ClassId × ClassId} {a : Nat → Nat} {th : Int32} {n w : Nat} {gn lk pu fa he nv of mp mi : Nat → Int32} {k : Nat} {nt fu re : Int32} {cc : ByteArray} {nL pc : Nat} {ls : Array Slot} {rest : List Value} (hC : CallFix p m c cc nL s args lw_all RX1) (hK : kK D z s) (hP : va_P D vwCl (mW z a th n w gn lk pu fa he nv of mp mi k nt fu re) H) (hl : ls.size = nL) (hR : 2 ≤ R.frames ∧ 44 ≤ R.locals) (hz : cells ≤ R.cells ∧ slots ≤ R.slots) (hr : (rest.map fun v => v.category).sum ≤ 8)   (hw : w ≤ 6) (hdg : decode cc pc = .ok (.invokevirtual 156, 3)) (kk : W p l e R s m args below meth c H locs cells slots Q (F0 m (pc + 3) ls (.int (mq_ucl of nv w) :: rest))) : W p l e R s m args below meth c H locs cells slots Q (F0 m pc ls (.ref (a 0) :: rest)) := by
  exact vp_callSi (W.runV (As := []) (rest := rest) hC (c_X1_untilCalm l hw) (cwV 0 hC.2.2.2.2 (gi_V mM_X1_156 mV_X1_untilCalm mS_X1_untilCalm mI_MissRegistryModel mC_X1_untilCalm) rfl rfl rfl (by decide +kernel) hR) (mpre hK hP) rfl rfl hl rfl (lv_room hr) hdg hz) (fun r hr => by rw [hr]; exact kk)
set_option maxHeartbeats 4000000 in
set_option maxRecDepth 100000 in
theorem c_X1_steady (l : Launch) {D : va_G} {z : ClassId × ClassId} {a : Nat → Nat} {th : Int32} {n w : Nat} {gn lk pu fa he nv of mp mi : Nat → Int32} {k : Nat} {nt fu re : Int32} (hw : w ≤ 6) : Met l yX1_steady (ws_ yX1_steady cX1_steady 3 (some .int)) ({ frames := 0, cells := 0, slots := 0, locals := 0 } : Room) (va_Pc [.ref (a 0)] (mI D z a th n w gn lk pu fa he nv of mp mi k nt fu re)) (vp_Si (fun r : Int32 => r = mq_best of nv w)) 0 0 (fun _ => False) := by
  refine Met.ofW (cc := cX1_steady) (maxL := 3) (ret := (some .int)) (by decide) rfl ?_
  intro p e s m args below meth c s₁ B hml hv
  obtain ⟨rfl, hP, hK⟩ := hv
  have hx := B.exec
  have hb := B.bytes
  have hr := B.returns
  have hts := atoms_spec (ws := ws_ yX1_steady cX1_steady 3 (some .int)) B.pre
  have hts : ∀ w ∈ lw_all, w.before _ s = true := fun w h => hts w (List.mem_cons_of_mem _ h)
  have hown : s.vm.findClass RX1 = some m.cls := findClass_of_methodNamed B.named
  have hlocks := B.notSynchronized
  have hC : CallFix p m c cX1_steady 3 s _ lw_all RX1 := ⟨hx, hb, hml, hown, hts⟩
  have hl := lv_entry ([.ref (a 0)]) (n := 3) (Nat.le_of_ble_eq_true rfl)
  rw [lg_entry_eq]
  generalize (lg_sl ([.ref (a 0)]) ++ List.replicate (3 - (lg_sl ([.ref (a 0)])).length) Slot.unset).toArray = ls at hl ⊢
  have hl : lv_has ls 3 [(0, .ref (a 0))] := hl
  refine lv_iconst (v := (-1)) hx hb dX1_steady_0 (by decide) ?_
  refine lv_istore_n (lv' := [(1, .int (-1)), (0, .ref (a 0))]) hx hb dX1_steady_1 rfl hl (by decide) rfl (fun ls hl => ?_)
  refine lv_iconst (v := 0) hx hb dX1_steady_2 (by decide) ?_
  refine lv_istore_n (lv' := [(2, .int 0), (1, .int (-1)), (0, .ref (a 0))]) hx hb dX1_steady_3 rfl hl (by decide) rfl (fun ls hl => ?_)
  have loop_4 : ∀ (f : Nat) (j : Nat) (x : Int32), j ≤ w → w + 1 ≤ j + f → x = mq_best of nv j → ∀ ls : Array Slot, lv_has ls 3 [(0, .ref (a 0)), (1, .int x), (2, .int (nI j))] → W p l e ({ frames := 0, cells := 0, slots := 0, locals := 0 } : Room) s m ([.ref (a 0)] : List Value).toArray below meth c s.heap [] 0 0 (MQ below (vp_Si (fun r : Int32 => r = mq_best of nv w)) ([.ref (a 0)] : List Value).toArray s 0 0 (fun _ => False)) (F0 m 4 ls []) := by
    intro f
    induction f with
    | zero =>
      intro j x hj hf ex
      exact absurd hf (by omega)
    | succ f ih4 =>
      intro j x hj hf ex ls hl
      refine lv_iload_n hx hb dX1_steady_4 rfl (lv_at hl 2 rfl) ?_
      refine lv_aload_n hx hb dX1_steady_5 rfl (lv_at hl 0 rfl) ?_
      refine mg_w hC hK hP dX1_steady_6 ?_
      refine lv_icmp_ge (tgt := 49) hx hb dX1_steady_9 (by decide) (fun c_9 => ?_) (fun c_9 => ?_)
      · have nc_9 : w ≤ j := nn_le (by omega) c_9
        refine lv_iload_n hx hb dX1_steady_49 rfl (lv_at hl 1 rfl) ?_
        exact W.iret (v := x) hx hb hr (fun t ht hW => ⟨x, rfl, (by rw [ex, show j = w by omega]), ht⟩) (fun q hq => absurd hq List.not_mem_nil) dX1_steady_50
      · have nc_9 : j < w := nn_nle (by omega) c_9
        refine lv_aload_n hx hb dX1_steady_12 rfl (lv_at hl 0 rfl) ?_
        refine mg_of hC hK hP dX1_steady_13 ?_
        refine lv_iload_n hx hb dX1_steady_16 rfl (lv_at hl 2 rfl) ?_
        refine ml_of hC hK hP j rfl (by omega) dX1_steady_17 ?_
        refine lv_if_ne (tgt := 43) hx hb dX1_steady_18 (by decide) (fun c_18 => ?_) (fun c_18 => ?_)
        · refine lv_iinc (v := nI (j + 1)) (lv' := [(2, .int (nI (j + 1))), (0, .ref (a 0)), (1, .int x)]) hx hb dX1_steady_43 hl (k := 2) rfl (nI_1 _) (by decide) rfl (fun ls hl => ?_)
          refine lv_goto (tgt := 4) hx hb dX1_steady_46 (by decide) ?_
          exact ih4 (j + 1) x (by omega) (by omega) (by rw [ex] at *; simp [mq_best, c_18]) _ (lv_sub hl [1, 2, 0] rfl)
        · refine lv_iload_n hx hb dX1_steady_21 rfl (lv_at hl 1 rfl) ?_
          refine lv_iconst (v := (-1)) hx hb dX1_steady_22 (by decide) ?_
          refine lv_icmp_eq (tgt := 41) hx hb dX1_steady_23 (by decide) (fun c_23 => ?_) (fun c_23 => ?_)
          · refine lv_iload_n hx hb dX1_steady_41 rfl (lv_at hl 2 rfl) ?_
            refine lv_istore_n (lv' := [(1, .int (nI j)), (0, .ref (a 0)), (2, .int (nI j))]) hx hb dX1_steady_42 rfl hl (by decide) rfl (fun ls hl => ?_)
            refine lv_iinc (v := nI (j + 1)) (lv' := [(2, .int (nI (j + 1))), (1, .int (nI j)), (0, .ref (a 0))]) hx hb dX1_steady_43 hl (k := 2) rfl (nI_1 _) (by decide) rfl (fun ls hl => ?_)
            refine lv_goto (tgt := 4) hx hb dX1_steady_46 (by decide) ?_
            exact ih4 (j + 1) (nI j) (by omega) (by omega) (by rw [ex] at *; simp [mq_best, c_18, c_23]) _ (lv_sub hl [2, 1, 0] rfl)
          · obtain ⟨y, hyj, hy⟩ := (show x = -1 ∨ ∃ t : Nat, t < j ∧ x = nI t by rw [ex]; exact best_ex of nv j).resolve_left c_23
            have eNy : x.toNatClampNeg = y := by rw [hy]; exact nI_clamp (by omega)
            rw [ex] at eNy
            refine lv_aload_n hx hb dX1_steady_26 rfl (lv_at hl 0 rfl) ?_
            refine mg_nv hC hK hP dX1_steady_27 ?_
            refine lv_iload_n hx hb dX1_steady_30 rfl (lv_at hl 2 rfl) ?_
            refine ml_nv hC hK hP j rfl (by omega) dX1_steady_31 ?_
            refine lv_aload_n hx hb dX1_steady_32 rfl (lv_at hl 0 rfl) ?_
            refine mg_nv hC hK hP dX1_steady_33 ?_
            refine lv_iload_n hx hb dX1_steady_36 rfl (lv_at hl 1 rfl) ?_
            refine ml_nv hC hK hP y hy (by omega) dX1_steady_37 ?_
            refine lv_icmp_le (tgt := 43) hx hb dX1_steady_38 (by decide) (fun c_38 => ?_) (fun c_38 => ?_)
            · refine lv_iinc (v := nI (j + 1)) (lv' := [(2, .int (nI (j + 1))), (0, .ref (a 0)), (1, .int x)]) hx hb dX1_steady_43 hl (k := 2) rfl (nI_1 _) (by decide) rfl (fun ls hl => ?_)
              refine lv_goto (tgt := 4) hx hb dX1_steady_46 (by decide) ?_
              exact ih4 (j + 1) x (by omega) (by omega) (by rw [ex] at *; simp [mq_best, c_18, c_23, c_38, eNy]) _ (lv_sub hl [1, 2, 0] rfl)
            · refine lv_iload_n hx hb dX1_steady_41 rfl (lv_at hl 2 rfl) ?_
              refine lv_istore_n (lv' := [(1, .int (nI j)), (0, .ref (a 0)), (2, .int (nI j))]) hx hb dX1_steady_42 rfl hl (by decide) rfl (fun ls hl => ?_)
              refine lv_iinc (v := nI (j + 1)) (lv' := [(2, .int (nI (j + 1))), (1, .int (nI j)), (0, .ref (a 0))]) hx hb dX1_steady_43 hl (k := 2) rfl (nI_1 _) (by decide) rfl (fun ls hl => ?_)
              refine lv_goto (tgt := 4) hx hb dX1_steady_46 (by decide) ?_
              exact ih4 (j + 1) (nI j) (by omega) (by omega) (by rw [ex] at *; simp [mq_best, c_18, c_23, c_38, eNy]) _ (lv_sub hl [2, 1, 0] rfl)
  exact loop_4 (w + 1) 0 (-1) (Nat.zero_le _) (by omega) rfl _ (lv_sub hl [2, 1, 0] rfl)
set_option maxRecDepth 100000 in
theorem k_X1_steady {p : Program} {l : Launch} {e : Env} {R : Room} {s : State} {m : MethodId} {args : Array Value} {below : List Frame} {meth : Method} {c : Code} {H : Heap} {locs : List Loc} {cells slots : Nat} {Q : State → Prop} {D : va_G} {z : ClassId × ClassId} {a : Nat → Nat} {th : Int32} {n w : Nat} {gn lk pu fa he nv of mp mi : Nat → Int32} {k : Nat} {nt fu re : Int32} {cc : ByteArray} {nL pc : Nat} {ls : Array Slot} {rest : List Value} (hC : CallFix p m c cc nL s args lw_all RX1) (hK : kK D z s) (hP : va_P D vwCl (mW z a th n w gn lk pu fa he nv of mp mi k nt fu re) H) (hl : ls.size = nL) (hR : 1 ≤ R.frames ∧ 22 ≤ R.locals) (hz : cells ≤ R.cells ∧ slots ≤ R.slots) (hr : (rest.map fun v => v.category).sum ≤ 8)   (hw : w ≤ 6) (hdg : decode cc pc = .ok (.invokevirtual 159, 3)) (kk : W p l e R s m args below meth c H locs cells slots Q (F0 m (pc + 3) ls (.int (mq_best of nv w) :: rest))) : W p l e R s m args below meth c H locs cells slots Q (F0 m pc ls (.ref (a 0) :: rest)) := by
  exact vp_callSi (W.runV (As := []) (rest := rest) hC (c_X1_steady l hw) (cwV 0 hC.2.2.2.2 (gi_V mM_X1_159 mV_X1_steady mS_X1_steady mI_MissRegistryModel mC_X1_steady) rfl rfl rfl (by decide +kernel) hR) (mpre hK hP) rfl rfl hl rfl (lv_room hr) hdg hz) (fun r hr => by rw [hr]; exact kk)
set_option maxHeartbeats 4000000 in
set_option maxRecDepth 100000 in
theorem c_X1_lucky (l : Launch) {D : va_G} {z : ClassId × ClassId} {a : Nat → Nat} {th : Int32} {n w : Nat} {gn lk pu fa he nv of mp mi : Nat → Int32} {k : Nat} {nt fu re : Int32} (hn : n ≤ 10) : Met l yX1_lucky (ws_ yX1_lucky cX1_lucky 3 (some .int)) ({ frames := 0, cells := 0, slots := 0, locals := 0 } : Room) (va_Pc [.ref (a 0)] (mI D z a th n w gn lk pu fa he nv of mp mi k nt fu re)) (vp_Si (fun r : Int32 => r = mq_best gn lk n)) 0 0 (fun _ => False) := by
  refine Met.ofW (cc := cX1_lucky) (maxL := 3) (ret := (some .int)) (by decide) rfl ?_
  intro p e s m args below meth c s₁ B hml hv
  obtain ⟨rfl, hP, hK⟩ := hv
  have hx := B.exec
  have hb := B.bytes
  have hr := B.returns
  have hts := atoms_spec (ws := ws_ yX1_lucky cX1_lucky 3 (some .int)) B.pre
  have hts : ∀ w ∈ lw_all, w.before _ s = true := fun w h => hts w (List.mem_cons_of_mem _ h)
  have hown : s.vm.findClass RX1 = some m.cls := findClass_of_methodNamed B.named
  have hlocks := B.notSynchronized
  have hC : CallFix p m c cX1_lucky 3 s _ lw_all RX1 := ⟨hx, hb, hml, hown, hts⟩
  have hl := lv_entry ([.ref (a 0)]) (n := 3) (Nat.le_of_ble_eq_true rfl)
  rw [lg_entry_eq]
  generalize (lg_sl ([.ref (a 0)]) ++ List.replicate (3 - (lg_sl ([.ref (a 0)])).length) Slot.unset).toArray = ls at hl ⊢
  have hl : lv_has ls 3 [(0, .ref (a 0))] := hl
  refine lv_iconst (v := (-1)) hx hb dX1_lucky_0 (by decide) ?_
  refine lv_istore_n (lv' := [(1, .int (-1)), (0, .ref (a 0))]) hx hb dX1_lucky_1 rfl hl (by decide) rfl (fun ls hl => ?_)
  refine lv_iconst (v := 0) hx hb dX1_lucky_2 (by decide) ?_
  refine lv_istore_n (lv' := [(2, .int 0), (1, .int (-1)), (0, .ref (a 0))]) hx hb dX1_lucky_3 rfl hl (by decide) rfl (fun ls hl => ?_)
  have loop_4 : ∀ (f : Nat) (j : Nat) (x : Int32), j ≤ n → n + 1 ≤ j + f → x = mq_best gn lk j → ∀ ls : Array Slot, lv_has ls 3 [(0, .ref (a 0)), (1, .int x), (2, .int (nI j))] → W p l e ({ frames := 0, cells := 0, slots := 0, locals := 0 } : Room) s m ([.ref (a 0)] : List Value).toArray below meth c s.heap [] 0 0 (MQ below (vp_Si (fun r : Int32 => r = mq_best gn lk n)) ([.ref (a 0)] : List Value).toArray s 0 0 (fun _ => False)) (F0 m 4 ls []) := by
    intro f
    induction f with
    | zero =>
      intro j x hj hf ex
      exact absurd hf (by omega)
    | succ f ih4 =>
      intro j x hj hf ex ls hl
      refine lv_iload_n hx hb dX1_lucky_4 rfl (lv_at hl 2 rfl) ?_
      refine lv_aload_n hx hb dX1_lucky_5 rfl (lv_at hl 0 rfl) ?_
      refine mg_n hC hK hP dX1_lucky_6 ?_
      refine lv_icmp_ge (tgt := 49) hx hb dX1_lucky_9 (by decide) (fun c_9 => ?_) (fun c_9 => ?_)
      · have nc_9 : n ≤ j := nn_le (by omega) c_9
        refine lv_iload_n hx hb dX1_lucky_49 rfl (lv_at hl 1 rfl) ?_
        exact W.iret (v := x) hx hb hr (fun t ht hW => ⟨x, rfl, (by rw [ex, show j = n by omega]), ht⟩) (fun q hq => absurd hq List.not_mem_nil) dX1_lucky_50
      · have nc_9 : j < n := nn_nle (by omega) c_9
        refine lv_aload_n hx hb dX1_lucky_12 rfl (lv_at hl 0 rfl) ?_
        refine mg_gn hC hK hP dX1_lucky_13 ?_
        refine lv_iload_n hx hb dX1_lucky_16 rfl (lv_at hl 2 rfl) ?_
        refine ml_gn hC hK hP j rfl (by omega) dX1_lucky_17 ?_
        refine lv_if_ne (tgt := 43) hx hb dX1_lucky_18 (by decide) (fun c_18 => ?_) (fun c_18 => ?_)
        · refine lv_iinc (v := nI (j + 1)) (lv' := [(2, .int (nI (j + 1))), (0, .ref (a 0)), (1, .int x)]) hx hb dX1_lucky_43 hl (k := 2) rfl (nI_1 _) (by decide) rfl (fun ls hl => ?_)
          refine lv_goto (tgt := 4) hx hb dX1_lucky_46 (by decide) ?_
          exact ih4 (j + 1) x (by omega) (by omega) (by rw [ex] at *; simp [mq_best, c_18]) _ (lv_sub hl [1, 2, 0] rfl)
        · refine lv_iload_n hx hb dX1_lucky_21 rfl (lv_at hl 1 rfl) ?_
          refine lv_iconst (v := (-1)) hx hb dX1_lucky_22 (by decide) ?_
          refine lv_icmp_eq (tgt := 41) hx hb dX1_lucky_23 (by decide) (fun c_23 => ?_) (fun c_23 => ?_)
          · refine lv_iload_n hx hb dX1_lucky_41 rfl (lv_at hl 2 rfl) ?_
            refine lv_istore_n (lv' := [(1, .int (nI j)), (0, .ref (a 0)), (2, .int (nI j))]) hx hb dX1_lucky_42 rfl hl (by decide) rfl (fun ls hl => ?_)
            refine lv_iinc (v := nI (j + 1)) (lv' := [(2, .int (nI (j + 1))), (1, .int (nI j)), (0, .ref (a 0))]) hx hb dX1_lucky_43 hl (k := 2) rfl (nI_1 _) (by decide) rfl (fun ls hl => ?_)
            refine lv_goto (tgt := 4) hx hb dX1_lucky_46 (by decide) ?_
            exact ih4 (j + 1) (nI j) (by omega) (by omega) (by rw [ex] at *; simp [mq_best, c_18, c_23]) _ (lv_sub hl [2, 1, 0] rfl)
          · obtain ⟨y, hyj, hy⟩ := (show x = -1 ∨ ∃ t : Nat, t < j ∧ x = nI t by rw [ex]; exact best_ex gn lk j).resolve_left c_23
            have eNy : x.toNatClampNeg = y := by rw [hy]; exact nI_clamp (by omega)
            rw [ex] at eNy
            refine lv_aload_n hx hb dX1_lucky_26 rfl (lv_at hl 0 rfl) ?_
            refine mg_lk hC hK hP dX1_lucky_27 ?_
            refine lv_iload_n hx hb dX1_lucky_30 rfl (lv_at hl 2 rfl) ?_
            refine ml_lk hC hK hP j rfl (by omega) dX1_lucky_31 ?_
            refine lv_aload_n hx hb dX1_lucky_32 rfl (lv_at hl 0 rfl) ?_
            refine mg_lk hC hK hP dX1_lucky_33 ?_
            refine lv_iload_n hx hb dX1_lucky_36 rfl (lv_at hl 1 rfl) ?_
            refine ml_lk hC hK hP y hy (by omega) dX1_lucky_37 ?_
            refine lv_icmp_le (tgt := 43) hx hb dX1_lucky_38 (by decide) (fun c_38 => ?_) (fun c_38 => ?_)
            · refine lv_iinc (v := nI (j + 1)) (lv' := [(2, .int (nI (j + 1))), (0, .ref (a 0)), (1, .int x)]) hx hb dX1_lucky_43 hl (k := 2) rfl (nI_1 _) (by decide) rfl (fun ls hl => ?_)
              refine lv_goto (tgt := 4) hx hb dX1_lucky_46 (by decide) ?_
              exact ih4 (j + 1) x (by omega) (by omega) (by rw [ex] at *; simp [mq_best, c_18, c_23, c_38, eNy]) _ (lv_sub hl [1, 2, 0] rfl)
            · refine lv_iload_n hx hb dX1_lucky_41 rfl (lv_at hl 2 rfl) ?_
              refine lv_istore_n (lv' := [(1, .int (nI j)), (0, .ref (a 0)), (2, .int (nI j))]) hx hb dX1_lucky_42 rfl hl (by decide) rfl (fun ls hl => ?_)
              refine lv_iinc (v := nI (j + 1)) (lv' := [(2, .int (nI (j + 1))), (1, .int (nI j)), (0, .ref (a 0))]) hx hb dX1_lucky_43 hl (k := 2) rfl (nI_1 _) (by decide) rfl (fun ls hl => ?_)
              refine lv_goto (tgt := 4) hx hb dX1_lucky_46 (by decide) ?_
              exact ih4 (j + 1) (nI j) (by omega) (by omega) (by rw [ex] at *; simp [mq_best, c_18, c_23, c_38, eNy]) _ (lv_sub hl [2, 1, 0] rfl)
  exact loop_4 (n + 1) 0 (-1) (Nat.zero_le _) (by omega) rfl _ (lv_sub hl [2, 1, 0] rfl)
set_option maxRecDepth 100000 in
theorem k_X1_lucky {p : Program} {l : Launch} {e : Env} {R : Room} {s : State} {m : MethodId} {args : Array Value} {below : List Frame} {meth : Method} {c : Code} {H : Heap} {locs : List Loc} {cells slots : Nat} {Q : State → Prop} {D : va_G} {z : ClassId × ClassId} {a : Nat → Nat} {th : Int32} {n w : Nat} {gn lk pu fa he nv of mp mi : Nat → Int32} {k : Nat} {nt fu re : Int32} {cc : ByteArray} {nL pc : Nat} {ls : Array Slot} {rest : List Value} (hC : CallFix p m c cc nL s args lw_all RX1) (hK : kK D z s) (hP : va_P D vwCl (mW z a th n w gn lk pu fa he nv of mp mi k nt fu re) H) (hl : ls.size = nL) (hR : 1 ≤ R.frames ∧ 22 ≤ R.locals) (hz : cells ≤ R.cells ∧ slots ≤ R.slots) (hr : (rest.map fun v => v.category).sum ≤ 8)   (hn : n ≤ 10) (hdg : decode cc pc = .ok (.invokevirtual 162, 3)) (kk : W p l e R s m args below meth c H locs cells slots Q (F0 m (pc + 3) ls (.int (mq_best gn lk n) :: rest))) : W p l e R s m args below meth c H locs cells slots Q (F0 m pc ls (.ref (a 0) :: rest)) := by
  exact vp_callSi (W.runV (As := []) (rest := rest) hC (c_X1_lucky l hn) (cwV 0 hC.2.2.2.2 (gi_V mM_X1_162 mV_X1_lucky mS_X1_lucky mI_MissRegistryModel mC_X1_lucky) rfl rfl rfl (by decide +kernel) hR) (mpre hK hP) rfl rfl hl rfl (lv_room hr) hdg hz) (fun r hr => by rw [hr]; exact kk)
set_option maxHeartbeats 4000000 in
set_option maxRecDepth 100000 in
theorem c_X1_seal (l : Launch) {q t9 N : Nat} {f9 : Nat → Int32} (x : Int32) (hN : N < 100) : Met l yX1_seal (ws_ yX1_seal cX1_seal 4 (some .int)) ({ frames := 4, cells := 0, slots := 0, locals := 85 } : Room) (va_Pc [.int x, .ref q] (fun U => sH q t9 N f9 nA U U.heap ∧ jH nA U U.heap)) (vp_Si (fun r : Int32 => r = sp_txt f9 x N)) 0 0 (fun _ => False) := by
  refine Met.ofW (cc := cX1_seal) (maxL := 4) (ret := (some .int)) (by decide) rfl ?_
  intro p e s m args below meth c s₁ B hml hv
  obtain ⟨rfl, hE, hJ⟩ := hv
  have hx := B.exec
  have hb := B.bytes
  have hr := B.returns
  have hts := atoms_spec (ws := ws_ yX1_seal cX1_seal 4 (some .int)) B.pre
  have hts : ∀ w ∈ lw_all, w.before _ s = true := fun w h => hts w (List.mem_cons_of_mem _ h)
  have hown : s.vm.findClass RX1 = some m.cls := findClass_of_methodNamed B.named
  have hlocks := B.notSynchronized
  have hC : CallFix p m c cX1_seal 4 s _ lw_all RX1 := ⟨hx, hb, hml, hown, hts⟩
  have hl := lv_entry ([.int x, .ref q]) (n := 4) (Nat.le_of_ble_eq_true rfl)
  rw [lg_entry_eq]
  generalize (lg_sl ([.int x, .ref q]) ++ List.replicate (4 - (lg_sl ([.int x, .ref q])).length) Slot.unset).toArray = ls at hl ⊢
  have hl : lv_has ls 4 [(0, .int x), (1, .ref q)] := hl
  have hN1 : N < 2 ^ 31 := by omega
  refine lv_iload_n hx hb dX1_seal_0 rfl (lv_at hl 0 rfl) ?_
  refine lv_istore_n (lv' := [(2, .int x), (0, .int x), (1, .ref q)]) hx hb dX1_seal_1 rfl hl (by decide) rfl (fun ls hl => ?_)
  refine lv_iconst (v := 0) hx hb dX1_seal_2 (by decide) ?_
  refine lv_istore_n (lv' := [(3, .int 0), (2, .int x), (0, .int x), (1, .ref q)]) hx hb dX1_seal_3 rfl hl (by decide) rfl (fun ls hl => ?_)
  have loop_4 : ∀ (f : Nat) (j : Nat) (y : Int32), j ≤ N → N + 1 ≤ j + f → y = sp_txt f9 x j → ∀ ls : Array Slot, lv_has ls 4 [(0, .int x), (1, .ref q), (2, .int y), (3, .int (nI j))] → W p l e ({ frames := 4, cells := 0, slots := 0, locals := 85 } : Room) s m ([.int x, .ref q] : List Value).toArray below meth c s.heap [] 0 0 (MQ below (vp_Si (fun r : Int32 => r = sp_txt f9 x N)) ([.int x, .ref q] : List Value).toArray s 0 0 (fun _ => False)) (F0 m 4 ls []) := by
    intro f
    induction f with
    | zero =>
      intro j y hj hf ey
      exact absurd hf (by omega)
    | succ f ih4 =>
      intro j y hj hf ey ls hl
      refine lv_iload_n hx hb dX1_seal_4 rfl (lv_at hl 3 rfl) ?_
      refine lv_aload_n hx hb dX1_seal_5 rfl (lv_at hl 1 rfl) ?_
      refine k_J0_length_8abf5 hC mM_X1_74 hE hJ hN1 hl.1 ⟨Nat.le_of_ble_eq_true rfl, Nat.le_of_ble_eq_true rfl⟩ ⟨Nat.zero_le _, Nat.zero_le _⟩ (Nat.le_of_ble_eq_true rfl) dX1_seal_6 ?_
      refine lv_icmp_ge (tgt := 29) hx hb dX1_seal_9 (by decide) (fun c_9 => ?_) (fun c_9 => ?_)
      · have nc_9 : N ≤ j := nn_le (by omega) c_9
        refine lv_iload_n hx hb dX1_seal_29 rfl (lv_at hl 2 rfl) ?_
        exact W.iret (v := y) hx hb hr (fun t ht hW => ⟨y, rfl, (by rw [ey, show j = N by omega]), ht⟩) (fun q hq => absurd hq List.not_mem_nil) dX1_seal_30
      · have nc_9 : j < N := nn_nle (by omega) c_9
        refine lv_bipush (v := 31) hx hb dX1_seal_12 (by decide) ?_
        refine lv_iload_n hx hb dX1_seal_14 rfl (lv_at hl 2 rfl) ?_
        refine lv_imul hx hb dX1_seal_15 ?_
        refine lv_aload_n hx hb dX1_seal_16 rfl (lv_at hl 1 rfl) ?_
        refine lv_iload_n hx hb dX1_seal_17 rfl (lv_at hl 3 rfl) ?_
        refine k_J0_charAt_5068e hC mM_X1_80 hE hJ nc_9 hN1 hl.1 ⟨Nat.le_of_ble_eq_true rfl, Nat.le_of_ble_eq_true rfl⟩ ⟨Nat.zero_le _, Nat.zero_le _⟩ (Nat.le_of_ble_eq_true rfl) dX1_seal_18 ?_
        refine lv_iadd hx hb dX1_seal_21 ?_
        refine lv_istore_n (lv' := [(2, .int ((31 * y) + (f9 j &&& 255))), (0, .int x), (1, .ref q), (3, .int (nI j))]) hx hb dX1_seal_22 rfl hl (by decide) rfl (fun ls hl => ?_)
        refine lv_iinc (v := nI (j + 1)) (lv' := [(3, .int (nI (j + 1))), (2, .int ((31 * y) + (f9 j &&& 255))), (0, .int x), (1, .ref q)]) hx hb dX1_seal_23 hl (k := 3) rfl (nI_1 _) (by decide) rfl (fun ls hl => ?_)
        refine lv_goto (tgt := 4) hx hb dX1_seal_26 (by decide) ?_
        exact ih4 (j + 1) ((31 * y) + (f9 j &&& 255)) (by omega) (by omega) (by rw [ey, Int32.mul_comm]; rfl) _ (lv_sub hl [2, 3, 1, 0] rfl)
  exact loop_4 (N + 1) 0 x (Nat.zero_le _) (by omega) rfl _ (lv_sub hl [2, 3, 1, 0] rfl)
set_option maxRecDepth 100000 in
theorem k_X1_seal {p : Program} {l : Launch} {e : Env} {R : Room} {s : State} {m : MethodId} {args : Array Value} {below : List Frame} {meth : Method} {c : Code} {H : Heap} {locs : List Loc} {cells slots : Nat} {Q : State → Prop} {cc : ByteArray} {nL pc : Nat} {ls : Array Slot} {rest : List Value} {q t9 N : Nat} {f9 : Nat → Int32} {x : Int32} {own : String} {idx : Nat} (hC : CallFix p m c cc nL s args lw_all own) (hk : Cond.methodLink own idx yX1_seal ∈ lw_all) (hE : sH q t9 N f9 nA s H) (hJ : jH nA s H) (hN : N < 100) (hl : ls.size = nL) (hR : 5 ≤ R.frames ∧ 108 ≤ R.locals) (hz : cells ≤ R.cells ∧ slots ≤ R.slots) (hr : (rest.map fun v => v.category).sum ≤ 8) (hdg : decode cc pc = .ok (.invokestatic idx, 3)) (kk : W p l e R s m args below meth c H locs cells slots Q (F0 m (pc + 3) ls (.int (sp_txt f9 x N) :: rest))) : W p l e R s m args below meth c H locs cells slots Q (F0 m pc ls (.ref q :: .int x :: rest)) :=
  vp_callSi (W.runS (As := [.int x, .ref q]) (rest := rest) hC (c_X1_seal l x hN) (va_cwS 2 hC.2.2.2.2 (gi_S hk mT_X1_seal mI_MissRegistryModel mC_X1_seal) rfl rfl rfl (by decide +kernel) hR) ⟨fun a1 U g mk q9 => ⟨q9.1, sH.moved (u := U) (U := U.calling g mk a1) (Vm.Alike.refl U.vm) q9.2.1, jH.moved (u := U) (U := U.calling g mk a1) (Vm.Alike.refl U.vm) q9.2.2⟩, fun U hU hW => ⟨rfl, by rw [hU]; exact hE.moved hW.alike, by rw [hU]; exact hJ.moved hW.alike⟩⟩ rfl rfl hl rfl (lv_room hr) hdg hz) (fun r hr => by rw [hr]; exact kk)
set_option maxHeartbeats 4000000 in
set_option maxRecDepth 100000 in
theorem c_X1_sealOfNumber (l : Launch) (x y : Int32) : Met l yX1_sealOfNumber (ws_ yX1_sealOfNumber cX1_sealOfNumber 2 (some .int)) ({ frames := 0, cells := 0, slots := 0, locals := 0 } : Room) (va_Pc [.int x, .int y] (fun _ => True)) (vp_Si (fun r : Int32 => r = sp_num x y)) 0 0 (fun _ => False) := by
  refine Met.ofW (cc := cX1_sealOfNumber) (maxL := 2) (ret := (some .int)) (by decide) rfl ?_
  intro p e s m args below meth c s₁ B hml hv
  obtain ⟨rfl, -⟩ := hv
  have hx := B.exec
  have hb := B.bytes
  have hr := B.returns
  have hts := atoms_spec (ws := ws_ yX1_sealOfNumber cX1_sealOfNumber 2 (some .int)) B.pre
  have hts : ∀ w ∈ lw_all, w.before _ s = true := fun w h => hts w (List.mem_cons_of_mem _ h)
  have hown : s.vm.findClass RX1 = some m.cls := findClass_of_methodNamed B.named
  have hlocks := B.notSynchronized
  have hC : CallFix p m c cX1_sealOfNumber 2 s _ lw_all RX1 := ⟨hx, hb, hml, hown, hts⟩
  have hl := lv_entry ([.int x, .int y]) (n := 2) (Nat.le_of_ble_eq_true rfl)
  rw [lg_entry_eq]
  generalize (lg_sl ([.int x, .int y]) ++ List.replicate (2 - (lg_sl ([.int x, .int y])).length) Slot.unset).toArray = ls at hl ⊢
  have hl : lv_has ls 2 [(0, .int x), (1, .int y)] := hl
  refine lv_bipush (v := 31) hx hb dX1_sealOfNumber_0 (by decide) ?_
  refine lv_iload_n hx hb dX1_sealOfNumber_2 rfl (lv_at hl 1 rfl) ?_
  refine lv_bipush (v := 10) hx hb dX1_sealOfNumber_3 (by decide) ?_
  refine lv_icmp_ge (tgt := 12) hx hb dX1_sealOfNumber_5 (by decide) (fun c_5 => ?_) (fun c_5 => ?_)
  · refine lv_bipush (v := 31) hx hb dX1_sealOfNumber_12 (by decide) ?_
    refine lv_iload_n hx hb dX1_sealOfNumber_14 rfl (lv_at hl 0 rfl) ?_
    refine lv_imul hx hb dX1_sealOfNumber_15 ?_
    refine lv_bipush (v := 48) hx hb dX1_sealOfNumber_16 (by decide) ?_
    refine lv_iadd hx hb dX1_sealOfNumber_18 ?_
    refine lv_iload_n hx hb dX1_sealOfNumber_19 rfl (lv_at hl 1 rfl) ?_
    refine lv_bipush (v := 10) hx hb dX1_sealOfNumber_20 (by decide) ?_
    refine lv_idiv hx hb dX1_sealOfNumber_22 (by decide) ?_
    refine lv_iadd hx hb dX1_sealOfNumber_23 ?_
    refine lv_imul hx hb dX1_sealOfNumber_24 ?_
    refine lv_bipush (v := 48) hx hb dX1_sealOfNumber_25 (by decide) ?_
    refine lv_iadd hx hb dX1_sealOfNumber_27 ?_
    refine lv_iload_n hx hb dX1_sealOfNumber_28 rfl (lv_at hl 1 rfl) ?_
    refine lv_bipush (v := 10) hx hb dX1_sealOfNumber_29 (by decide) ?_
    refine lv_irem hx hb dX1_sealOfNumber_31 (by decide) ?_
    refine lv_iadd hx hb dX1_sealOfNumber_32 ?_
    exact W.iret (v := ((31 * (((31 * x) + 48) + (y / 10))) + 48) + (y - y / 10 * 10)) hx hb hr (fun t ht hW => ⟨((31 * (((31 * x) + 48) + (y / 10))) + 48) + (y - y / 10 * 10), rfl, (by unfold sp_num; rw [if_neg (le_nlt c_5), Int32.mul_comm 31 x, Int32.mul_comm 31 (x * 31 + 48 + y / 10)]), ht⟩) (fun q hq => absurd hq List.not_mem_nil) dX1_sealOfNumber_33
  · refine lv_iload_n hx hb dX1_sealOfNumber_8 rfl (lv_at hl 0 rfl) ?_
    refine lv_goto (tgt := 24) hx hb dX1_sealOfNumber_9 (by decide) ?_
    refine lv_imul hx hb dX1_sealOfNumber_24 ?_
    refine lv_bipush (v := 48) hx hb dX1_sealOfNumber_25 (by decide) ?_
    refine lv_iadd hx hb dX1_sealOfNumber_27 ?_
    refine lv_iload_n hx hb dX1_sealOfNumber_28 rfl (lv_at hl 1 rfl) ?_
    refine lv_bipush (v := 10) hx hb dX1_sealOfNumber_29 (by decide) ?_
    refine lv_irem hx hb dX1_sealOfNumber_31 (by decide) ?_
    refine lv_iadd hx hb dX1_sealOfNumber_32 ?_
    exact W.iret (v := ((31 * x) + 48) + (y - y / 10 * 10)) hx hb hr (fun t ht hW => ⟨((31 * x) + 48) + (y - y / 10 * 10), rfl, (by simp [sp_num, Int32.mul_comm, c_5]), ht⟩) (fun q hq => absurd hq List.not_mem_nil) dX1_sealOfNumber_33
set_option maxRecDepth 100000 in
theorem k_X1_sealOfNumber {p : Program} {l : Launch} {e : Env} {R : Room} {s : State} {m : MethodId} {args : Array Value} {below : List Frame} {meth : Method} {c : Code} {H : Heap} {locs : List Loc} {cells slots : Nat} {Q : State → Prop} {cc : ByteArray} {nL pc : Nat} {ls : Array Slot} {rest : List Value} (hC : CallFix p m c cc nL s args lw_all RX1) (hl : ls.size = nL) (hR : 1 ≤ R.frames ∧ 21 ≤ R.locals) (hz : cells ≤ R.cells ∧ slots ≤ R.slots) (hr : (rest.map fun v => v.category).sum ≤ 8) {x : Int32} {y : Int32}   (hdg : decode cc pc = .ok (.invokestatic 90, 3)) (kk : W p l e R s m args below meth c H locs cells slots Q (F0 m (pc + 3) ls (.int (sp_num x y) :: rest))) : W p l e R s m args below meth c H locs cells slots Q (F0 m pc ls (.int y :: .int x :: rest)) := by
  exact vp_callSi (W.runS (As := [.int x, .int y]) (rest := rest) hC (c_X1_sealOfNumber l x y) (va_cwS 2 hC.2.2.2.2 (gi_S mM_X1_90 mT_X1_sealOfNumber mI_MissRegistryModel mC_X1_sealOfNumber) rfl rfl rfl (by decide +kernel) hR) ⟨fun _ _ _ _ q => q, fun U hU hW => ⟨rfl, trivial⟩⟩ rfl rfl hl rfl (lv_room hr) hdg hz) (fun r hr => by rw [hr]; exact kk)
theorem seal_mid (y : Int32) : 31 * (31 * y + 58) + 32 = sp_txt (tF 1) y (tL 1) := by
  show _ = (y * 31 + ((58 : Int32) &&& 255)) * 31 + ((32 : Int32) &&& 255)
  rw [show ((58 : Int32) &&& 255) = 58 by decide, show ((32 : Int32) &&& 255) = 32 by decide, Int32.mul_comm 31 y, Int32.mul_comm 31 (y * 31 + 58)]
set_option maxHeartbeats 4000000 in
set_option maxRecDepth 100000 in
theorem c_X1_sealAt (l : Launch) {D : va_G} {z : ClassId × ClassId} {a : Nat → Nat} {th : Int32} {n w : Nat} {gn lk pu fa he nv of mp mi : Nat → Int32} {k : Nat} {nt fu re : Int32} {q9 t9 : Nat → Nat} (i : Nat) (hi : i < 60) : Met l yX1_sealAt (ws_ yX1_sealAt cX1_sealAt 3 (some .int)) ({ frames := 5, cells := 0, slots := 0, locals := 108 } : Room) (va_Pc [.ref (a 0), .int (nI i)] (fun U => mI D z a th n w gn lk pu fa he nv of mp mi k nt fu re U ∧ cH q9 t9 nA U U.heap)) (vp_Si (fun r : Int32 => r = sp_seal (mp i) (mi i))) 0 0 (fun _ => False) := by
  refine Met.ofW (cc := cX1_sealAt) (maxL := 3) (ret := (some .int)) (by decide) rfl ?_
  intro p e s m args below meth c s₁ B hml hv
  obtain ⟨rfl, ⟨hP, hK⟩, hE⟩ := hv
  have hx := B.exec
  have hb := B.bytes
  have hr := B.returns
  have hts := atoms_spec (ws := ws_ yX1_sealAt cX1_sealAt 3 (some .int)) B.pre
  have hts : ∀ w ∈ lw_all, w.before _ s = true := fun w h => hts w (List.mem_cons_of_mem _ h)
  have hown : s.vm.findClass RX1 = some m.cls := findClass_of_methodNamed B.named
  have hlocks := B.notSynchronized
  have hC : CallFix p m c cX1_sealAt 3 s _ lw_all RX1 := ⟨hx, hb, hml, hown, hts⟩
  have hl := lv_entry ([.ref (a 0), .int (nI i)]) (n := 3) (Nat.le_of_ble_eq_true rfl)
  rw [lg_entry_eq]
  generalize (lg_sl ([.ref (a 0), .int (nI i)]) ++ List.replicate (3 - (lg_sl ([.ref (a 0), .int (nI i)])).length) Slot.unset).toArray = ls at hl ⊢
  have hl : lv_has ls 3 [(0, .ref (a 0)), (1, .int (nI i))] := hl
  refine lv_bipush (v := 7) hx hb dX1_sealAt_0 (by decide) ?_
  refine va_ldcS hx hb hown hE.2.2.2.2.2.2.1 dX1_sealAt_2 ?_
  refine k_X1_seal (x := 7) hC mM_X1_86 (hE.1 0 (by decide)) hE.2.1 (by decide) hl.1 ⟨Nat.le_of_ble_eq_true rfl, Nat.le_of_ble_eq_true rfl⟩ ⟨Nat.zero_le _, Nat.zero_le _⟩ (Nat.le_of_ble_eq_true rfl) dX1_sealAt_4 ?_
  refine lv_aload_n hx hb dX1_sealAt_7 rfl (lv_at hl 0 rfl) ?_
  refine mg_mp hC hK hP dX1_sealAt_8 ?_
  refine lv_iload_n hx hb dX1_sealAt_11 rfl (lv_at hl 1 rfl) ?_
  refine ml_mp hC hK hP i rfl (by omega) dX1_sealAt_12 ?_
  refine k_X1_sealOfNumber hC hl.1 ⟨Nat.le_of_ble_eq_true rfl, Nat.le_of_ble_eq_true rfl⟩ ⟨Nat.zero_le _, Nat.zero_le _⟩ (Nat.le_of_ble_eq_true rfl)   dX1_sealAt_13 ?_
  refine lv_istore_n (lv' := [(2, .int (sp_num (sp_txt (tF 0) 7 (tL 0)) (mp i))), (0, .ref (a 0)), (1, .int (nI i))]) hx hb dX1_sealAt_16 rfl hl (by decide) rfl (fun ls hl => ?_)
  refine lv_bipush (v := 31) hx hb dX1_sealAt_17 (by decide) ?_
  refine lv_bipush (v := 31) hx hb dX1_sealAt_19 (by decide) ?_
  refine lv_iload_n hx hb dX1_sealAt_21 rfl (lv_at hl 0 rfl) ?_
  refine lv_imul hx hb dX1_sealAt_22 ?_
  refine lv_bipush (v := 58) hx hb dX1_sealAt_23 (by decide) ?_
  refine lv_iadd hx hb dX1_sealAt_25 ?_
  refine lv_imul hx hb dX1_sealAt_26 ?_
  refine lv_bipush (v := 32) hx hb dX1_sealAt_27 (by decide) ?_
  refine lv_iadd hx hb dX1_sealAt_29 ?_
  refine lv_istore_n (lv' := [(2, .int ((31 * ((31 * (sp_num (sp_txt (tF 0) 7 (tL 0)) (mp i))) + 58)) + 32)), (0, .ref (a 0)), (1, .int (nI i))]) hx hb dX1_sealAt_30 rfl hl (by decide) rfl (fun ls hl => ?_)
  refine lv_aload_n hx hb dX1_sealAt_31 rfl (lv_at hl 1 rfl) ?_
  refine mg_mi hC hK hP dX1_sealAt_32 ?_
  refine lv_iload_n hx hb dX1_sealAt_35 rfl (lv_at hl 2 rfl) ?_
  refine ml_mi hC hK hP i rfl (by omega) dX1_sealAt_36 ?_
  refine lv_if_ne (tgt := 49) hx hb dX1_sealAt_37 (by decide) (fun c_37 => ?_) (fun c_37 => ?_)
  · refine lv_iload_n hx hb dX1_sealAt_49 rfl (lv_at hl 0 rfl) ?_
    refine lv_aload_n hx hb dX1_sealAt_50 rfl (lv_at hl 1 rfl) ?_
    refine mg_mi hC hK hP dX1_sealAt_51 ?_
    refine lv_iload_n hx hb dX1_sealAt_54 rfl (lv_at hl 2 rfl) ?_
    refine ml_mi hC hK hP i rfl (by omega) dX1_sealAt_55 ?_
    refine k_X1_sealOfNumber hC hl.1 ⟨Nat.le_of_ble_eq_true rfl, Nat.le_of_ble_eq_true rfl⟩ ⟨Nat.zero_le _, Nat.zero_le _⟩ (Nat.le_of_ble_eq_true rfl)   dX1_sealAt_56 ?_
    refine va_ldcS hx hb hown hE.2.2.2.2.2.2.2.2 dX1_sealAt_59 ?_
    refine k_X1_seal (x := (sp_num ((31 * ((31 * (sp_num (sp_txt (tF 0) 7 (tL 0)) (mp i))) + 58)) + 32) (mi i))) hC mM_X1_86 (hE.1 3 (by decide)) hE.2.1 (by decide) hl.1 ⟨Nat.le_of_ble_eq_true rfl, Nat.le_of_ble_eq_true rfl⟩ ⟨Nat.zero_le _, Nat.zero_le _⟩ (Nat.le_of_ble_eq_true rfl) dX1_sealAt_61 ?_
    exact W.iret (v := sp_txt (tF 3) (sp_num ((31 * ((31 * (sp_num (sp_txt (tF 0) 7 (tL 0)) (mp i))) + 58)) + 32) (mi i)) (tL 3)) hx hb hr (fun t ht hW => ⟨sp_txt (tF 3) (sp_num ((31 * ((31 * (sp_num (sp_txt (tF 0) 7 (tL 0)) (mp i))) + 58)) + 32) (mi i)) (tL 3), rfl, (by simp only [seal_mid]; simp [sp_seal, sp_s3, c_37]), ht⟩) (fun q hq => absurd hq List.not_mem_nil) dX1_sealAt_64
  · refine lv_iload_n hx hb dX1_sealAt_40 rfl (lv_at hl 0 rfl) ?_
    refine va_ldcS hx hb hown hE.2.2.2.2.2.2.2.1 dX1_sealAt_41 ?_
    refine k_X1_seal (x := ((31 * ((31 * (sp_num (sp_txt (tF 0) 7 (tL 0)) (mp i))) + 58)) + 32)) hC mM_X1_86 (hE.1 2 (by decide)) hE.2.1 (by decide) hl.1 ⟨Nat.le_of_ble_eq_true rfl, Nat.le_of_ble_eq_true rfl⟩ ⟨Nat.zero_le _, Nat.zero_le _⟩ (Nat.le_of_ble_eq_true rfl) dX1_sealAt_43 ?_
    refine lv_goto (tgt := 64) hx hb dX1_sealAt_46 (by decide) ?_
    exact W.iret (v := sp_txt (tF 2) ((31 * ((31 * (sp_num (sp_txt (tF 0) 7 (tL 0)) (mp i))) + 58)) + 32) (tL 2)) hx hb hr (fun t ht hW => ⟨sp_txt (tF 2) ((31 * ((31 * (sp_num (sp_txt (tF 0) 7 (tL 0)) (mp i))) + 58)) + 32) (tL 2), rfl, (by simp only [seal_mid]; simp [sp_seal, sp_s3, c_37]), ht⟩) (fun q hq => absurd hq List.not_mem_nil) dX1_sealAt_64
set_option maxRecDepth 100000 in
theorem k_X1_sealAt {p : Program} {l : Launch} {e : Env} {R : Room} {s : State} {m : MethodId} {args : Array Value} {below : List Frame} {meth : Method} {c : Code} {H : Heap} {locs : List Loc} {cells slots : Nat} {Q : State → Prop} {D : va_G} {z : ClassId × ClassId} {a : Nat → Nat} {th : Int32} {n w : Nat} {gn lk pu fa he nv of mp mi : Nat → Int32} {k : Nat} {nt fu re : Int32} {q9 t9 : Nat → Nat} {cc : ByteArray} {nL pc : Nat} {ls : Array Slot} {rest : List Value} (hC : CallFix p m c cc nL s args lw_all RX1) (hK : kK D z s) (hP : va_P D vwCl (mW z a th n w gn lk pu fa he nv of mp mi k nt fu re) H) (hE : cH q9 t9 nA s H) (hl : ls.size = nL) (hR : 6 ≤ R.frames ∧ 130 ≤ R.locals) (hz : cells ≤ R.cells ∧ slots ≤ R.slots) (hr : (rest.map fun v => v.category).sum ≤ 8) {i : Nat} {x0 : Int32} (hx0 : x0 = nI i) (hi : i < 60) (hdg : decode cc pc = .ok (.invokevirtual 150, 3)) (kk : W p l e R s m args below meth c H locs cells slots Q (F0 m (pc + 3) ls (.int (sp_seal (mp i) (mi i)) :: rest))) : W p l e R s m args below meth c H locs cells slots Q (F0 m pc ls (.int x0 :: .ref (a 0) :: rest)) := by
  subst hx0
  exact vp_callSi (W.runV (As := [.int (nI i)]) (rest := rest) hC (c_X1_sealAt l i hi) (cwV 1 hC.2.2.2.2 (gi_V mM_X1_150 mV_X1_sealAt mS_X1_sealAt mI_MissRegistryModel mC_X1_sealAt) rfl rfl rfl (by decide +kernel) hR) ⟨fun a1 U g mk q8 => ⟨q8.1, ⟨q8.2.1.1, va_K.moved (u := U) (U := U.calling g mk a1) (Vm.Alike.refl U.vm) q8.2.1.2⟩, cH.same (u := U) (U := U.calling g mk a1) rfl q8.2.2⟩, va_recv hK hP (ci := 1) (q0 := 0) rfl rfl, fun U hU hW => ⟨rfl, ⟨by rw [hU]; exact hP, va_K.moved hW.alike hK⟩, by rw [hU]; exact hE.warm hW⟩⟩ rfl rfl hl rfl (lv_room hr) hdg hz) (fun r hr => by rw [hr]; exact kk)

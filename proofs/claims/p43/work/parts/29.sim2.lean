theorem coins_0 {al fv lkv fu ce : Int32} (h : al = 0 ∨ fv = 0 ∨ ce = 0 ∨ 24 < ce) : 0 = sp_coins al fv lkv fu ce := by
  unfold sp_coins
  rw [if_pos]
  unfold sp_uses
  by_cases h1 : al = 0
  · rw [if_pos h1]
  · rw [if_neg h1]
    by_cases h2 : fv ≤ 0
    · rw [if_pos h2]
    · rw [if_neg h2]
      by_cases h3 : ce ≤ 0
      · rw [if_pos h3]
      · rw [if_neg h3]
        rcases h with h | h | h | h
        · exact absurd h h1
        · rw [h] at h2; exact absurd (by decide) h2
        · rw [h] at h3; exact absurd (by decide) h3
        · rw [if_pos h]
theorem uses_1 {al fv ce : Int32} (h1 : ¬ al = 0) (h2 : ¬ fv = 0) (h2' : ¬ fv < 0) (h3 : ¬ ce = 0) (h3' : ¬ ce < 0) (h4 : ¬ 24 < ce) : sp_uses al fv ce = 1 := by
  have g2 : ¬ fv ≤ 0 := fun q => by
    rw [Int32.le_iff_toInt_le, t_0] at q
    rw [Int32.lt_iff_toInt_lt, t_0] at h2'
    exact h2 (by rw [← Int32.toInt_inj, t_0]; omega)
  have g3 : ¬ ce ≤ 0 := fun q => by
    rw [Int32.le_iff_toInt_le, t_0] at q
    rw [Int32.lt_iff_toInt_lt, t_0] at h3'
    exact h3 (by rw [← Int32.toInt_inj, t_0]; omega)
  unfold sp_uses
  rw [if_neg h1, if_neg g2, if_neg g3, if_neg h4]
theorem coins_1 {al fv lkv fu ce : Int32} (h1 : ¬ al = 0) (h2 : ¬ fv = 0) (h2' : ¬ fv < 0) (h3 : ¬ ce = 0) (h3' : ¬ ce < 0) (h4 : ¬ 24 < ce) : sp_coins al fv lkv fu ce = imin fu (sp_price lkv + 24 - ce) := by
  unfold sp_coins
  rw [uses_1 h1 h2 h2' h3 h3' h4, if_neg (by decide)]
theorem min_1 {x y : Int32} (h : y ≤ x) : y = imin x y := by
  show y = if y < x then y else x
  by_cases q : y < x
  · rw [if_pos q]
  · rw [if_neg q, ← Int32.toInt_inj]
    rw [Int32.le_iff_toInt_le] at h
    rw [Int32.lt_iff_toInt_lt] at q
    omega
theorem min_2 {x y : Int32} (h : ¬ y ≤ x) : x = imin x y := by
  show x = if y < x then y else x
  rw [if_neg]
  intro q
  rw [Int32.le_iff_toInt_le] at h
  rw [Int32.lt_iff_toInt_lt] at q
  omega
theorem i24_iff (v : Int32) : v ≤ 24 ↔ ¬ 24 < v := by rw [Int32.le_iff_toInt_le, Int32.lt_iff_toInt_lt]; omega
theorem hR_neg {he : Nat → Int32} {n j : Nat} (hn : n ≤ 10) (h : he j = -1 ∨ ∃ y : Nat, y < n ∧ he j = nI y) (c : he j < 0) : he j = -1 := by
  rcases h with h | ⟨y, hy, h⟩
  · exact h
  · rw [h] at c; exact absurd c (nI_pos (by omega))
theorem hR_pos {he : Nat → Int32} {n j : Nat} (h : he j = -1 ∨ ∃ y : Nat, y < n ∧ he j = nI y) (c : ¬ he j < 0) : ∃ y : Nat, y < n ∧ he j = nI y := by
  rcases h with h | h
  · rw [h] at c; exact absurd (by decide) c
  · exact h

set_option maxHeartbeats 4000000 in
set_option maxRecDepth 100000 in
theorem c_X1_refund (l : Launch) {D : va_G} {z : ClassId × ClassId} {cG : ClassId} {F M : va_W} {b : Nat → Nat} {rp : Nat → Nat} {rw : Nat → Nat} {rm : Nat → Nat} {lv : Nat → Int32} {lk : Nat → Int32} {pu : Nat → Int32} {fa : Nat → Int32} {he : Nat → Int32} {n : Nat} {nv : Nat → Int32} {du : Nat → Int32} {w : Nat} {mp : Nat → Int32} {mi : Nat → Int32} {k : Nat} {nt : Int32} {fu : Int32} {re : Int32} {q0 a9 : Nat} {g9 : Nat → Int32} (ha : (F ++ (qW z cG b rp rw rm lv lk pu fa he n nv du w mp mi k nt fu re ++ M))[q0]? = some (a9, .inl (z.1, 5, .inl g9))) (ce : Int32) (hf : ¬ g9 3 < 0) (hc : ¬ ce < 0) : Met l yX1_refund (ws_ yX1_refund cX1_refund 4 (some .int)) ({ frames := 1, cells := 0, slots := 0, locals := 20 } : Room) (va_Pc [.ref (b 0), .ref a9, .int ce] (fun U => qI D z cG (F ++ (qW z cG b rp rw rm lv lk pu fa he n nv du w mp mi k nt fu re ++ M)) U)) (vp_Si (fun r : Int32 => r = sp_coins (g9 0) (g9 3) (g9 1) fu ce)) 0 0 (fun _ => False) := by
  refine Met.ofW (cc := cX1_refund) (maxL := 4) (ret := (some .int)) (by decide) rfl ?_
  intro p e s m args below meth c s₁ B hml hv
  obtain ⟨rfl, ⟨hP, hK, hG⟩⟩ := hv
  have hx := B.exec
  have hb := B.bytes
  have hr := B.returns
  have hts := atoms_spec (ws := ws_ yX1_refund cX1_refund 4 (some .int)) B.pre
  have hts : ∀ w ∈ lw_all, w.before _ s = true := fun w h => hts w (List.mem_cons_of_mem _ h)
  have hown : s.vm.findClass RX1 = some m.cls := findClass_of_methodNamed B.named
  have hlocks := B.notSynchronized
  have hC : CallFix p m c cX1_refund 4 s _ lw_all RX1 := ⟨hx, hb, hml, hown, hts⟩
  have hl := lv_entry ([.ref (b 0), .ref a9, .int ce]) (n := 4) (Nat.le_of_ble_eq_true rfl)
  rw [lg_entry_eq]
  generalize (lg_sl ([.ref (b 0), .ref a9, .int ce]) ++ List.replicate (4 - (lg_sl ([.ref (b 0), .ref a9, .int ce])).length) Slot.unset).toArray = ls at hl ⊢
  have hl : lv_has ls 4 [(0, .ref (b 0)), (1, .ref a9), (2, .int ce)] := hl
  refine lv_aload_n hx hb dX1_refund_0 rfl (lv_at hl 1 rfl) ?_
  refine lv_iconst (v := 0) hx hb dX1_refund_1 (by decide) ?_
  refine qi_ld 0 hC hK hP ha nI_0.symm (by decide) (by decide) dX1_refund_2 ?_
  refine lv_if_eq (tgt := 22) hx hb dX1_refund_3 (by decide) (fun c_3 => ?_) (fun c_3 => ?_)
  · refine lv_iconst (v := 0) hx hb dX1_refund_22 (by decide) ?_
    exact W.iret (v := 0) hx hb hr (fun t ht hW => ⟨0, rfl, (coins_0 (Or.inl c_3)), ht⟩) (fun q hq => absurd hq List.not_mem_nil) dX1_refund_23
  · refine lv_aload_n hx hb dX1_refund_6 rfl (lv_at hl 1 rfl) ?_
    refine lv_iconst (v := 3) hx hb dX1_refund_7 (by decide) ?_
    refine qi_ld 3 hC hK hP ha rfl (by decide) (by decide) dX1_refund_8 ?_
    refine lv_if_eq (tgt := 22) hx hb dX1_refund_9 (by decide) (fun c_9 => ?_) (fun c_9 => ?_)
    · refine lv_iconst (v := 0) hx hb dX1_refund_22 (by decide) ?_
      exact W.iret (v := 0) hx hb hr (fun t ht hW => ⟨0, rfl, (coins_0 (Or.inr (Or.inl c_9))), ht⟩) (fun q hq => absurd hq List.not_mem_nil) dX1_refund_23
    · refine lv_iload_n hx hb dX1_refund_12 rfl (lv_at hl 2 rfl) ?_
      refine lv_if_eq (tgt := 22) hx hb dX1_refund_13 (by decide) (fun c_13 => ?_) (fun c_13 => ?_)
      · refine lv_iconst (v := 0) hx hb dX1_refund_22 (by decide) ?_
        exact W.iret (v := 0) hx hb hr (fun t ht hW => ⟨0, rfl, (coins_0 (Or.inr (Or.inr (Or.inl c_13)))), ht⟩) (fun q hq => absurd hq List.not_mem_nil) dX1_refund_23
      · refine lv_iload_n hx hb dX1_refund_16 rfl (lv_at hl 2 rfl) ?_
        refine lv_bipush (v := 24) hx hb dX1_refund_17 (by decide) ?_
        refine lv_icmp_le (tgt := 24) hx hb dX1_refund_19 (by decide) (fun c_19 => ?_) (fun c_19 => ?_)
        · refine lv_aload_n hx hb dX1_refund_24 rfl (lv_at hl 1 rfl) ?_
          refine k_X1_price hC mM_X1_25 hK hG hP ha hl.1 ⟨Nat.le_of_ble_eq_true rfl, Nat.le_of_ble_eq_true rfl⟩ ⟨Nat.zero_le _, Nat.zero_le _⟩ (Nat.le_of_ble_eq_true rfl) dX1_refund_25 ?_
          refine lv_bipush (v := 24) hx hb dX1_refund_28 (by decide) ?_
          refine lv_iadd hx hb dX1_refund_30 ?_
          refine lv_iload_n hx hb dX1_refund_31 rfl (lv_at hl 2 rfl) ?_
          refine lv_isub hx hb dX1_refund_32 ?_
          refine lv_istore_n (lv' := [(3, .int (((sp_price (g9 1)) + 24) - ce)), (0, .ref (b 0)), (1, .ref a9), (2, .int ce)]) hx hb dX1_refund_33 rfl hl (by decide) rfl (fun ls hl => ?_)
          refine lv_iload_n hx hb dX1_refund_34 rfl (lv_at hl 0 rfl) ?_
          refine lv_aload_n hx hb dX1_refund_35 rfl (lv_at hl 1 rfl) ?_
          refine qg_fu hC hK hP mF_X1_29 dX1_refund_36 ?_
          refine lv_icmp_le (tgt := 49) hx hb dX1_refund_39 (by decide) (fun c_39 => ?_) (fun c_39 => ?_)
          · refine lv_iload_n hx hb dX1_refund_49 rfl (lv_at hl 0 rfl) ?_
            exact W.iret (v := ((sp_price (g9 1)) + 24) - ce) hx hb hr (fun t ht hW => ⟨((sp_price (g9 1)) + 24) - ce, rfl, ((min_1 c_39).trans (coins_1 c_3 c_9 hf c_13 hc ((i24_iff _).mp c_19)).symm), ht⟩) (fun q hq => absurd hq List.not_mem_nil) dX1_refund_50
          · refine lv_aload_n hx hb dX1_refund_42 rfl (lv_at hl 1 rfl) ?_
            refine qg_fu hC hK hP mF_X1_29 dX1_refund_43 ?_
            refine lv_goto (tgt := 50) hx hb dX1_refund_46 (by decide) ?_
            exact W.iret (v := fu) hx hb hr (fun t ht hW => ⟨fu, rfl, ((min_2 c_39).trans (coins_1 c_3 c_9 hf c_13 hc ((i24_iff _).mp c_19)).symm), ht⟩) (fun q hq => absurd hq List.not_mem_nil) dX1_refund_50
        · refine lv_iconst (v := 0) hx hb dX1_refund_22 (by decide) ?_
          exact W.iret (v := 0) hx hb hr (fun t ht hW => ⟨0, rfl, (coins_0 (Or.inr (Or.inr (Or.inr (Classical.byContradiction fun q9 => c_19 ((i24_iff _).mpr q9)))))), ht⟩) (fun q hq => absurd hq List.not_mem_nil) dX1_refund_23
set_option maxRecDepth 100000 in
theorem k_X1_refund {p : Program} {l : Launch} {e : Env} {R : Room} {s : State} {m : MethodId} {args : Array Value} {below : List Frame} {meth : Method} {c : Code} {H : Heap} {locs : List Loc} {cells slots : Nat} {Q : State → Prop} {cc : ByteArray} {nL pc : Nat} {ls : Array Slot} {rest : List Value} {own : String} {D : va_G} {z : ClassId × ClassId} {cG : ClassId} {F M : va_W} {b : Nat → Nat} {rp : Nat → Nat} {rw : Nat → Nat} {rm : Nat → Nat} {lv : Nat → Int32} {lk : Nat → Int32} {pu : Nat → Int32} {fa : Nat → Int32} {he : Nat → Int32} {n : Nat} {nv : Nat → Int32} {du : Nat → Int32} {w : Nat} {mp : Nat → Int32} {mi : Nat → Int32} {k : Nat} {nt : Int32} {fu : Int32} {re : Int32} {q0 a9 : Nat} {g9 : Nat → Int32} {ce : Int32} {idx : Nat} (hC : CallFix p m c cc nL s args lw_all own) (hk : Cond.methodLink own idx yX1_refund ∈ lw_all) (hK : kK D z s) (hG : kG cG s) (hP : va_P D vwCl (F ++ (qW z cG b rp rw rm lv lk pu fa he n nv du w mp mi k nt fu re ++ M)) H) (ha : (F ++ (qW z cG b rp rw rm lv lk pu fa he n nv du w mp mi k nt fu re ++ M))[q0]? = some (a9, .inl (z.1, 5, .inl g9))) (hf : ¬ g9 3 < 0) (hc : ¬ ce < 0) (hl : ls.size = nL) (hR : 2 ≤ R.frames ∧ 43 ≤ R.locals) (hz : cells ≤ R.cells ∧ slots ≤ R.slots) (hr : (rest.map fun v => v.category).sum ≤ 8) (hdg : decode cc pc = .ok (.invokevirtual idx, 3)) (kk : W p l e R s m args below meth c H locs cells slots Q (F0 m (pc + 3) ls (.int (sp_coins (g9 0) (g9 3) (g9 1) fu ce) :: rest))) : W p l e R s m args below meth c H locs cells slots Q (F0 m pc ls (.int ce :: .ref a9 :: .ref (b 0) :: rest)) :=
  vp_callSi (W.runV (As := [.ref a9, .int ce]) (rest := rest) hC (c_X1_refund l ha ce hf hc) (cwV 2 hC.2.2.2.2 (gi_V hk mV_X1_refund mS_X1_refund mI_Sim mC_X1_refund) rfl rfl rfl (by decide +kernel) hR) ⟨fun a1 U g mk q9 => ⟨q9.1, qI.call q9.2⟩, q_recv hK hP, fun U hU hW => ⟨rfl, qI.into hK hG hP hU hW⟩⟩ rfl rfl hl rfl (lv_room hr) hdg hz) (fun r hr => by rw [hr]; exact kk)
set_option maxHeartbeats 4000000 in
set_option maxRecDepth 100000 in
theorem c_X1_lastHeir (l : Launch) (sz : Nat) {D : va_G} {z : ClassId × ClassId} {cG : ClassId} {F M : va_W} {b : Nat → Nat} {rp : Nat → Nat} {rw : Nat → Nat} {rm : Nat → Nat} {lv : Nat → Int32} {lk : Nat → Int32} {pu : Nat → Int32} {fa : Nat → Int32} {he : Nat → Int32} {n : Nat} {nv : Nat → Int32} {du : Nat → Int32} {w : Nat} {mp : Nat → Int32} {mi : Nat → Int32} {k : Nat} {nt : Int32} {fu : Int32} {re : Int32} (i : Nat) (hi : i < n) (hn : n ≤ 10) (hH : heirR he n) (h01 : bZ lv n) : Met l yX1_lastHeir (ws_ yX1_lastHeir cX1_lastHeir 4 (some .int)) ({ frames := 0, cells := 1, slots := 10, locals := 0 } : Room) (va_Pc [.ref (b 0), .int (nI i)] (fun U => U.heap.size = sz ∧ qI D z cG (F ++ (qW z cG b rp rw rm lv lk pu fa he n nv du w mp mi k nt fu re ++ M)) U ∧ va_D (fun _ => True) (F ++ (qW z cG b rp rw rm lv lk pu fa he n nv du w mp mi k nt fu re ++ M)) ∧ True)) (va_Qi (fun (r : Int32) (u : Unit) => r = sp_heir he lv n i n (he i)) (fun u t9 => va_P D vwCl (F ++ (qW z cG b rp rw rm lv lk pu fa he n nv du w mp mi k nt fu re ++ M)) t9.heap ∧ va_D (va_A (F ++ (qW z cG b rp rw rm lv lk pu fa he n nv du w mp mi k nt fu re ++ M)) sz) (F ++ (qW z cG b rp rw rm lv lk pu fa he n nv du w mp mi k nt fu re ++ M))) (va_A (F ++ (qW z cG b rp rw rm lv lk pu fa he n nv du w mp mi k nt fu re ++ M)) sz)) 1 10 (va_A (F ++ (qW z cG b rp rw rm lv lk pu fa he n nv du w mp mi k nt fu re ++ M)) sz) := by
  refine Met.ofW (cc := cX1_lastHeir) (maxL := 4) (ret := (some .int)) (by decide) rfl ?_
  intro p e s m args below meth c s₁ B hml hv
  obtain ⟨rfl, hsz, ⟨hP, hK, hG⟩, hD0, -⟩ := hv
  have hx := B.exec
  have hb := B.bytes
  have hr := B.returns
  have hts := atoms_spec (ws := ws_ yX1_lastHeir cX1_lastHeir 4 (some .int)) B.pre
  have hts : ∀ w ∈ lw_all, w.before _ s = true := fun w h => hts w (List.mem_cons_of_mem _ h)
  have hown : s.vm.findClass RX1 = some m.cls := findClass_of_methodNamed B.named
  have hlocks := B.notSynchronized
  have hC : CallFix p m c cX1_lastHeir 4 s _ lw_all RX1 := ⟨hx, hb, hml, hown, hts⟩
  subst hsz
  have hD := hD0.self (sz := s.heap.size)
  generalize hAe : va_A (F ++ (qW z cG b rp rw rm lv lk pu fa he n nv du w mp mi k nt fu re ++ M)) s.heap.size = A at hD ⊢
  have hA : ∀ q : Nat, s.heap.size ≤ q → A q := fun q h => by rw [← hAe]; exact Or.inr h
  have hS : va_S A s.heap s.heap [] := va_S.rf
  have hl := lv_entry ([.ref (b 0), .int (nI i)]) (n := 4) (Nat.le_of_ble_eq_true rfl)
  rw [lg_entry_eq]
  generalize (lg_sl ([.ref (b 0), .int (nI i)]) ++ List.replicate (4 - (lg_sl ([.ref (b 0), .int (nI i)])).length) Slot.unset).toArray = ls at hl ⊢
  have hl : lv_has ls 4 [(0, .ref (b 0)), (1, .int (nI i))] := hl
  refine lv_aload_n hx hb dX1_lastHeir_0 rfl (lv_at hl 0 rfl) ?_
  refine qg_ps hC hK hP mF_X1_9 dX1_lastHeir_1 ?_
  refine qlen_p hC hK hP hG dX1_lastHeir_4 ?_
  refine qn_z hC hK hP hD hS hA (N := n) rfl (by omega) (by show _ ≤ 1; omega) (by show _ ≤ 10; omega) dX1_lastHeir_5 (fun q5 H hP hD hS => ?_)
  have hP : va_P D vwCl (((q5, .inl (z.2, n, .inl (fun _ => 0))) :: F) ++ (qW z cG b rp rw rm lv lk pu fa he n nv du w mp mi k nt fu re ++ M)) H := hP
  have hD : va_D A (((q5, .inl (z.2, n, .inl (fun _ => 0))) :: F) ++ (qW z cG b rp rw rm lv lk pu fa he n nv du w mp mi k nt fu re ++ M)) := hD
  refine lv_astore_n (lv' := [(2, .ref q5), (0, .ref (b 0)), (1, .int (nI i))]) hx hb dX1_lastHeir_7 rfl hl (by decide) rfl (fun ls hl => ?_)
  refine lv_iload_n hx hb dX1_lastHeir_8 rfl (lv_at hl 2 rfl) ?_
  refine lv_istore_n (lv' := [(3, .int (nI i)), (2, .ref q5), (0, .ref (b 0)), (1, .int (nI i))]) hx hb dX1_lastHeir_9 rfl hl (by decide) rfl (fun ls hl => ?_)
  have loop_10 : ∀ (f : Nat) (j : Nat) (g : Nat → Int32), j < n → n + 1 ≤ nc g n + f → hI he lv n i g j → ∀ (H : Heap) (locs : List Loc), va_P D vwCl (((q5, .inl (z.2, n, .inl g)) :: F) ++ (qW z cG b rp rw rm lv lk pu fa he n nv du w mp mi k nt fu re ++ M)) H → va_D A (((q5, .inl (z.2, n, .inl g)) :: F) ++ (qW z cG b rp rw rm lv lk pu fa he n nv du w mp mi k nt fu re ++ M)) → va_S A s.heap H locs → ∀ ls : Array Slot, lv_has ls 4 [(0, .ref (b 0)), (1, .int (nI i)), (2, .ref q5), (3, .int (nI j))] → W p l e ({ frames := 0, cells := 1, slots := 10, locals := 0 } : Room) s m ([.ref (b 0), .int (nI i)] : List Value).toArray below meth c H locs (0 + 1) (0 + n) (MQ below (va_Qi (fun (r : Int32) (u : Unit) => r = sp_heir he lv n i n (he i)) (fun u t9 => va_P D vwCl (F ++ (qW z cG b rp rw rm lv lk pu fa he n nv du w mp mi k nt fu re ++ M)) t9.heap ∧ va_D A (F ++ (qW z cG b rp rw rm lv lk pu fa he n nv du w mp mi k nt fu re ++ M))) A) ([.ref (b 0), .int (nI i)] : List Value).toArray s 1 10 A) (F0 m 10 ls []) := by
    intro f
    induction f with
    | zero =>
      intro j g hj hf hI
      exact absurd hf (by have := nc_le (g := g) n; omega)
    | succ f ih10 =>
      intro j g hj hf hI H locs hP hD hS ls hl
      refine lv_aload_n hx hb dX1_lastHeir_10 rfl (lv_at hl 2 rfl) ?_
      refine lv_iload_n hx hb dX1_lastHeir_11 rfl (lv_at hl 3 rfl) ?_
      refine qz_ld (q0 := 0) (L := n) (g := g) j hC hK hP rfl rfl (by omega) (by omega) dX1_lastHeir_12 ?_
      refine lv_if_ne (tgt := 54) hx hb dX1_lastHeir_13 (by decide) (fun c_13 => ?_) (fun c_13 => ?_)
      · refine lv_iconst (v := (-1)) hx hb dX1_lastHeir_54 (by decide) ?_
        have hP : va_P D vwCl (F ++ (qW z cG b rp rw rm lv lk pu fa he n nv du w mp mi k nt fu re ++ M)) H := wj_Pr (X := [(q5, .inl (z.2, n, .inl g))]) hP
        have hD : va_D A (F ++ (qW z cG b rp rw rm lv lk pu fa he n nv du w mp mi k nt fu re ++ M)) := wj_Dr (X := [(q5, .inl (z.2, n, .inl g))]) hD
        refine W.widen (k := 1) (n := 10) (by omega) (by omega) ?_
        exact W.iret (v := (-1)) hx hb hr (fun t ht hW => ⟨⟨(-1), (), rfl, (hI_twice hn hi hj hI c_13), by rw [ht]; exact hP, hD⟩, hS.F ht⟩) hS.2.2 dX1_lastHeir_55
      · refine lv_aload_n hx hb dX1_lastHeir_16 rfl (lv_at hl 2 rfl) ?_
        refine lv_iload_n hx hb dX1_lastHeir_17 rfl (lv_at hl 3 rfl) ?_
        refine lv_iconst (v := 1) hx hb dX1_lastHeir_18 (by decide) ?_
        refine qz_st (q0 := 0) (L := n) (g := g) j hC hK hP hD hS rfl rfl (by omega) (by omega) (by decide) dX1_lastHeir_19 (fun H locs hP hD hS => ?_)
        have hP : va_P D vwCl (((q5, .inl (z.2, n, .inl (upd g j 1))) :: F) ++ (qW z cG b rp rw rm lv lk pu fa he n nv du w mp mi k nt fu re ++ M)) H := hP
        have hD : va_D A (((q5, .inl (z.2, n, .inl (upd g j 1))) :: F) ++ (qW z cG b rp rw rm lv lk pu fa he n nv du w mp mi k nt fu re ++ M)) := hD
        refine lv_aload_n hx hb dX1_lastHeir_20 rfl (lv_at hl 0 rfl) ?_
        refine qg_ps hC hK hP mF_X1_9 dX1_lastHeir_21 ?_
        refine lv_iload_n hx hb dX1_lastHeir_24 rfl (lv_at hl 3 rfl) ?_
        refine qr_p j hC hK hP hG rfl (by first | assumption | omega) (by omega) dX1_lastHeir_25 ?_
        refine lv_iconst (v := 4) hx hb dX1_lastHeir_26 (by decide) ?_
        refine ql_he j hC hK hP (by first | assumption | omega) rfl dX1_lastHeir_27 ?_
        refine lv_istore_n (lv' := [(3, .int (he j)), (0, .ref (b 0)), (1, .int (nI i)), (2, .ref q5)]) hx hb dX1_lastHeir_28 rfl hl (by decide) rfl (fun ls hl => ?_)
        refine lv_iload_n hx hb dX1_lastHeir_29 rfl (lv_at hl 0 rfl) ?_
        refine lv_if_lt (tgt := 38) hx hb dX1_lastHeir_30 (by decide) (fun c_30 => ?_) (fun c_30 => ?_)
        · refine lv_iconst (v := (-1)) hx hb dX1_lastHeir_38 (by decide) ?_
          have hP : va_P D vwCl (F ++ (qW z cG b rp rw rm lv lk pu fa he n nv du w mp mi k nt fu re ++ M)) H := wj_Pr (X := [(q5, .inl (z.2, n, .inl (upd g j 1)))]) hP
          have hD : va_D A (F ++ (qW z cG b rp rw rm lv lk pu fa he n nv du w mp mi k nt fu re ++ M)) := wj_Dr (X := [(q5, .inl (z.2, n, .inl (upd g j 1)))]) hD
          refine W.widen (k := 1) (n := 10) (by omega) (by omega) ?_
          exact W.iret (v := (-1)) hx hb hr (fun t ht hW => ⟨⟨(-1), (), rfl, (hI_none hI (Or.inl (hR_neg hn (hH j hj) c_30))), by rw [ht]; exact hP, hD⟩, hS.F ht⟩) hS.2.2 dX1_lastHeir_39
        · obtain ⟨y, hy, ey⟩ := hR_pos (hH j hj) c_30
          refine lv_iload_n hx hb dX1_lastHeir_33 rfl (lv_at hl 0 rfl) ?_
          refine lv_iload_n hx hb dX1_lastHeir_34 rfl (lv_at hl 2 rfl) ?_
          refine lv_icmp_ne (tgt := 40) hx hb dX1_lastHeir_35 (by decide) (fun c_35 => ?_) (fun c_35 => ?_)
          · refine lv_aload_n hx hb dX1_lastHeir_40 rfl (lv_at hl 1 rfl) ?_
            refine qg_ps hC hK hP mF_X1_9 dX1_lastHeir_41 ?_
            refine lv_iload_n hx hb dX1_lastHeir_44 rfl (lv_at hl 0 rfl) ?_
            refine qr_p y hC hK hP hG ey (by first | assumption | omega) (by omega) dX1_lastHeir_45 ?_
            refine lv_iconst (v := 0) hx hb dX1_lastHeir_46 (by decide) ?_
            refine ql_lv y hC hK hP (by first | assumption | omega) nI_0.symm dX1_lastHeir_47 ?_
            refine lv_iconst (v := 1) hx hb dX1_lastHeir_48 (by decide) ?_
            refine lv_icmp_ne (tgt := 10) hx hb dX1_lastHeir_49 (by decide) (fun c_49 => ?_) (fun c_49 => ?_)
            · rw [ey] at hl
              exact ih10 y (upd g j 1) hy (by rw [nc_upd c_13 (by decide), if_pos hj]; omega) (hI_on hn hi hj hI c_13 ey hy (fun q9 => c_35 (by rw [ey, q9])) ((h01 y hy).resolve_right c_49)) _ _ hP hD hS _ (lv_sub hl [1, 2, 3, 0] rfl)
            · refine lv_iload_n hx hb dX1_lastHeir_52 rfl (lv_at hl 0 rfl) ?_
              have hP : va_P D vwCl (F ++ (qW z cG b rp rw rm lv lk pu fa he n nv du w mp mi k nt fu re ++ M)) H := wj_Pr (X := [(q5, .inl (z.2, n, .inl (upd g j 1)))]) hP
              have hD : va_D A (F ++ (qW z cG b rp rw rm lv lk pu fa he n nv du w mp mi k nt fu re ++ M)) := wj_Dr (X := [(q5, .inl (z.2, n, .inl (upd g j 1)))]) hD
              refine W.widen (k := 1) (n := 10) (by omega) (by omega) ?_
              exact W.iret (v := he j) hx hb hr (fun t ht hW => ⟨⟨he j, (), rfl, (by rw [ey]; exact hI_here hn hi hj hI c_13 ey hy (fun q9 => c_35 (by rw [ey, q9])) (by rw [c_49]; decide)), by rw [ht]; exact hP, hD⟩, hS.F ht⟩) hS.2.2 dX1_lastHeir_53
          · refine lv_iconst (v := (-1)) hx hb dX1_lastHeir_38 (by decide) ?_
            have hP : va_P D vwCl (F ++ (qW z cG b rp rw rm lv lk pu fa he n nv du w mp mi k nt fu re ++ M)) H := wj_Pr (X := [(q5, .inl (z.2, n, .inl (upd g j 1)))]) hP
            have hD : va_D A (F ++ (qW z cG b rp rw rm lv lk pu fa he n nv du w mp mi k nt fu re ++ M)) := wj_Dr (X := [(q5, .inl (z.2, n, .inl (upd g j 1)))]) hD
            refine W.widen (k := 1) (n := 10) (by omega) (by omega) ?_
            exact W.iret (v := (-1)) hx hb hr (fun t ht hW => ⟨⟨(-1), (), rfl, (hI_none hI (Or.inr c_35)), by rw [ht]; exact hP, hD⟩, hS.F ht⟩) hS.2.2 dX1_lastHeir_39
  exact loop_10 (n + 1) i (fun _ => 0) hi (by rw [nc_0]; omega) hI_0 _ _ hP hD hS _ (lv_sub hl [2, 3, 1, 0] rfl)
set_option maxRecDepth 100000 in
theorem k_X1_lastHeir {p : Program} {l : Launch} {e : Env} {R : Room} {s : State} {m : MethodId} {args : Array Value} {below : List Frame} {meth : Method} {c : Code} {H : Heap} {locs : List Loc} {cells slots : Nat} {Q : State → Prop} {cc : ByteArray} {nL pc : Nat} {ls : Array Slot} {rest : List Value} {A : Nat → Prop} {H0 : Heap} {own : String} {D : va_G} {z : ClassId × ClassId} {cG : ClassId} {F M : va_W} {b : Nat → Nat} {rp : Nat → Nat} {rw : Nat → Nat} {rm : Nat → Nat} {lv : Nat → Int32} {lk : Nat → Int32} {pu : Nat → Int32} {fa : Nat → Int32} {he : Nat → Int32} {n : Nat} {nv : Nat → Int32} {du : Nat → Int32} {w : Nat} {mp : Nat → Int32} {mi : Nat → Int32} {k : Nat} {nt : Int32} {fu : Int32} {re : Int32} {i : Nat} {idx : Nat} (hC : CallFix p m c cc nL s args lw_all own) (hk : Cond.methodLink own idx yX1_lastHeir ∈ lw_all) (hK : kK D z s) (hG : kG cG s) (hP : va_P D vwCl (F ++ (qW z cG b rp rw rm lv lk pu fa he n nv du w mp mi k nt fu re ++ M)) H) (hD : va_D A (F ++ (qW z cG b rp rw rm lv lk pu fa he n nv du w mp mi k nt fu re ++ M))) (hS : va_S A H0 H locs) (hA : ∀ q : Nat, H0.size ≤ q → A q) (hl : ls.size = nL) (hR : 1 ≤ R.frames ∧ 23 ≤ R.locals) (hz : cells + 1 ≤ R.cells ∧ slots + 10 ≤ R.slots) (hr : (rest.map fun v => v.category).sum ≤ 8)  (hi : i < n) (hn : n ≤ 10) (hH : heirR he n) (h01 : bZ lv n) (hdg : decode cc pc = .ok (.invokevirtual idx, 3)) (kk : ∀ (H1 : Heap) (locs1 : List Loc), va_P D vwCl (F ++ (qW z cG b rp rw rm lv lk pu fa he n nv du w mp mi k nt fu re ++ M)) H1 → va_D A (F ++ (qW z cG b rp rw rm lv lk pu fa he n nv du w mp mi k nt fu re ++ M)) → va_S A H0 H1 locs1 → W p l e R s m args below meth c H1 locs1 (cells + 1) (slots + 10) Q (F0 m (pc + 3) ls (.int (sp_heir he lv n i n (he i)) :: rest))) : W p l e R s m args below meth c H locs cells slots Q (F0 m pc ls (.int (nI i) :: .ref (b 0) :: rest)) := by
  have hF := wj_F hD hS hA
  refine va_calli (va_runV (As := [.int (nI i)]) (rest := rest) hC (c_X1_lastHeir l H.size i hi hn hH h01) (cwV 1 hC.2.2.2.2 (gi_V hk mV_X1_lastHeir mS_X1_lastHeir mI_Sim mC_X1_lastHeir) rfl rfl rfl (by decide +kernel) hR) ⟨fun a1 U g mk q9 => ⟨q9.1, q9.2.1, qI.call q9.2.2.1, q9.2.2.2.1, trivial⟩, q_recv hK hP, fun U hU hW => ⟨rfl, by rw [hU], qI.into hK hG hP hU hW, hD.weaken (fun _ _ _ _ => trivial), trivial⟩⟩ rfl rfl hl rfl (lv_room hr) hdg hz) hS (fun q _ h => hF q h) hF (fun r u t H1 locs1 ht hvm hw hB hz1 hk1 hS1 => ?_)
  obtain ⟨hP1, hD1⟩ := hB
  rw [ht] at hP1
  have hw : r = sp_heir he lv n i n (he i) := hw
  rw [hw]
  exact kk H1 locs1 hP1 (hD1.weaken (fun _ q9 _ h => hF q9.1 h)) hS1
set_option maxHeartbeats 4000000 in
set_option maxRecDepth 100000 in
theorem c_X1_certify (l : Launch) (sz : Nat) {D : va_G} {z : ClassId × ClassId} {cG : ClassId} {F M : va_W} {b : Nat → Nat} {rp : Nat → Nat} {rw : Nat → Nat} {rm : Nat → Nat} {lv : Nat → Int32} {lk : Nat → Int32} {pu : Nat → Int32} {fa : Nat → Int32} {he : Nat → Int32} {n : Nat} {nv : Nat → Int32} {du : Nat → Int32} {w : Nat} {mp : Nat → Int32} {mi : Nat → Int32} {k : Nat} {nt : Int32} {fu : Int32} {re : Int32} (bb : Int32) (hw : w ≤ 6) : Met l yX1_certify (ws_ yX1_certify cX1_certify 10 (some .int)) ({ frames := 1, cells := 1, slots := 6, locals := 22 } : Room) (va_Pc [.ref (b 0), .int bb] (fun U => U.heap.size = sz ∧ qI D z cG (F ++ (qW z cG b rp rw rm lv lk pu fa he n nv du w mp mi k nt fu re ++ M)) U ∧ va_D (fun _ => True) (F ++ (qW z cG b rp rw rm lv lk pu fa he n nv du w mp mi k nt fu re ++ M)) ∧ True)) (va_Qi (fun (r : Int32) (u : Unit) => r = sp_mid du nv bb (fun _ => 0) w) (fun u t9 => va_P D vwCl (F ++ (qW z cG b rp rw rm lv lk pu fa he n nv du w mp mi k nt fu re ++ M)) t9.heap ∧ va_D (va_A (F ++ (qW z cG b rp rw rm lv lk pu fa he n nv du w mp mi k nt fu re ++ M)) sz) (F ++ (qW z cG b rp rw rm lv lk pu fa he n nv du w mp mi k nt fu re ++ M))) (va_A (F ++ (qW z cG b rp rw rm lv lk pu fa he n nv du w mp mi k nt fu re ++ M)) sz)) 1 6 (va_A (F ++ (qW z cG b rp rw rm lv lk pu fa he n nv du w mp mi k nt fu re ++ M)) sz) := by
  refine Met.ofW (cc := cX1_certify) (maxL := 10) (ret := (some .int)) (by decide) rfl ?_
  intro p e s m args below meth c s₁ B hml hv
  obtain ⟨rfl, hsz, ⟨hP, hK, hG⟩, hD0, -⟩ := hv
  have hx := B.exec
  have hb := B.bytes
  have hr := B.returns
  have hts := atoms_spec (ws := ws_ yX1_certify cX1_certify 10 (some .int)) B.pre
  have hts : ∀ w ∈ lw_all, w.before _ s = true := fun w h => hts w (List.mem_cons_of_mem _ h)
  have hown : s.vm.findClass RX1 = some m.cls := findClass_of_methodNamed B.named
  have hlocks := B.notSynchronized
  have hC : CallFix p m c cX1_certify 10 s _ lw_all RX1 := ⟨hx, hb, hml, hown, hts⟩
  subst hsz
  have hD := hD0.self (sz := s.heap.size)
  generalize hAe : va_A (F ++ (qW z cG b rp rw rm lv lk pu fa he n nv du w mp mi k nt fu re ++ M)) s.heap.size = A at hD ⊢
  have hA : ∀ q : Nat, s.heap.size ≤ q → A q := fun q h => by rw [← hAe]; exact Or.inr h
  have hS : va_S A s.heap s.heap [] := va_S.rf
  have hl := lv_entry ([.ref (b 0), .int bb]) (n := 10) (Nat.le_of_ble_eq_true rfl)
  rw [lg_entry_eq]
  generalize (lg_sl ([.ref (b 0), .int bb]) ++ List.replicate (10 - (lg_sl ([.ref (b 0), .int bb])).length) Slot.unset).toArray = ls at hl ⊢
  have hl : lv_has ls 10 [(0, .ref (b 0)), (1, .int bb)] := hl
  refine lv_aload_n hx hb dX1_certify_0 rfl (lv_at hl 0 rfl) ?_
  refine qg_ws hC hK hP mF_X1_15 dX1_certify_1 ?_
  refine qlen_w hC hK hP hG dX1_certify_4 ?_
  refine qn_i hC hK hP hD hS hA (N := w) rfl (by omega) (by show _ ≤ 1; omega) (by show _ ≤ 6; omega) dX1_certify_5 (fun q5 H hP hD hS => ?_)
  have hP : va_P D vwCl (((q5, .inl (z.1, w, .inl (fun _ => 0))) :: F) ++ (qW z cG b rp rw rm lv lk pu fa he n nv du w mp mi k nt fu re ++ M)) H := hP
  have hD : va_D A (((q5, .inl (z.1, w, .inl (fun _ => 0))) :: F) ++ (qW z cG b rp rw rm lv lk pu fa he n nv du w mp mi k nt fu re ++ M)) := hD
  refine lv_astore_n (lv' := [(2, .ref q5), (0, .ref (b 0)), (1, .int bb)]) hx hb dX1_certify_7 rfl hl (by decide) rfl (fun ls hl => ?_)
  refine lv_iconst (v := 0) hx hb dX1_certify_8 (by decide) ?_
  refine lv_istore_n (lv' := [(3, .int 0), (2, .ref q5), (0, .ref (b 0)), (1, .int bb)]) hx hb dX1_certify_9 rfl hl (by decide) rfl (fun ls hl => ?_)
  refine lv_aload_n hx hb dX1_certify_10 rfl (lv_at hl 2 rfl) ?_
  refine qg_ws hC hK hP mF_X1_15 dX1_certify_11 ?_
  refine lv_astore (lv' := [(4, .ref (b 2)), (3, .int 0), (2, .ref q5), (0, .ref (b 0)), (1, .int bb)]) hx hb dX1_certify_14 hl (by decide) rfl (fun ls hl => ?_)
  refine lv_aload hx hb dX1_certify_16 (lv_at hl 0 rfl) ?_
  refine qlen_w hC hK hP hG dX1_certify_18 ?_
  refine lv_istore (lv' := [(5, .int (nI w)), (4, .ref (b 2)), (3, .int 0), (2, .ref q5), (0, .ref (b 0)), (1, .int bb)]) hx hb dX1_certify_19 hl (by decide) rfl (fun ls hl => ?_)
  refine lv_iconst (v := 0) hx hb dX1_certify_21 (by decide) ?_
  refine lv_istore (lv' := [(6, .int 0), (5, .int (nI w)), (4, .ref (b 2)), (3, .int 0), (2, .ref q5), (0, .ref (b 0)), (1, .int bb)]) hx hb dX1_certify_22 hl (by decide) rfl (fun ls hl => ?_)
  have outer_24 : ∀ (f : Nat) (j : Nat), j ≤ w → w + 1 ≤ j + f → ∀ (H : Heap) (locs : List Loc), va_P D vwCl (((q5, .inl (z.1, w, .inl (sp_tarr du nv bb (fun _ => 0) j))) :: F) ++ (qW z cG b rp rw rm lv lk pu fa he n nv du w mp mi k nt fu re ++ M)) H → va_D A (((q5, .inl (z.1, w, .inl (sp_tarr du nv bb (fun _ => 0) j))) :: F) ++ (qW z cG b rp rw rm lv lk pu fa he n nv du w mp mi k nt fu re ++ M)) → va_S A s.heap H locs → ∀ ls : Array Slot, lv_has ls 10 [(0, .ref (b 0)), (1, .int bb), (2, .ref q5), (3, .int (nI (sp_tn du nv j))), (4, .ref (b 2)), (5, .int (nI w)), (6, .int (nI j))] → W p l e ({ frames := 1, cells := 1, slots := 6, locals := 22 } : Room) s m ([.ref (b 0), .int bb] : List Value).toArray below meth c H locs (0 + 1) (0 + w) (MQ below (va_Qi (fun (r : Int32) (u : Unit) => r = sp_mid du nv bb (fun _ => 0) w) (fun u t9 => va_P D vwCl (F ++ (qW z cG b rp rw rm lv lk pu fa he n nv du w mp mi k nt fu re ++ M)) t9.heap ∧ va_D A (F ++ (qW z cG b rp rw rm lv lk pu fa he n nv du w mp mi k nt fu re ++ M))) A) ([.ref (b 0), .int bb] : List Value).toArray s 1 6 A) (F0 m 24 ls []) := by
    intro f
    induction f with
    | zero =>
      intro j hj hf
      exact absurd hf (by omega)
    | succ f ih24 =>
      intro j hj hf H locs hP hD hS ls hl
      refine lv_iload hx hb dX1_certify_24 (lv_at hl 6 rfl) ?_
      refine lv_iload hx hb dX1_certify_26 (lv_at hl 5 rfl) ?_
      refine lv_icmp_ge (tgt := 111) hx hb dX1_certify_28 (by decide) (fun c_28 => ?_) (fun c_28 => ?_)
      · have nc_28 : w ≤ j := nn_le (by omega) c_28
        have ej : j = w := by omega
        rw [ej] at hl
        rw [ej] at hP hD
        have hw9 := tn_max (du := du) (nv := nv) w
        refine lv_iload_n hx hb dX1_certify_111 rfl (lv_at hl 3 rfl) ?_
        refine lv_if_ne (tgt := 119) hx hb dX1_certify_112 (by decide) (fun c_112 => ?_) (fun c_112 => ?_)
        · have nc_112 : ¬ (sp_tn du nv w) = 0 := nn_ne (by omega) c_112
          have h0 : 0 < sp_tn du nv w := Nat.pos_of_ne_zero (fun q9 => c_112 (by rw [q9]; rfl))
          refine lv_aload_n hx hb dX1_certify_119 rfl (lv_at hl 2 rfl) ?_
          refine lv_iload_n hx hb dX1_certify_120 rfl (lv_at hl 3 rfl) ?_
          refine lv_iconst (v := 1) hx hb dX1_certify_121 (by decide) ?_
          refine lv_isub hx hb dX1_certify_122 ?_
          refine lv_iconst (v := 2) hx hb dX1_certify_123 (by decide) ?_
          refine lv_idiv hx hb dX1_certify_124 (by decide) ?_
          refine qi_ld (q0 := 0) (L := w) (g := (sp_tarr du nv bb (fun _ => 0) w)) ((sp_tn du nv w - 1) / 2) hC hK hP rfl (ix_mid h0 (by have := tn_max (du := du) (nv := nv) w; omega)) (by have := tn_max (du := du) (nv := nv) w; omega) (by omega) dX1_certify_125 ?_
          have hP : va_P D vwCl (F ++ (qW z cG b rp rw rm lv lk pu fa he n nv du w mp mi k nt fu re ++ M)) H := wj_Pr (X := [(q5, .inl (z.1, w, .inl (sp_tarr du nv bb (fun _ => 0) w)))]) hP
          have hD : va_D A (F ++ (qW z cG b rp rw rm lv lk pu fa he n nv du w mp mi k nt fu re ++ M)) := wj_Dr (X := [(q5, .inl (z.1, w, .inl (sp_tarr du nv bb (fun _ => 0) w)))]) hD
          refine W.widen (k := 1) (n := 6) (by omega) (by omega) ?_
          exact W.iret (v := (sp_tarr du nv bb (fun _ => 0) w) ((sp_tn du nv w - 1) / 2)) hx hb hr (fun t ht hW => ⟨⟨(sp_tarr du nv bb (fun _ => 0) w) ((sp_tn du nv w - 1) / 2), (), rfl, (by unfold sp_mid; rw [if_neg (by omega)]), by rw [ht]; exact hP, hD⟩, hS.F ht⟩) hS.2.2 dX1_certify_126
        · have nc_112 : (sp_tn du nv w) = 0 := nn_eq (by omega) c_112
          have h0 : sp_tn du nv w = 0 := nn_eq (b := 0) (by have := tn_max (du := du) (nv := nv) w; omega) c_112
          refine lv_iconst (v := 0) hx hb dX1_certify_115 (by decide) ?_
          refine lv_goto (tgt := 126) hx hb dX1_certify_116 (by decide) ?_
          have hP : va_P D vwCl (F ++ (qW z cG b rp rw rm lv lk pu fa he n nv du w mp mi k nt fu re ++ M)) H := wj_Pr (X := [(q5, .inl (z.1, w, .inl (sp_tarr du nv bb (fun _ => 0) w)))]) hP
          have hD : va_D A (F ++ (qW z cG b rp rw rm lv lk pu fa he n nv du w mp mi k nt fu re ++ M)) := wj_Dr (X := [(q5, .inl (z.1, w, .inl (sp_tarr du nv bb (fun _ => 0) w)))]) hD
          refine W.widen (k := 1) (n := 6) (by omega) (by omega) ?_
          exact W.iret (v := 0) hx hb hr (fun t ht hW => ⟨⟨0, (), rfl, (by unfold sp_mid; rw [if_pos h0]), by rw [ht]; exact hP, hD⟩, hS.F ht⟩) hS.2.2 dX1_certify_126
      · have nc_28 : j < w := nn_nle (by omega) c_28
        have hjw : j < w := by omega
        have hw6 := tn_max (du := du) (nv := nv) j
        refine lv_aload hx hb dX1_certify_31 (lv_at hl 4 rfl) ?_
        refine lv_iload hx hb dX1_certify_33 (lv_at hl 6 rfl) ?_
        refine qr_w j hC hK hP hG rfl (by first | assumption | omega) (by omega) dX1_certify_35 ?_
        refine lv_astore (lv' := [(7, .ref (rw j)), (0, .ref (b 0)), (1, .int bb), (2, .ref q5), (3, .int (nI (sp_tn du nv j))), (4, .ref (b 2)), (5, .int (nI w)), (6, .int (nI j))]) hx hb dX1_certify_36 hl (by decide) rfl (fun ls hl => ?_)
        refine lv_aload hx hb dX1_certify_38 (lv_at hl 0 rfl) ?_
        refine lv_iload_n hx hb dX1_certify_40 rfl (lv_at hl 2 rfl) ?_
        refine k_X1_tells hC mM_X1_21 hK hG hP (wj_rt (X := ((q5, .inl (z.1, w, .inl (sp_tarr du nv bb (fun _ => 0) j))) :: F)) (qW_w (by first | assumption | omega))) hl.1 ⟨Nat.le_of_ble_eq_true rfl, Nat.le_of_ble_eq_true rfl⟩ ⟨(by show _ ≤ 1; omega), (by show _ ≤ 6; omega)⟩ (Nat.le_of_ble_eq_true rfl) dX1_certify_41 ?_
        refine lv_istore (lv' := [(8, .int (sp_tale (nv j) bb)), (7, .ref (rw j)), (0, .ref (b 0)), (1, .int bb), (2, .ref q5), (3, .int (nI (sp_tn du nv j))), (4, .ref (b 2)), (5, .int (nI w)), (6, .int (nI j))]) hx hb dX1_certify_44 hl (by decide) rfl (fun ls hl => ?_)
        refine lv_aload hx hb dX1_certify_46 (lv_at hl 1 rfl) ?_
        refine lv_iconst (v := 1) hx hb dX1_certify_48 (by decide) ?_
        refine ql_du j hC hK hP (by first | assumption | omega) rfl dX1_certify_49 ?_
        refine lv_if_eq (tgt := 105) hx hb dX1_certify_50 (by decide) (fun c_50 => ?_) (fun c_50 => ?_)
        · refine lv_iinc (v := nI (j + 1)) (lv' := [(6, .int (nI (j + 1))), (8, .int (sp_tale (nv j) bb)), (7, .ref (rw j)), (0, .ref (b 0)), (1, .int bb), (2, .ref q5), (3, .int (nI (sp_tn du nv j))), (4, .ref (b 2)), (5, .int (nI w))]) hx hb dX1_certify_105 hl (k := 8) rfl (nI_1 _) (by decide) rfl (fun ls hl => ?_)
          refine lv_goto (tgt := 24) hx hb dX1_certify_108 (by decide) ?_
          have en : sp_tn du nv (j + 1) = sp_tn du nv j := by simp only [sp_tn]; rw [if_pos c_50]
          have et : sp_tarr du nv bb (fun _ => 0) (j + 1) = sp_tarr du nv bb (fun _ => 0) j := by simp only [sp_tarr]; rw [if_pos c_50]
          rw [← en] at hl
          rw [← et] at hP hD
          exact ih24 (j + 1) (by omega) (by omega) _ _ hP hD hS _ (lv_sub hl [3, 4, 5, 6, 7, 8, 0] rfl)
        · refine lv_iload hx hb dX1_certify_53 (lv_at hl 0 rfl) ?_
          refine lv_if_ne (tgt := 61) hx hb dX1_certify_55 (by decide) (fun c_55 => ?_) (fun c_55 => ?_)
          · have h8 : sp_sh (nv j) = 0 := Classical.byContradiction fun q9 => c_55 (tale_iff.mpr q9)
            refine lv_iload_n hx hb dX1_certify_61 rfl (lv_at hl 5 rfl) ?_
            refine lv_istore (lv' := [(9, .int (nI (sp_tn du nv j))), (8, .int (sp_tale (nv j) bb)), (7, .ref (rw j)), (0, .ref (b 0)), (1, .int bb), (2, .ref q5), (3, .int (nI (sp_tn du nv j))), (4, .ref (b 2)), (5, .int (nI w)), (6, .int (nI j))]) hx hb dX1_certify_62 hl (by decide) rfl (fun ls hl => ?_)
            have inner_64 : ∀ (f : Nat) (pq : Nat) (g : Nat → Int32), pq ≤ sp_tn du nv j → pq + 1 ≤ f → sp_ins (sp_tale (nv j) bb) pq g = sp_ins (sp_tale (nv j) bb) (sp_tn du nv j) (sp_tarr du nv bb (fun _ => 0) j) → ∀ (H : Heap) (locs : List Loc), va_P D vwCl (((q5, .inl (z.1, w, .inl g)) :: F) ++ (qW z cG b rp rw rm lv lk pu fa he n nv du w mp mi k nt fu re ++ M)) H → va_D A (((q5, .inl (z.1, w, .inl g)) :: F) ++ (qW z cG b rp rw rm lv lk pu fa he n nv du w mp mi k nt fu re ++ M)) → va_S A s.heap H locs → ∀ ls : Array Slot, lv_has ls 10 [(0, .ref (b 0)), (1, .int bb), (2, .ref q5), (3, .int (nI (sp_tn du nv j))), (4, .ref (b 2)), (5, .int (nI w)), (6, .int (nI j)), (8, .int (sp_tale (nv j) bb)), (9, .int (nI pq))] → W p l e ({ frames := 1, cells := 1, slots := 6, locals := 22 } : Room) s m ([.ref (b 0), .int bb] : List Value).toArray below meth c H locs (0 + 1) (0 + w) (MQ below (va_Qi (fun (r : Int32) (u : Unit) => r = sp_mid du nv bb (fun _ => 0) w) (fun u t9 => va_P D vwCl (F ++ (qW z cG b rp rw rm lv lk pu fa he n nv du w mp mi k nt fu re ++ M)) t9.heap ∧ va_D A (F ++ (qW z cG b rp rw rm lv lk pu fa he n nv du w mp mi k nt fu re ++ M))) A) ([.ref (b 0), .int bb] : List Value).toArray s 1 6 A) (F0 m 64 ls []) := by
              intro f
              induction f with
              | zero =>
                intro pq g hp hf2 ep
                exact absurd hf2 (by omega)
              | succ f ih64 =>
                intro pq g hp hf2 ep H locs hP hD hS ls hl
                refine lv_iload hx hb dX1_certify_64 (lv_at hl 8 rfl) ?_
                refine lv_if_le (tgt := 96) hx hb dX1_certify_66 (by decide) (fun c_66 => ?_) (fun c_66 => ?_)
                · have nc_66 : pq ≤ 0 := nn_le (by omega) c_66
                  have hp0 : pq = 0 := by omega
                  refine lv_aload_n hx hb dX1_certify_96 rfl (lv_at hl 2 rfl) ?_
                  refine lv_iload hx hb dX1_certify_97 (lv_at hl 8 rfl) ?_
                  refine lv_iload hx hb dX1_certify_99 (lv_at hl 7 rfl) ?_
                  refine qi_st (q0 := 0) (L := w) (g := g) pq hC hK hP hD hS rfl rfl (by omega) (by omega) dX1_certify_101 (fun H locs hP hD hS => ?_)
                  have hP : va_P D vwCl (((q5, .inl (z.1, w, .inl (upd g pq (sp_tale (nv j) bb)))) :: F) ++ (qW z cG b rp rw rm lv lk pu fa he n nv du w mp mi k nt fu re ++ M)) H := hP
                  have hD : va_D A (((q5, .inl (z.1, w, .inl (upd g pq (sp_tale (nv j) bb)))) :: F) ++ (qW z cG b rp rw rm lv lk pu fa he n nv du w mp mi k nt fu re ++ M)) := hD
                  refine lv_iinc (v := nI ((sp_tn du nv j) + 1)) (lv' := [(3, .int (nI ((sp_tn du nv j) + 1))), (0, .ref (b 0)), (1, .int bb), (2, .ref q5), (4, .ref (b 2)), (5, .int (nI w)), (6, .int (nI j)), (8, .int (sp_tale (nv j) bb)), (9, .int (nI pq))]) hx hb dX1_certify_102 hl (k := 3) rfl (nI_1 _) (by decide) rfl (fun ls hl => ?_)
                  refine lv_iinc (v := nI (j + 1)) (lv' := [(6, .int (nI (j + 1))), (3, .int (nI ((sp_tn du nv j) + 1))), (0, .ref (b 0)), (1, .int bb), (2, .ref q5), (4, .ref (b 2)), (5, .int (nI w)), (8, .int (sp_tale (nv j) bb)), (9, .int (nI pq))]) hx hb dX1_certify_105 hl (k := 6) rfl (nI_1 _) (by decide) rfl (fun ls hl => ?_)
                  refine lv_goto (tgt := 24) hx hb dX1_certify_108 (by decide) ?_
                  have en : sp_tn du nv (j + 1) = sp_tn du nv j + 1 := by simp only [sp_tn]; rw [if_neg c_50, if_pos h8]
                  have et : sp_tarr du nv bb (fun _ => 0) (j + 1) = sp_ins (sp_tale (nv j) bb) (sp_tn du nv j) (sp_tarr du nv bb (fun _ => 0) j) := by simp only [sp_tarr]; rw [if_neg c_50, if_pos h8]
                  rw [← en] at hl
                  rw [show upd g pq (sp_tale (nv j) bb) = sp_tarr du nv bb (fun _ => 0) (j + 1) from (by rw [et, ← ep, hp0]; rfl)] at hP hD
                  exact ih24 (j + 1) (by omega) (by omega) _ _ hP hD hS _ (lv_sub hl [2, 3, 4, 1, 5, 6, 0] rfl)
                · have nc_66 : 0 < pq := nn_nle (by omega) c_66
                  have hp0 : 0 < pq := by omega
                  refine lv_aload_n hx hb dX1_certify_69 rfl (lv_at hl 2 rfl) ?_
                  refine lv_iload hx hb dX1_certify_70 (lv_at hl 8 rfl) ?_
                  refine lv_iconst (v := 1) hx hb dX1_certify_72 (by decide) ?_
                  refine lv_isub hx hb dX1_certify_73 ?_
                  refine qi_ld (q0 := 0) (L := w) (g := g) (pq - 1) hC hK hP rfl (ix_s1 hp0) (by omega) (by omega) dX1_certify_74 ?_
                  refine lv_iload hx hb dX1_certify_75 (lv_at hl 7 rfl) ?_
                  refine lv_icmp_le (tgt := 96) hx hb dX1_certify_77 (by decide) (fun c_77 => ?_) (fun c_77 => ?_)
                  · refine lv_aload_n hx hb dX1_certify_96 rfl (lv_at hl 2 rfl) ?_
                    refine lv_iload hx hb dX1_certify_97 (lv_at hl 8 rfl) ?_
                    refine lv_iload hx hb dX1_certify_99 (lv_at hl 7 rfl) ?_
                    refine qi_st (q0 := 0) (L := w) (g := g) pq hC hK hP hD hS rfl rfl (by omega) (by omega) dX1_certify_101 (fun H locs hP hD hS => ?_)
                    have hP : va_P D vwCl (((q5, .inl (z.1, w, .inl (upd g pq (sp_tale (nv j) bb)))) :: F) ++ (qW z cG b rp rw rm lv lk pu fa he n nv du w mp mi k nt fu re ++ M)) H := hP
                    have hD : va_D A (((q5, .inl (z.1, w, .inl (upd g pq (sp_tale (nv j) bb)))) :: F) ++ (qW z cG b rp rw rm lv lk pu fa he n nv du w mp mi k nt fu re ++ M)) := hD
                    refine lv_iinc (v := nI ((sp_tn du nv j) + 1)) (lv' := [(3, .int (nI ((sp_tn du nv j) + 1))), (0, .ref (b 0)), (1, .int bb), (2, .ref q5), (4, .ref (b 2)), (5, .int (nI w)), (6, .int (nI j)), (8, .int (sp_tale (nv j) bb)), (9, .int (nI pq))]) hx hb dX1_certify_102 hl (k := 3) rfl (nI_1 _) (by decide) rfl (fun ls hl => ?_)
                    refine lv_iinc (v := nI (j + 1)) (lv' := [(6, .int (nI (j + 1))), (3, .int (nI ((sp_tn du nv j) + 1))), (0, .ref (b 0)), (1, .int bb), (2, .ref q5), (4, .ref (b 2)), (5, .int (nI w)), (8, .int (sp_tale (nv j) bb)), (9, .int (nI pq))]) hx hb dX1_certify_105 hl (k := 6) rfl (nI_1 _) (by decide) rfl (fun ls hl => ?_)
                    refine lv_goto (tgt := 24) hx hb dX1_certify_108 (by decide) ?_
                    have en : sp_tn du nv (j + 1) = sp_tn du nv j + 1 := by simp only [sp_tn]; rw [if_neg c_50, if_pos h8]
                    have et : sp_tarr du nv bb (fun _ => 0) (j + 1) = sp_ins (sp_tale (nv j) bb) (sp_tn du nv j) (sp_tarr du nv bb (fun _ => 0) j) := by simp only [sp_tarr]; rw [if_neg c_50, if_pos h8]
                    rw [← en] at hl
                    rw [show upd g pq (sp_tale (nv j) bb) = sp_tarr du nv bb (fun _ => 0) (j + 1) from (by rw [et, ← ep, ins_ge hp0 c_77])] at hP hD
                    exact ih24 (j + 1) (by omega) (by omega) _ _ hP hD hS _ (lv_sub hl [2, 3, 4, 1, 5, 6, 0] rfl)
                  · refine lv_aload_n hx hb dX1_certify_80 rfl (lv_at hl 2 rfl) ?_
                    refine lv_iload hx hb dX1_certify_81 (lv_at hl 8 rfl) ?_
                    refine lv_aload_n hx hb dX1_certify_83 rfl (lv_at hl 2 rfl) ?_
                    refine lv_iload hx hb dX1_certify_84 (lv_at hl 8 rfl) ?_
                    refine lv_iconst (v := 1) hx hb dX1_certify_86 (by decide) ?_
                    refine lv_isub hx hb dX1_certify_87 ?_
                    refine qi_ld (q0 := 0) (L := w) (g := g) (pq - 1) hC hK hP rfl (ix_s1 hp0) (by omega) (by omega) dX1_certify_88 ?_
                    refine qi_st (q0 := 0) (L := w) (g := g) pq hC hK hP hD hS rfl rfl (by omega) (by omega) dX1_certify_89 (fun H locs hP hD hS => ?_)
                    have hP : va_P D vwCl (((q5, .inl (z.1, w, .inl (upd g pq (g (pq - 1))))) :: F) ++ (qW z cG b rp rw rm lv lk pu fa he n nv du w mp mi k nt fu re ++ M)) H := hP
                    have hD : va_D A (((q5, .inl (z.1, w, .inl (upd g pq (g (pq - 1))))) :: F) ++ (qW z cG b rp rw rm lv lk pu fa he n nv du w mp mi k nt fu re ++ M)) := hD
                    refine lv_iinc (v := nI (pq - 1)) (lv' := [(9, .int (nI (pq - 1))), (0, .ref (b 0)), (1, .int bb), (2, .ref q5), (3, .int (nI (sp_tn du nv j))), (4, .ref (b 2)), (5, .int (nI w)), (6, .int (nI j)), (8, .int (sp_tale (nv j) bb))]) hx hb dX1_certify_90 hl (k := 8) rfl (ix_m1 hp0) (by decide) rfl (fun ls hl => ?_)
                    refine lv_goto (tgt := 64) hx hb dX1_certify_93 (by decide) ?_
                    exact ih64 (pq - 1) (upd g pq (g (pq - 1))) (by omega) (by omega) (by rw [← ep, ins_lt hp0 c_77]) _ _ hP hD hS _ (lv_sub hl [1, 2, 3, 4, 5, 6, 7, 8, 0] rfl)
            exact inner_64 (sp_tn du nv j + 1) (sp_tn du nv j) (sp_tarr du nv bb (fun _ => 0) j) (Nat.le_refl _) (by omega) rfl _ _ hP hD hS _ (lv_sub hl [3, 4, 5, 6, 7, 8, 9, 1, 0] rfl)
          · refine lv_goto (tgt := 105) hx hb dX1_certify_58 (by decide) ?_
            refine lv_iinc (v := nI (j + 1)) (lv' := [(6, .int (nI (j + 1))), (8, .int (sp_tale (nv j) bb)), (7, .ref (rw j)), (0, .ref (b 0)), (1, .int bb), (2, .ref q5), (3, .int (nI (sp_tn du nv j))), (4, .ref (b 2)), (5, .int (nI w))]) hx hb dX1_certify_105 hl (k := 8) rfl (nI_1 _) (by decide) rfl (fun ls hl => ?_)
            refine lv_goto (tgt := 24) hx hb dX1_certify_108 (by decide) ?_
            have h8 := tale_iff.mp c_55
            have en : sp_tn du nv (j + 1) = sp_tn du nv j := by simp only [sp_tn]; rw [if_neg c_50, if_neg h8]
            have et : sp_tarr du nv bb (fun _ => 0) (j + 1) = sp_tarr du nv bb (fun _ => 0) j := by simp only [sp_tarr]; rw [if_neg c_50, if_neg h8]
            rw [← en] at hl
            rw [← et] at hP hD
            exact ih24 (j + 1) (by omega) (by omega) _ _ hP hD hS _ (lv_sub hl [3, 4, 5, 6, 7, 8, 0] rfl)
  exact outer_24 (w + 1) 0 (Nat.zero_le _) (by omega) _ _ hP hD hS _ (lv_sub hl [5, 6, 4, 3, 2, 1, 0] rfl)
set_option maxRecDepth 100000 in
theorem k_X1_certify {p : Program} {l : Launch} {e : Env} {R : Room} {s : State} {m : MethodId} {args : Array Value} {below : List Frame} {meth : Method} {c : Code} {H : Heap} {locs : List Loc} {cells slots : Nat} {Q : State → Prop} {cc : ByteArray} {nL pc : Nat} {ls : Array Slot} {rest : List Value} {A : Nat → Prop} {H0 : Heap} {own : String} {D : va_G} {z : ClassId × ClassId} {cG : ClassId} {F M : va_W} {b : Nat → Nat} {rp : Nat → Nat} {rw : Nat → Nat} {rm : Nat → Nat} {lv : Nat → Int32} {lk : Nat → Int32} {pu : Nat → Int32} {fa : Nat → Int32} {he : Nat → Int32} {n : Nat} {nv : Nat → Int32} {du : Nat → Int32} {w : Nat} {mp : Nat → Int32} {mi : Nat → Int32} {k : Nat} {nt : Int32} {fu : Int32} {re : Int32} {bb : Int32} {idx : Nat} (hC : CallFix p m c cc nL s args lw_all own) (hk : Cond.methodLink own idx yX1_certify ∈ lw_all) (hK : kK D z s) (hG : kG cG s) (hP : va_P D vwCl (F ++ (qW z cG b rp rw rm lv lk pu fa he n nv du w mp mi k nt fu re ++ M)) H) (hD : va_D A (F ++ (qW z cG b rp rw rm lv lk pu fa he n nv du w mp mi k nt fu re ++ M))) (hS : va_S A H0 H locs) (hA : ∀ q : Nat, H0.size ≤ q → A q) (hl : ls.size = nL) (hR : 2 ≤ R.frames ∧ 51 ≤ R.locals) (hz : cells + 1 ≤ R.cells ∧ slots + 6 ≤ R.slots) (hr : (rest.map fun v => v.category).sum ≤ 8)  (hw : w ≤ 6) (hdg : decode cc pc = .ok (.invokevirtual idx, 3)) (kk : ∀ (H1 : Heap) (locs1 : List Loc), va_P D vwCl (F ++ (qW z cG b rp rw rm lv lk pu fa he n nv du w mp mi k nt fu re ++ M)) H1 → va_D A (F ++ (qW z cG b rp rw rm lv lk pu fa he n nv du w mp mi k nt fu re ++ M)) → va_S A H0 H1 locs1 → W p l e R s m args below meth c H1 locs1 (cells + 1) (slots + 6) Q (F0 m (pc + 3) ls (.int (sp_mid du nv bb (fun _ => 0) w) :: rest))) : W p l e R s m args below meth c H locs cells slots Q (F0 m pc ls (.int bb :: .ref (b 0) :: rest)) := by
  have hF := wj_F hD hS hA
  refine va_calli (va_runV (As := [.int bb]) (rest := rest) hC (c_X1_certify l H.size bb hw) (cwV 1 hC.2.2.2.2 (gi_V hk mV_X1_certify mS_X1_certify mI_Sim mC_X1_certify) rfl rfl rfl (by decide +kernel) hR) ⟨fun a1 U g mk q9 => ⟨q9.1, q9.2.1, qI.call q9.2.2.1, q9.2.2.2.1, trivial⟩, q_recv hK hP, fun U hU hW => ⟨rfl, by rw [hU], qI.into hK hG hP hU hW, hD.weaken (fun _ _ _ _ => trivial), trivial⟩⟩ rfl rfl hl rfl (lv_room hr) hdg hz) hS (fun q _ h => hF q h) hF (fun r u t H1 locs1 ht hvm hw hB hz1 hk1 hS1 => ?_)
  obtain ⟨hP1, hD1⟩ := hB
  rw [ht] at hP1
  have hw : r = sp_mid du nv bb (fun _ => 0) w := hw
  rw [hw]
  exact kk H1 locs1 hP1 (hD1.weaken (fun _ q9 _ h => hF q9.1 h)) hS1

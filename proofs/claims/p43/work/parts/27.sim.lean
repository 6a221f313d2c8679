set_option maxHeartbeats 4000000 in
set_option maxRecDepth 100000 in
theorem c_X1_price (l : Launch) {D : va_G} {z : ClassId × ClassId} {cG : ClassId} {Wd : va_W} {q0 a9 : Nat} {g9 : Nat → Int32} (ha : Wd[q0]? = some (a9, .inl (z.1, 5, .inl g9)))  : Met l yX1_price (ws_ yX1_price cX1_price 1 (some .int)) ({ frames := 0, cells := 0, slots := 0, locals := 0 } : Room) (va_Pc [.ref a9] (fun U => qI D z cG Wd U)) (vp_Si (fun r : Int32 => r = sp_price (g9 1))) 0 0 (fun _ => False) := by
  refine Met.ofW (cc := cX1_price) (maxL := 1) (ret := (some .int)) (by decide) rfl ?_
  intro p e s m args below meth c s₁ B hml hv
  obtain ⟨rfl, ⟨hP, hK, hG⟩⟩ := hv
  have hx := B.exec
  have hb := B.bytes
  have hr := B.returns
  have hts := atoms_spec (ws := ws_ yX1_price cX1_price 1 (some .int)) B.pre
  have hts : ∀ w ∈ lw_all, w.before _ s = true := fun w h => hts w (List.mem_cons_of_mem _ h)
  have hown : s.vm.findClass RX1 = some m.cls := findClass_of_methodNamed B.named
  have hlocks := B.notSynchronized
  have hC : CallFix p m c cX1_price 1 s _ lw_all RX1 := ⟨hx, hb, hml, hown, hts⟩
  have hl := lv_entry ([.ref a9]) (n := 1) (Nat.le_of_ble_eq_true rfl)
  rw [lg_entry_eq]
  generalize (lg_sl ([.ref a9]) ++ List.replicate (1 - (lg_sl ([.ref a9])).length) Slot.unset).toArray = ls at hl ⊢
  have hl : lv_has ls 1 [(0, .ref a9)] := hl
  refine lv_iconst (v := 5) hx hb dX1_price_0 (by decide) ?_
  refine lv_bipush (v := 99) hx hb dX1_price_1 (by decide) ?_
  refine lv_aload_n hx hb dX1_price_3 rfl (lv_at hl 0 rfl) ?_
  refine lv_iconst (v := 1) hx hb dX1_price_4 (by decide) ?_
  refine qi_ld 1 hC hK hP ha rfl (by decide) (by decide) dX1_price_5 ?_
  refine lv_isub hx hb dX1_price_6 ?_
  refine lv_bipush (v := 10) hx hb dX1_price_7 (by decide) ?_
  refine lv_idiv hx hb dX1_price_9 (by decide) ?_
  refine lv_iadd hx hb dX1_price_10 ?_
  exact W.iret (v := 5 + ((99 - (g9 1)) / 10)) hx hb hr (fun t ht hW => ⟨5 + ((99 - (g9 1)) / 10), rfl, rfl, ht⟩) (fun q hq => absurd hq List.not_mem_nil) dX1_price_11
set_option maxRecDepth 100000 in
theorem k_X1_price {p : Program} {l : Launch} {e : Env} {R : Room} {s : State} {m : MethodId} {args : Array Value} {below : List Frame} {meth : Method} {c : Code} {H : Heap} {locs : List Loc} {cells slots : Nat} {Q : State → Prop} {cc : ByteArray} {nL pc : Nat} {ls : Array Slot} {rest : List Value} {own : String} {D : va_G} {z : ClassId × ClassId} {cG : ClassId} {Wd : va_W} {q0 a9 : Nat} {g9 : Nat → Int32}  {idx : Nat} (hC : CallFix p m c cc nL s args lw_all own) (hk : Cond.methodLink own idx yX1_price ∈ lw_all) (hK : kK D z s) (hG : kG cG s) (hP : va_P D vwCl (Wd) H) (ha : Wd[q0]? = some (a9, .inl (z.1, 5, .inl g9)))  (hl : ls.size = nL) (hR : 1 ≤ R.frames ∧ 20 ≤ R.locals) (hz : cells ≤ R.cells ∧ slots ≤ R.slots) (hr : (rest.map fun v => v.category).sum ≤ 8) (hdg : decode cc pc = .ok (.invokestatic idx, 3)) (kk : W p l e R s m args below meth c H locs cells slots Q (F0 m (pc + 3) ls (.int (sp_price (g9 1)) :: rest))) : W p l e R s m args below meth c H locs cells slots Q (F0 m pc ls (.ref a9 :: rest)) :=
  vp_callSi (W.runS (As := [.ref a9]) (rest := rest) hC (c_X1_price l ha ) (va_cwS 1 hC.2.2.2.2 (gi_S hk mT_X1_price mI_Sim mC_X1_price) rfl rfl rfl (by decide +kernel) hR) ⟨fun a1 U g mk q9 => ⟨q9.1, qI.call q9.2⟩, fun U hU hW => ⟨rfl, qI.into hK hG hP hU hW⟩⟩ rfl rfl hl rfl (lv_room hr) hdg hz) (fun r hr => by rw [hr]; exact kk)
set_option maxHeartbeats 4000000 in
set_option maxRecDepth 100000 in
theorem c_X1_tells (l : Launch) {D : va_G} {z : ClassId × ClassId} {cG : ClassId} {Wd : va_W} {q0 a9 : Nat} {g9 : Nat → Int32} (ha : Wd[q0]? = some (a9, .inl (z.1, 2, .inl g9))) (b : Int32) : Met l yX1_tells (ws_ yX1_tells cX1_tells 3 (some .int)) ({ frames := 0, cells := 0, slots := 0, locals := 0 } : Room) (va_Pc [.ref a9, .int b] (fun U => qI D z cG Wd U)) (vp_Si (fun r : Int32 => r = sp_tale (g9 0) b)) 0 0 (fun _ => False) := by
  refine Met.ofW (cc := cX1_tells) (maxL := 3) (ret := (some .int)) (by decide) rfl ?_
  intro p e s m args below meth c s₁ B hml hv
  obtain ⟨rfl, ⟨hP, hK, hG⟩⟩ := hv
  have hx := B.exec
  have hb := B.bytes
  have hr := B.returns
  have hts := atoms_spec (ws := ws_ yX1_tells cX1_tells 3 (some .int)) B.pre
  have hts : ∀ w ∈ lw_all, w.before _ s = true := fun w h => hts w (List.mem_cons_of_mem _ h)
  have hown : s.vm.findClass RX1 = some m.cls := findClass_of_methodNamed B.named
  have hlocks := B.notSynchronized
  have hC : CallFix p m c cX1_tells 3 s _ lw_all RX1 := ⟨hx, hb, hml, hown, hts⟩
  have hl := lv_entry ([.ref a9, .int b]) (n := 3) (Nat.le_of_ble_eq_true rfl)
  rw [lg_entry_eq]
  generalize (lg_sl ([.ref a9, .int b]) ++ List.replicate (3 - (lg_sl ([.ref a9, .int b])).length) Slot.unset).toArray = ls at hl ⊢
  have hl : lv_has ls 3 [(0, .ref a9), (1, .int b)] := hl
  refine lv_aload_n hx hb dX1_tells_0 rfl (lv_at hl 0 rfl) ?_
  refine lv_iconst (v := 0) hx hb dX1_tells_1 (by decide) ?_
  refine qi_ld 0 hC hK hP ha nI_0.symm (by decide) (by decide) dX1_tells_2 ?_
  refine lv_iconst (v := 3) hx hb dX1_tells_3 (by decide) ?_
  refine lv_icmp_ge (tgt := 9) hx hb dX1_tells_4 (by decide) (fun c_4 => ?_) (fun c_4 => ?_)
  · refine lv_iload_n hx hb dX1_tells_9 rfl (lv_at hl 1 rfl) ?_
    refine lv_bipush (v := 9) hx hb dX1_tells_10 (by decide) ?_
    refine lv_aload_n hx hb dX1_tells_12 rfl (lv_at hl 0 rfl) ?_
    refine lv_iconst (v := 0) hx hb dX1_tells_13 (by decide) ?_
    refine qi_ld 0 hC hK hP ha nI_0.symm (by decide) (by decide) dX1_tells_14 ?_
    refine lv_isub hx hb dX1_tells_15 ?_
    refine lv_iconst (v := 2) hx hb dX1_tells_16 (by decide) ?_
    refine lv_idiv hx hb dX1_tells_17 (by decide) ?_
    refine lv_isub hx hb dX1_tells_18 ?_
    refine lv_istore_n (lv' := [(2, .int (b - ((9 - (g9 0)) / 2))), (0, .ref a9), (1, .int b)]) hx hb dX1_tells_19 rfl hl (by decide) rfl (fun ls hl => ?_)
    refine lv_iload_n hx hb dX1_tells_20 rfl (lv_at hl 0 rfl) ?_
    refine lv_iconst (v := 1) hx hb dX1_tells_21 (by decide) ?_
    refine lv_icmp_ge (tgt := 29) hx hb dX1_tells_22 (by decide) (fun c_22 => ?_) (fun c_22 => ?_)
    · refine lv_iload_n hx hb dX1_tells_29 rfl (lv_at hl 0 rfl) ?_
      exact W.iret (v := b - ((9 - (g9 0)) / 2)) hx hb hr (fun t ht hW => ⟨b - ((9 - (g9 0)) / 2), rfl, (tells_2 c_4 c_22), ht⟩) (fun q hq => absurd hq List.not_mem_nil) dX1_tells_30
    · refine lv_iconst (v := 1) hx hb dX1_tells_25 (by decide) ?_
      refine lv_goto (tgt := 30) hx hb dX1_tells_26 (by decide) ?_
      exact W.iret (v := 1) hx hb hr (fun t ht hW => ⟨1, rfl, (tells_1 c_4 c_22), ht⟩) (fun q hq => absurd hq List.not_mem_nil) dX1_tells_30
  · refine lv_iconst (v := 0) hx hb dX1_tells_7 (by decide) ?_
    exact W.iret (v := 0) hx hb hr (fun t ht hW => ⟨0, rfl, (tells_0 c_4), ht⟩) (fun q hq => absurd hq List.not_mem_nil) dX1_tells_8
set_option maxRecDepth 100000 in
theorem k_X1_tells {p : Program} {l : Launch} {e : Env} {R : Room} {s : State} {m : MethodId} {args : Array Value} {below : List Frame} {meth : Method} {c : Code} {H : Heap} {locs : List Loc} {cells slots : Nat} {Q : State → Prop} {cc : ByteArray} {nL pc : Nat} {ls : Array Slot} {rest : List Value} {own : String} {D : va_G} {z : ClassId × ClassId} {cG : ClassId} {Wd : va_W} {q0 a9 : Nat} {g9 : Nat → Int32} {b : Int32} {idx : Nat} (hC : CallFix p m c cc nL s args lw_all own) (hk : Cond.methodLink own idx yX1_tells ∈ lw_all) (hK : kK D z s) (hG : kG cG s) (hP : va_P D vwCl (Wd) H) (ha : Wd[q0]? = some (a9, .inl (z.1, 2, .inl g9)))  (hl : ls.size = nL) (hR : 1 ≤ R.frames ∧ 22 ≤ R.locals) (hz : cells ≤ R.cells ∧ slots ≤ R.slots) (hr : (rest.map fun v => v.category).sum ≤ 8) (hdg : decode cc pc = .ok (.invokestatic idx, 3)) (kk : W p l e R s m args below meth c H locs cells slots Q (F0 m (pc + 3) ls (.int (sp_tale (g9 0) b) :: rest))) : W p l e R s m args below meth c H locs cells slots Q (F0 m pc ls (.int b :: .ref a9 :: rest)) :=
  vp_callSi (W.runS (As := [.ref a9, .int b]) (rest := rest) hC (c_X1_tells l ha b) (va_cwS 2 hC.2.2.2.2 (gi_S hk mT_X1_tells mI_Sim mC_X1_tells) rfl rfl rfl (by decide +kernel) hR) ⟨fun a1 U g mk q9 => ⟨q9.1, qI.call q9.2⟩, fun U hU hW => ⟨rfl, qI.into hK hG hP hU hW⟩⟩ rfl rfl hl rfl (lv_room hr) hdg hz) (fun r hr => by rw [hr]; exact kk)
set_option maxHeartbeats 4000000 in
set_option maxRecDepth 100000 in
theorem c_X1_shaken (l : Launch) {D : va_G} {z : ClassId × ClassId} {cG : ClassId} {F M : va_W} {b : Nat → Nat} {rp : Nat → Nat} {rw : Nat → Nat} {rm : Nat → Nat} {lv : Nat → Int32} {lk : Nat → Int32} {pu : Nat → Int32} {fa : Nat → Int32} {he : Nat → Int32} {n : Nat} {nv : Nat → Int32} {du : Nat → Int32} {w : Nat} {mp : Nat → Int32} {mi : Nat → Int32} {k : Nat} {nt : Int32} {fu : Int32} {re : Int32} (hw : w ≤ 6) : Met l yX1_shaken (ws_ yX1_shaken cX1_shaken 6 (some .int)) ({ frames := 0, cells := 0, slots := 0, locals := 0 } : Room) (va_Pc [.ref (b 0)] (fun U => qI D z cG (F ++ (qW z cG b rp rw rm lv lk pu fa he n nv du w mp mi k nt fu re ++ M)) U)) (vp_Si (fun r : Int32 => r = sp_shk nv w)) 0 0 (fun _ => False) := by
  refine Met.ofW (cc := cX1_shaken) (maxL := 6) (ret := (some .int)) (by decide) rfl ?_
  intro p e s m args below meth c s₁ B hml hv
  obtain ⟨rfl, ⟨hP, hK, hG⟩⟩ := hv
  have hx := B.exec
  have hb := B.bytes
  have hr := B.returns
  have hts := atoms_spec (ws := ws_ yX1_shaken cX1_shaken 6 (some .int)) B.pre
  have hts : ∀ w ∈ lw_all, w.before _ s = true := fun w h => hts w (List.mem_cons_of_mem _ h)
  have hown : s.vm.findClass RX1 = some m.cls := findClass_of_methodNamed B.named
  have hlocks := B.notSynchronized
  have hC : CallFix p m c cX1_shaken 6 s _ lw_all RX1 := ⟨hx, hb, hml, hown, hts⟩
  have hl := lv_entry ([.ref (b 0)]) (n := 6) (Nat.le_of_ble_eq_true rfl)
  rw [lg_entry_eq]
  generalize (lg_sl ([.ref (b 0)]) ++ List.replicate (6 - (lg_sl ([.ref (b 0)])).length) Slot.unset).toArray = ls at hl ⊢
  have hl : lv_has ls 6 [(0, .ref (b 0))] := hl
  refine lv_iconst (v := 0) hx hb dX1_shaken_0 (by decide) ?_
  refine lv_istore_n (lv' := [(1, .int 0), (0, .ref (b 0))]) hx hb dX1_shaken_1 rfl hl (by decide) rfl (fun ls hl => ?_)
  refine lv_aload_n hx hb dX1_shaken_2 rfl (lv_at hl 1 rfl) ?_
  refine qg_ws hC hK hP mF_X1_15 dX1_shaken_3 ?_
  refine lv_astore_n (lv' := [(2, .ref (b 2)), (1, .int 0), (0, .ref (b 0))]) hx hb dX1_shaken_6 rfl hl (by decide) rfl (fun ls hl => ?_)
  refine lv_aload_n hx hb dX1_shaken_7 rfl (lv_at hl 0 rfl) ?_
  refine qlen_w hC hK hP hG dX1_shaken_8 ?_
  refine lv_istore_n (lv' := [(3, .int (nI w)), (2, .ref (b 2)), (1, .int 0), (0, .ref (b 0))]) hx hb dX1_shaken_9 rfl hl (by decide) rfl (fun ls hl => ?_)
  refine lv_iconst (v := 0) hx hb dX1_shaken_10 (by decide) ?_
  refine lv_istore (lv' := [(4, .int 0), (3, .int (nI w)), (2, .ref (b 2)), (1, .int 0), (0, .ref (b 0))]) hx hb dX1_shaken_11 hl (by decide) rfl (fun ls hl => ?_)
  have loop_13 : ∀ (f : Nat) (j : Nat) (x : Int32), j ≤ w → w + 1 ≤ j + f → x = sp_shk nv j → ∀ ls : Array Slot, lv_has ls 6 [(0, .ref (b 0)), (2, .ref (b 2)), (3, .int (nI w)), (1, .int x), (4, .int (nI j))] → W p l e ({ frames := 0, cells := 0, slots := 0, locals := 0 } : Room) s m ([.ref (b 0)] : List Value).toArray below meth c s.heap [] 0 0 (MQ below (vp_Si (fun r : Int32 => r = sp_shk nv w)) ([.ref (b 0)] : List Value).toArray s 0 0 (fun _ => False)) (F0 m 13 ls []) := by
    intro f
    induction f with
    | zero =>
      intro j x hj hf ex
      exact absurd hf (by omega)
    | succ f ih13 =>
      intro j x hj hf ex ls hl
      refine lv_iload hx hb dX1_shaken_13 (lv_at hl 4 rfl) ?_
      refine lv_iload_n hx hb dX1_shaken_15 rfl (lv_at hl 2 rfl) ?_
      refine lv_icmp_ge (tgt := 42) hx hb dX1_shaken_16 (by decide) (fun c_16 => ?_) (fun c_16 => ?_)
      · have nc_16 : w ≤ j := nn_le (by omega) c_16
        refine lv_iload_n hx hb dX1_shaken_42 rfl (lv_at hl 3 rfl) ?_
        exact W.iret (v := x) hx hb hr (fun t ht hW => ⟨x, rfl, (by rw [ex, show j = w by omega]), ht⟩) (fun q hq => absurd hq List.not_mem_nil) dX1_shaken_43
      · have nc_16 : j < w := nn_nle (by omega) c_16
        refine lv_aload_n hx hb dX1_shaken_19 rfl (lv_at hl 1 rfl) ?_
        refine lv_iload hx hb dX1_shaken_20 (lv_at hl 4 rfl) ?_
        refine qr_w j hC hK hP hG rfl (by first | assumption | omega) (by omega) dX1_shaken_22 ?_
        refine lv_astore (lv' := [(5, .ref (rw j)), (0, .ref (b 0)), (2, .ref (b 2)), (3, .int (nI w)), (1, .int x), (4, .int (nI j))]) hx hb dX1_shaken_23 hl (by decide) rfl (fun ls hl => ?_)
        refine lv_aload hx hb dX1_shaken_25 (lv_at hl 0 rfl) ?_
        refine lv_iconst (v := 0) hx hb dX1_shaken_27 (by decide) ?_
        refine ql_nv j hC hK hP (by first | assumption | omega) nI_0.symm dX1_shaken_28 ?_
        refine lv_iconst (v := 3) hx hb dX1_shaken_29 (by decide) ?_
        refine lv_icmp_ge (tgt := 36) hx hb dX1_shaken_30 (by decide) (fun c_30 => ?_) (fun c_30 => ?_)
        · refine lv_iinc (v := nI (j + 1)) (lv' := [(4, .int (nI (j + 1))), (5, .ref (rw j)), (0, .ref (b 0)), (2, .ref (b 2)), (3, .int (nI w)), (1, .int x)]) hx hb dX1_shaken_36 hl (k := 5) rfl (nI_1 _) (by decide) rfl (fun ls hl => ?_)
          refine lv_goto (tgt := 13) hx hb dX1_shaken_39 (by decide) ?_
          exact ih13 (j + 1) x (by omega) (by omega) (by simp only [sp_shk]; rw [if_pos (sh_0 c_30)]; exact ex) _ (lv_sub hl [2, 3, 4, 5, 0] rfl)
        · refine lv_iinc (v := x + 1) (lv' := [(1, .int (x + 1)), (5, .ref (rw j)), (0, .ref (b 0)), (2, .ref (b 2)), (3, .int (nI w)), (4, .int (nI j))]) hx hb dX1_shaken_33 hl (k := 4) rfl rfl (by decide) rfl (fun ls hl => ?_)
          refine lv_iinc (v := nI (j + 1)) (lv' := [(4, .int (nI (j + 1))), (1, .int (x + 1)), (5, .ref (rw j)), (0, .ref (b 0)), (2, .ref (b 2)), (3, .int (nI w))]) hx hb dX1_shaken_36 hl (k := 5) rfl (nI_1 _) (by decide) rfl (fun ls hl => ?_)
          refine lv_goto (tgt := 13) hx hb dX1_shaken_39 (by decide) ?_
          exact ih13 (j + 1) (x + 1) (by omega) (by omega) (by simp only [sp_shk]; rw [if_neg (by rw [sh_1 c_30]; decide)]; exact congrArg (· + 1) ex) _ (lv_sub hl [3, 4, 5, 1, 0] rfl)
  exact loop_13 (w + 1) 0 0 (Nat.zero_le _) (by omega) rfl _ (lv_sub hl [4, 2, 1, 3, 0] rfl)
set_option maxRecDepth 100000 in
theorem k_X1_shaken {p : Program} {l : Launch} {e : Env} {R : Room} {s : State} {m : MethodId} {args : Array Value} {below : List Frame} {meth : Method} {c : Code} {H : Heap} {locs : List Loc} {cells slots : Nat} {Q : State → Prop} {cc : ByteArray} {nL pc : Nat} {ls : Array Slot} {rest : List Value} {own : String} {D : va_G} {z : ClassId × ClassId} {cG : ClassId} {F M : va_W} {b : Nat → Nat} {rp : Nat → Nat} {rw : Nat → Nat} {rm : Nat → Nat} {lv : Nat → Int32} {lk : Nat → Int32} {pu : Nat → Int32} {fa : Nat → Int32} {he : Nat → Int32} {n : Nat} {nv : Nat → Int32} {du : Nat → Int32} {w : Nat} {mp : Nat → Int32} {mi : Nat → Int32} {k : Nat} {nt : Int32} {fu : Int32} {re : Int32} {idx : Nat} (hC : CallFix p m c cc nL s args lw_all own) (hk : Cond.methodLink own idx yX1_shaken ∈ lw_all) (hK : kK D z s) (hG : kG cG s) (hP : va_P D vwCl (F ++ (qW z cG b rp rw rm lv lk pu fa he n nv du w mp mi k nt fu re ++ M)) H) (hw : w ≤ 6) (hl : ls.size = nL) (hR : 1 ≤ R.frames ∧ 25 ≤ R.locals) (hz : cells ≤ R.cells ∧ slots ≤ R.slots) (hr : (rest.map fun v => v.category).sum ≤ 8) (hdg : decode cc pc = .ok (.invokevirtual idx, 3)) (kk : W p l e R s m args below meth c H locs cells slots Q (F0 m (pc + 3) ls (.int (sp_shk nv w) :: rest))) : W p l e R s m args below meth c H locs cells slots Q (F0 m pc ls (.ref (b 0) :: rest)) :=
  vp_callSi (W.runV (As := []) (rest := rest) hC (c_X1_shaken l hw) (cwV 0 hC.2.2.2.2 (gi_V hk mV_X1_shaken mS_X1_shaken mI_Sim mC_X1_shaken) rfl rfl rfl (by decide +kernel) hR) ⟨fun a1 U g mk q9 => ⟨q9.1, qI.call q9.2⟩, q_recv hK hP, fun U hU hW => ⟨rfl, qI.into hK hG hP hU hW⟩⟩ rfl rfl hl rfl (lv_room hr) hdg hz) (fun r hr => by rw [hr]; exact kk)

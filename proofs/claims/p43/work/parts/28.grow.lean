theorem ws_extPq {D : va_G} {cl : List vw_C} {ws : va_W} {H : Heap} {a L : Nat} {cA : ClassId} {g g' : Nat → Option Nat} (h : ∀ t, t < L → g t = g' t) (hP : va_P D cl ((a, .inl (cA, L, .inr (.inr (.inr (.inr g))))) :: ws) H) : va_P D cl ((a, .inl (cA, L, .inr (.inr (.inr (.inr g'))))) :: ws) H := by
  intro k q hk
  cases k with
  | zero =>
    cases hk
    have h1 := hP 0 _ rfl
    show H[a]? = some (vp_cell cA (L, .inr (.inr (.inr (.inr g')))))
    rw [← cell_extq h]
    exact h1
  | succ k => exact hP (k + 1) q hk
theorem ws_hdD {A : Nat → Prop} {ws : va_W} {p q : Nat × va_E} (h : p.1 = q.1) (hD : va_D A (p :: ws)) : va_D A (q :: ws) := by
  rw [wj_mD] at hD ⊢
  rw [List.map_cons] at hD ⊢
  rw [← h]
  refine ⟨hD.1, fun x hx => ?_⟩
  rcases List.mem_cons.mp hx with e | e
  · subst e; rw [← h]; exact hD.2 p List.mem_cons_self
  · exact hD.2 x (List.mem_cons_of_mem _ e)
theorem nd_perm {l l' : List Nat} (h : l.Nodup) (hc : ∀ a : Nat, l'.count a ≤ l.count a) : l'.Nodup := by
  rw [List.nodup_iff_count] at h ⊢
  exact fun a => Nat.le_trans (hc a) (h a)

set_option maxHeartbeats 4000000 in
set_option maxRecDepth 100000 in
theorem c_X1_with (l : Launch) (sz : Nat) {D : va_G} {z : ClassId × ClassId} {cG : ClassId} {Wd : va_W} {ga la n q0 ql L : Nat} {r : Nat → Nat} {lr : Nat → Int32} (ha : Wd[q0]? = some (ga, .inl (cG, n, qS r))) (hrw : ∀ i, i < n → ∃ (k9 L9 : Nat) (g9 : Nat → Int32), Wd[k9]? = some (r i, .inl (z.1, L9, .inl g9))) (hl9 : Wd[ql]? = some (la, .inl (z.1, L, .inl lr))) (hn : n ≤ 60) : Met l yX1_with (ws_ yX1_with cX1_with 4 (some (.array (.array .int)))) ({ frames := 0, cells := 1, slots := 61, locals := 0 } : Room) (va_Pc [.ref ga, .ref la] (fun U => U.heap.size = sz ∧ qI D z cG (Wd) U ∧ va_D (fun _ => True) (Wd) ∧ gO U)) (va_Qr (fun u : Unit => True) (fun u ra t9 => va_P D vwCl ((ra, .inl (cG, n + 1, qS (va_up r n la))) :: Wd) t9.heap ∧ va_D (va_A (Wd) sz) ((ra, .inl (cG, n + 1, qS (va_up r n la))) :: Wd)) (va_A (Wd) sz)) 1 61 (va_A (Wd) sz) := by
  refine Met.ofW (cc := cX1_with) (maxL := 4) (ret := (some (.array (.array .int)))) (by decide) rfl ?_
  intro p e s m args below meth c s₁ B hml hv
  obtain ⟨rfl, hsz, ⟨hP, hK, hG⟩, hD0, hO⟩ := hv
  have hx := B.exec
  have hb := B.bytes
  have hr := B.returns
  have hts := atoms_spec (ws := ws_ yX1_with cX1_with 4 (some (.array (.array .int)))) B.pre
  have hts : ∀ w ∈ lw_all, w.before _ s = true := fun w h => hts w (List.mem_cons_of_mem _ h)
  have hown : s.vm.findClass RX1 = some m.cls := findClass_of_methodNamed B.named
  have hlocks := B.notSynchronized
  have hC : CallFix p m c cX1_with 4 s _ lw_all RX1 := ⟨hx, hb, hml, hown, hts⟩
  subst hsz
  have hD := hD0.self (sz := s.heap.size)
  generalize hAe : va_A (Wd) s.heap.size = A at hD ⊢
  have hA : ∀ q : Nat, s.heap.size ≤ q → A q := fun q h => by rw [← hAe]; exact Or.inr h
  have hS : va_S A s.heap s.heap [] := va_S.rf
  have hl := lv_entry ([.ref ga, .ref la]) (n := 4) (Nat.le_of_ble_eq_true rfl)
  rw [lg_entry_eq]
  generalize (lg_sl ([.ref ga, .ref la]) ++ List.replicate (4 - (lg_sl ([.ref ga, .ref la])).length) Slot.unset).toArray = ls at hl ⊢
  have hl : lv_has ls 4 [(0, .ref ga), (1, .ref la)] := hl
  refine lv_aload_n hx hb dX1_with_0 rfl (lv_at hl 0 rfl) ?_
  refine qa_len hC hK hG hP ha dX1_with_1 ?_
  refine lv_iconst (v := 1) hx hb dX1_with_2 (by decide) ?_
  refine lv_iadd hx hb dX1_with_3 ?_
  refine qn_g hC mK_X1_7 hO hP hD hS hA (N := n + 1) (nI_1 n) (by omega) (by show _ ≤ 1; omega) (by show _ ≤ 61; omega) dX1_with_4 (fun q4 cG9 H hG9 hP hD hS => ?_)
  have eG9 : cG9 = cG := Option.some.inj (hG9.2.1.symm.trans hG.2.1)
  rw [eG9] at hP hD
  have hP : va_P D vwCl ((q4, .inl (cG, n + 1, .inr (.inr (.inr (.inr (fun _ => none)))))) :: Wd) H := hP
  have hD : va_D A ((q4, .inl (cG, n + 1, .inr (.inr (.inr (.inr (fun _ => none)))))) :: Wd) := hD
  refine lv_astore_n (lv' := [(2, .ref q4), (0, .ref ga), (1, .ref la)]) hx hb dX1_with_7 rfl hl (by decide) rfl (fun ls hl => ?_)
  refine lv_iconst (v := 0) hx hb dX1_with_8 (by decide) ?_
  refine lv_istore_n (lv' := [(3, .int 0), (2, .ref q4), (0, .ref ga), (1, .ref la)]) hx hb dX1_with_9 rfl hl (by decide) rfl (fun ls hl => ?_)
  have loop_10 : ∀ (f : Nat) (j : Nat) (G : Nat → Option Nat), j ≤ n → n + 1 ≤ j + f → (∀ t, t < j → G t = some (r t)) → ∀ (H : Heap) (locs : List Loc), va_P D vwCl ((q4, .inl (cG, n + 1, .inr (.inr (.inr (.inr G))))) :: Wd) H → va_D A ((q4, .inl (cG, n + 1, .inr (.inr (.inr (.inr G))))) :: Wd) → va_S A s.heap H locs → ∀ ls : Array Slot, lv_has ls 4 [(0, .ref ga), (1, .ref la), (2, .ref q4), (3, .int (nI j))] → W p l e ({ frames := 0, cells := 1, slots := 61, locals := 0 } : Room) s m ([.ref ga, .ref la] : List Value).toArray below meth c H locs (0 + 1) (0 + (n + 1)) (MQ below (va_Qr (fun u : Unit => True) (fun u ra t9 => va_P D vwCl ((ra, .inl (cG, n + 1, qS (va_up r n la))) :: Wd) t9.heap ∧ va_D A ((ra, .inl (cG, n + 1, qS (va_up r n la))) :: Wd)) A) ([.ref ga, .ref la] : List Value).toArray s 1 61 A) (F0 m 10 ls []) := by
    intro f
    induction f with
    | zero =>
      intro j G hj hf
      exact absurd hf (by omega)
    | succ f ih10 =>
      intro j G hj hf eG H locs hP hD hS ls hl
      refine lv_iload_n hx hb dX1_with_10 rfl (lv_at hl 3 rfl) ?_
      refine lv_aload_n hx hb dX1_with_11 rfl (lv_at hl 0 rfl) ?_
      refine qa_len hC hK hG hP (wj_rt (X := [_]) ha) dX1_with_12 ?_
      refine lv_icmp_ge (tgt := 28) hx hb dX1_with_13 (by decide) (fun c_13 => ?_) (fun c_13 => ?_)
      · have nc_13 : n ≤ j := nn_le (by omega) c_13
        have eG : ∀ t, t < n → G t = some (r t) := fun t ht => eG t (by omega)
        refine lv_aload_n hx hb dX1_with_28 rfl (lv_at hl 2 rfl) ?_
        refine lv_aload_n hx hb dX1_with_29 rfl (lv_at hl 0 rfl) ?_
        refine qa_len hC hK hG hP (wj_rt (X := [_]) ha) dX1_with_30 ?_
        refine lv_aload_n hx hb dX1_with_31 rfl (lv_at hl 1 rfl) ?_
        refine qa_st (q0 := 0) (n := n + 1) (f := G) n hC hK hG hP hD hS rfl (wj_rt (X := [_]) hl9) rfl (by omega) (by omega) dX1_with_32 (fun H locs hP hD hS => ?_)
        have hP : va_P D vwCl ((q4, .inl (cG, n + 1, .inr (.inr (.inr (.inr (va_up G n (some la))))))) :: Wd) H := hP
        have hD : va_D A ((q4, .inl (cG, n + 1, .inr (.inr (.inr (.inr (va_up G n (some la))))))) :: Wd) := hD
        refine lv_aload_n hx hb dX1_with_33 rfl (lv_at hl 2 rfl) ?_
        have hP := ws_extPq (g' := fun i => some (va_up r n la i)) (fun t ht => by
          by_cases c : t = n
          · subst c; simp [va_up]
          · rw [show va_up G n (some la) t = G t from if_neg c, show va_up r n la t = r t from if_neg c]; exact eG t (by omega)) hP
        have hD := ws_hdD (p := (q4, .inl (cG, n + 1, .inr (.inr (.inr (.inr (va_up G n (some la)))))))) (q := (q4, .inl (cG, n + 1, qS (va_up r n la)))) rfl hD
        refine W.widen (k := 1) (n := 61) (by omega) (by omega) ?_
        exact W.aret (v := .ref q4) hx hb hr (by first | exact Or.inl ⟨_, rfl⟩ | exact Or.inr ⟨_, rfl⟩) (Or.inr ⟨_, rfl⟩) (fun t ht hW => ⟨⟨(), q4, rfl, trivial, by rw [ht]; exact hP, hD⟩, hS.F ht⟩) hS.2.2 dX1_with_34
      · have nc_13 : j < n := nn_nle (by omega) c_13
        refine lv_aload_n hx hb dX1_with_16 rfl (lv_at hl 2 rfl) ?_
        refine lv_iload_n hx hb dX1_with_17 rfl (lv_at hl 3 rfl) ?_
        refine lv_aload_n hx hb dX1_with_18 rfl (lv_at hl 0 rfl) ?_
        refine lv_iload_n hx hb dX1_with_19 rfl (lv_at hl 3 rfl) ?_
        refine qa_ld j hC hG hP (wj_rt (X := [_]) ha) rfl (by omega) (by omega) rfl dX1_with_20 ?_
        obtain ⟨k9, L9, g9, h9⟩ := hrw j (by omega)
        refine qa_st (q0 := 0) (n := n + 1) (f := G) j hC hK hG hP hD hS rfl (wj_rt (X := [_]) h9) rfl (by omega) (by omega) dX1_with_21 (fun H locs hP hD hS => ?_)
        have hP : va_P D vwCl ((q4, .inl (cG, n + 1, .inr (.inr (.inr (.inr (va_up G j (some (r j)))))))) :: Wd) H := hP
        have hD : va_D A ((q4, .inl (cG, n + 1, .inr (.inr (.inr (.inr (va_up G j (some (r j)))))))) :: Wd) := hD
        refine lv_iinc (v := nI (j + 1)) (lv' := [(3, .int (nI (j + 1))), (0, .ref ga), (1, .ref la), (2, .ref q4)]) hx hb dX1_with_22 hl (k := 3) rfl (nI_1 _) (by decide) rfl (fun ls hl => ?_)
        refine lv_goto (tgt := 10) hx hb dX1_with_25 (by decide) ?_
        exact ih10 (j + 1) (va_up G j (some (r j))) (by omega) (by omega) (fun t ht => by
                by_cases c : t = j
                · subst c; exact if_pos rfl
                · rw [show va_up G j (some (r j)) t = G t from if_neg c]; exact eG t (by omega)) _ _ hP hD hS _ (lv_sub hl [1, 2, 3, 0] rfl)
  exact loop_10 (n + 1) 0 (fun _ => none) (Nat.zero_le _) (by omega) (fun t ht => absurd ht (Nat.not_lt_zero t)) _ _ hP hD hS _ (lv_sub hl [2, 3, 1, 0] rfl)
set_option maxRecDepth 100000 in
theorem k_X1_with {p : Program} {l : Launch} {e : Env} {R : Room} {s : State} {m : MethodId} {args : Array Value} {below : List Frame} {meth : Method} {c : Code} {H : Heap} {locs : List Loc} {cells slots : Nat} {Q : State → Prop} {cc : ByteArray} {nL pc : Nat} {ls : Array Slot} {rest : List Value} {A : Nat → Prop} {H0 : Heap} {own : String} {D : va_G} {z : ClassId × ClassId} {cG : ClassId} {Wd : va_W} {ga la n q0 ql L : Nat} {r : Nat → Nat} {lr : Nat → Int32}  {idx : Nat} (hC : CallFix p m c cc nL s args lw_all own) (hk : Cond.methodLink own idx yX1_with ∈ lw_all) (hK : kK D z s) (hG : kG cG s) (hO : gO s) (hP : va_P D vwCl (Wd) H) (hD : va_D A (Wd)) (hS : va_S A H0 H locs) (hA : ∀ q : Nat, H0.size ≤ q → A q) (hl : ls.size = nL) (hR : 1 ≤ R.frames ∧ 23 ≤ R.locals) (hz : cells + 1 ≤ R.cells ∧ slots + 61 ≤ R.slots) (hr : (rest.map fun v => v.category).sum ≤ 8)  (ha : Wd[q0]? = some (ga, .inl (cG, n, qS r))) (hrw : ∀ i, i < n → ∃ (k9 L9 : Nat) (g9 : Nat → Int32), Wd[k9]? = some (r i, .inl (z.1, L9, .inl g9))) (hl9 : Wd[ql]? = some (la, .inl (z.1, L, .inl lr))) (hn : n ≤ 60) (hdg : decode cc pc = .ok (.invokestatic idx, 3)) (kk : ∀ (ra : Nat) (H1 : Heap) (locs1 : List Loc), va_P D vwCl ((ra, .inl (cG, n + 1, qS (va_up r n la))) :: Wd) H1 → va_D A ((ra, .inl (cG, n + 1, qS (va_up r n la))) :: Wd) → va_S A H0 H1 locs1 → W p l e R s m args below meth c H1 locs1 (cells + 1) (slots + 61) Q (F0 m (pc + 3) ls (.ref ra :: rest))) : W p l e R s m args below meth c H locs cells slots Q (F0 m pc ls (.ref la :: .ref ga :: rest)) := by
  have hF := wj_F hD hS hA
  refine va_callr (va_runS (As := [.ref ga, .ref la]) (rest := rest) hC (c_X1_with l H.size ha hrw hl9 hn) (va_cwS 2 hC.2.2.2.2 (gi_S hk mT_X1_with mI_Sim mC_X1_with) rfl rfl rfl (by decide +kernel) hR) ⟨fun a1 U g mk q9 => ⟨q9.1, q9.2.1, qI.call q9.2.2.1, q9.2.2.2.1, gO.moved (u := U) (U := U.calling g mk a1) (Vm.Alike.refl U.vm) q9.2.2.2.2⟩, fun U hU hW => ⟨rfl, by rw [hU], qI.into hK hG hP hU hW, hD.weaken (fun _ _ _ _ => trivial), hO.moved hW.alike⟩⟩ rfl rfl hl rfl (lv_room hr) hdg hz) hS (fun q _ h => hF q h) hF (fun u ra t H1 locs1 ht hvm hw hB hz1 hk1 hS1 => ?_)
  obtain ⟨hP1, hD1⟩ := hB
  rw [ht] at hP1
  exact kk ra H1 locs1 hP1 (hD1.weaken (fun _ q9 _ h => hF q9.1 h)) hS1
section QG
variable {p : Program} {l : Launch} {e : Env} {R : Room} {s : State} {m : MethodId} {args : Array Value} {below : List Frame} {meth : Method} {c : Code} {H : Heap} {locs : List Loc} {cells slots : Nat} {Q : State → Prop} {cc : ByteArray} {nL pc : Nat} {ls : Array Slot} {rest : List Value} {D : va_G} {z : ClassId × ClassId} {cG : ClassId} {A : Nat → Prop} {H0 : Heap} {ws : va_W} {own : String}
theorem qp_ps {F M : va_W} {b : Nat → Nat} {rp : Nat → Nat} {rw : Nat → Nat} {rm : Nat → Nat} {lv : Nat → Int32} {lk : Nat → Int32} {pu : Nat → Int32} {fa : Nat → Int32} {he : Nat → Int32} {n : Nat} {nv : Nat → Int32} {du : Nat → Int32} {w : Nat} {mp : Nat → Int32} {mi : Nat → Int32} {k : Nat} {nt : Int32} {fu : Int32} {re : Int32} {idx ra q : Nat} {lr lv' lk' pu' fa' he' : Nat → Int32} (hC : CallFix p m c cc nL s args lw_all own) (hK : kK D z s) (hP : va_P D vwCl ((ra, .inl (cG, n + 1, qS (va_up rp n q))) :: (q, .inl (z.1, 5, .inl lr)) :: F ++ (qW z cG b rp rw rm lv lk pu fa he n nv du w mp mi k nt fu re ++ M)) H) (hD : va_D A ((ra, .inl (cG, n + 1, qS (va_up rp n q))) :: (q, .inl (z.1, 5, .inl lr)) :: F ++ (qW z cG b rp rw rm lv lk pu fa he n nv du w mp mi k nt fu re ++ M))) (hS : va_S A H0 H locs) (hk : Cond.fieldLink own idx RX1 "persons" "[[I" ∈ lw_all) (hlr : ∀ t, t < 5 → lr t = prow lv' lk' pu' fa' he' n t) (hold : ∀ i, i < n → lv' i = lv i ∧ lk' i = lk i ∧ pu' i = pu i ∧ fa' i = fa i ∧ he' i = he i) (hdg : decode cc pc = .ok (.putfield idx, 3))
    (kk : ∀ (H1 : Heap) (locs1 : List Loc), va_P D vwCl (F ++ (qW z cG (va_up b 1 ra) (va_up rp n q) rw rm lv' lk' pu' fa' he' (n + 1) nv du w mp mi k nt fu re ++ M)) H1 → va_D A (F ++ (qW z cG (va_up b 1 ra) (va_up rp n q) rw rm lv' lk' pu' fa' he' (n + 1) nv du w mp mi k nt fu re ++ M)) → va_S A H0 H1 locs1 → W p l e R s m args below meth c H1 locs1 cells slots Q (F0 m (pc + 3) ls rest)) : W p l e R s m args below meth c H locs cells slots Q (F0 m pc ls (.ref ra :: .ref (b 0) :: rest)) := by
  have eW : (F ++ (qW z cG (va_up b 1 ra) (va_up rp n q) rw rm lv' lk' pu' fa' he' (n + 1) nv du w mp mi k nt fu re ++ M) : va_W) = F ++ ((b 0, .inr (1, [.int nt, .int fu, .int re, .ref ra, .ref (b 2), .ref (b 3)])) :: (ra, .inl (cG, n + 1, qS (va_up rp n q))) :: (b 2, .inl (cG, w, qS rw)) :: (b 3, .inl (cG, k, qS rm)) :: ((rW z.1 5 rp (prow lv lk pu fa he) n ++ [(q, .inl (z.1, 5, .inl (prow lv' lk' pu' fa' he' n)))]) ++ (rW z.1 2 rw (wrow nv du) w ++ rW z.1 2 rm (wrow mp mi) k)) ++ M) := by
    unfold qW qT
    congr 1
    have e1 : rW z.1 5 (va_up rp n q) (prow lv' lk' pu' fa' he') (n + 1) = rW z.1 5 rp (prow lv lk pu fa he) n ++ [(q, .inl (z.1, 5, .inl (prow lv' lk' pu' fa' he' n)))] := by
      rw [rW_succ]
      have e2 : va_up rp n q n = q := if_pos rfl
      rw [e2]
      congr 1
      exact rW_congr (fun i hi => if_neg (by omega)) (fun i hi => by funext t; unfold prow; rw [(hold i hi).1, (hold i hi).2.1, (hold i hi).2.2.1, (hold i hi).2.2.2.1, (hold i hi).2.2.2.2])
    rw [e1]
    rfl
  refine va_put (D := D) (ci := 1) (v := .ref ra) (ty := .array (.array .int)) (C := RX1) (T := TX1) (N := 6) hC.1 hC.2.1 hC.2.2.2.2 lays_X1 tyX1 tyX1_ok nmX1 hC.2.2.2.1 hK hP hD hS (((ra, .inl (cG, n + 1, qS (va_up rp n q))) :: (q, .inl (z.1, 5, .inl lr)) :: F).length + 0) (wj_rt (X := ((ra, .inl (cG, n + 1, qS (va_up rp n q))) :: (q, .inl (z.1, 5, .inl lr)) :: F)) (k := 0) rfl) rfl 3 (by decide) (hC.2.2.2.2 _ hk) (fun _ h9 => h9) rfl (by decide +kernel) rfl rfl (Nat.le_of_ble_eq_true rfl) hdg (fun H1 locs1 hP1 hD1 hS1 => ?_)
  have hP1 : va_P D vwCl ((ra, .inl (cG, n + 1, qS (va_up rp n q))) :: (q, .inl (z.1, 5, .inl lr)) :: (F ++ ((b 0, .inr (1, [.int nt, .int fu, .int re, .ref ra, .ref (b 2), .ref (b 3)])) :: (b 1, .inl (cG, n, qS rp)) :: (b 2, .inl (cG, w, qS rw)) :: (b 3, .inl (cG, k, qS rm)) :: (rW z.1 5 rp (prow lv lk pu fa he) n ++ (rW z.1 2 rw (wrow nv du) w ++ rW z.1 2 rm (wrow mp mi) k)) ++ M))) H1 := by have h9 := hP1; rw [wj_set] at h9; exact h9
  have hD1 : va_D A ((ra, .inl (cG, n + 1, qS (va_up rp n q))) :: (q, .inl (z.1, 5, .inl lr)) :: (F ++ ((b 0, .inr (1, [.int nt, .int fu, .int re, .ref ra, .ref (b 2), .ref (b 3)])) :: (b 1, .inl (cG, n, qS rp)) :: (b 2, .inl (cG, w, qS rw)) :: (b 3, .inl (cG, k, qS rm)) :: (rW z.1 5 rp (prow lv lk pu fa he) n ++ (rW z.1 2 rw (wrow nv du) w ++ rW z.1 2 rm (wrow mp mi) k)) ++ M))) := by have h9 := hD1; rw [wj_set] at h9; exact h9
  rw [wj_mP] at hP1
  rw [wj_mD] at hD1
  refine kk H1 locs1 ?_ ?_ hS1
  · rw [eW, wj_mP]
    intro x hx
    by_cases ex : x = (q, .inl (z.1, 5, .inl (prow lv' lk' pu' fa' he' n)))
    · subst ex
      have h1 := hP1 (q, .inl (z.1, 5, .inl lr)) (by simp)
      show H1[q]? = some (vp_cell z.1 (5, .inl _))
      rw [← cell_ext hlr]
      exact h1
    · refine hP1 x ?_
      simp only [List.mem_append, List.mem_cons, List.not_mem_nil, or_false, List.cons_append] at hx ⊢
      grind
  · rw [eW, wj_mD]
    refine ⟨nd_perm hD1.1 (fun a => ?_), fun x hx => ?_⟩
    · simp only [List.map_append, List.map_cons, List.map_nil, List.count_append, List.count_cons, List.count_nil, List.cons_append]
      omega
    · by_cases ex : x = (q, .inl (z.1, 5, .inl (prow lv' lk' pu' fa' he' n)))
      · subst ex
        exact hD1.2 (q, .inl (z.1, 5, .inl lr)) (by simp)
      · refine hD1.2 x ?_
        simp only [List.mem_append, List.mem_cons, List.not_mem_nil, or_false, List.cons_append] at hx ⊢
        grind
theorem qp_ws {F M : va_W} {b : Nat → Nat} {rp : Nat → Nat} {rw : Nat → Nat} {rm : Nat → Nat} {lv : Nat → Int32} {lk : Nat → Int32} {pu : Nat → Int32} {fa : Nat → Int32} {he : Nat → Int32} {n : Nat} {nv : Nat → Int32} {du : Nat → Int32} {w : Nat} {mp : Nat → Int32} {mi : Nat → Int32} {k : Nat} {nt : Int32} {fu : Int32} {re : Int32} {idx ra q : Nat} {lr nv' du' : Nat → Int32} (hC : CallFix p m c cc nL s args lw_all own) (hK : kK D z s) (hP : va_P D vwCl ((ra, .inl (cG, w + 1, qS (va_up rw w q))) :: (q, .inl (z.1, 2, .inl lr)) :: F ++ (qW z cG b rp rw rm lv lk pu fa he n nv du w mp mi k nt fu re ++ M)) H) (hD : va_D A ((ra, .inl (cG, w + 1, qS (va_up rw w q))) :: (q, .inl (z.1, 2, .inl lr)) :: F ++ (qW z cG b rp rw rm lv lk pu fa he n nv du w mp mi k nt fu re ++ M))) (hS : va_S A H0 H locs) (hk : Cond.fieldLink own idx RX1 "witnesses" "[[I" ∈ lw_all) (hlr : ∀ t, t < 2 → lr t = wrow nv' du' w t) (hold : ∀ i, i < w → nv' i = nv i ∧ du' i = du i) (hdg : decode cc pc = .ok (.putfield idx, 3))
    (kk : ∀ (H1 : Heap) (locs1 : List Loc), va_P D vwCl (F ++ (qW z cG (va_up b 2 ra) rp (va_up rw w q) rm lv lk pu fa he n nv' du' (w + 1) mp mi k nt fu re ++ M)) H1 → va_D A (F ++ (qW z cG (va_up b 2 ra) rp (va_up rw w q) rm lv lk pu fa he n nv' du' (w + 1) mp mi k nt fu re ++ M)) → va_S A H0 H1 locs1 → W p l e R s m args below meth c H1 locs1 cells slots Q (F0 m (pc + 3) ls rest)) : W p l e R s m args below meth c H locs cells slots Q (F0 m pc ls (.ref ra :: .ref (b 0) :: rest)) := by
  have eW : (F ++ (qW z cG (va_up b 2 ra) rp (va_up rw w q) rm lv lk pu fa he n nv' du' (w + 1) mp mi k nt fu re ++ M) : va_W) = F ++ ((b 0, .inr (1, [.int nt, .int fu, .int re, .ref (b 1), .ref ra, .ref (b 3)])) :: (b 1, .inl (cG, n, qS rp)) :: (ra, .inl (cG, w + 1, qS (va_up rw w q))) :: (b 3, .inl (cG, k, qS rm)) :: (rW z.1 5 rp (prow lv lk pu fa he) n ++ ((rW z.1 2 rw (wrow nv du) w ++ [(q, .inl (z.1, 2, .inl (wrow nv' du' w)))]) ++ rW z.1 2 rm (wrow mp mi) k)) ++ M) := by
    unfold qW qT
    congr 1
    have e1 : rW z.1 2 (va_up rw w q) (wrow nv' du') (w + 1) = rW z.1 2 rw (wrow nv du) w ++ [(q, .inl (z.1, 2, .inl (wrow nv' du' w)))] := by
      rw [rW_succ]
      have e2 : va_up rw w q w = q := if_pos rfl
      rw [e2]
      congr 1
      exact rW_congr (fun i hi => if_neg (by omega)) (fun i hi => by funext t; unfold wrow; rw [(hold i hi).1, (hold i hi).2])
    rw [e1]
    rfl
  refine va_put (D := D) (ci := 1) (v := .ref ra) (ty := .array (.array .int)) (C := RX1) (T := TX1) (N := 6) hC.1 hC.2.1 hC.2.2.2.2 lays_X1 tyX1 tyX1_ok nmX1 hC.2.2.2.1 hK hP hD hS (((ra, .inl (cG, w + 1, qS (va_up rw w q))) :: (q, .inl (z.1, 2, .inl lr)) :: F).length + 0) (wj_rt (X := ((ra, .inl (cG, w + 1, qS (va_up rw w q))) :: (q, .inl (z.1, 2, .inl lr)) :: F)) (k := 0) rfl) rfl 4 (by decide) (hC.2.2.2.2 _ hk) (fun _ h9 => h9) rfl (by decide +kernel) rfl rfl (Nat.le_of_ble_eq_true rfl) hdg (fun H1 locs1 hP1 hD1 hS1 => ?_)
  have hP1 : va_P D vwCl ((ra, .inl (cG, w + 1, qS (va_up rw w q))) :: (q, .inl (z.1, 2, .inl lr)) :: (F ++ ((b 0, .inr (1, [.int nt, .int fu, .int re, .ref (b 1), .ref ra, .ref (b 3)])) :: (b 1, .inl (cG, n, qS rp)) :: (b 2, .inl (cG, w, qS rw)) :: (b 3, .inl (cG, k, qS rm)) :: (rW z.1 5 rp (prow lv lk pu fa he) n ++ (rW z.1 2 rw (wrow nv du) w ++ rW z.1 2 rm (wrow mp mi) k)) ++ M))) H1 := by have h9 := hP1; rw [wj_set] at h9; exact h9
  have hD1 : va_D A ((ra, .inl (cG, w + 1, qS (va_up rw w q))) :: (q, .inl (z.1, 2, .inl lr)) :: (F ++ ((b 0, .inr (1, [.int nt, .int fu, .int re, .ref (b 1), .ref ra, .ref (b 3)])) :: (b 1, .inl (cG, n, qS rp)) :: (b 2, .inl (cG, w, qS rw)) :: (b 3, .inl (cG, k, qS rm)) :: (rW z.1 5 rp (prow lv lk pu fa he) n ++ (rW z.1 2 rw (wrow nv du) w ++ rW z.1 2 rm (wrow mp mi) k)) ++ M))) := by have h9 := hD1; rw [wj_set] at h9; exact h9
  rw [wj_mP] at hP1
  rw [wj_mD] at hD1
  refine kk H1 locs1 ?_ ?_ hS1
  · rw [eW, wj_mP]
    intro x hx
    by_cases ex : x = (q, .inl (z.1, 2, .inl (wrow nv' du' w)))
    · subst ex
      have h1 := hP1 (q, .inl (z.1, 2, .inl lr)) (by simp)
      show H1[q]? = some (vp_cell z.1 (2, .inl _))
      rw [← cell_ext hlr]
      exact h1
    · refine hP1 x ?_
      simp only [List.mem_append, List.mem_cons, List.not_mem_nil, or_false, List.cons_append] at hx ⊢
      grind
  · rw [eW, wj_mD]
    refine ⟨nd_perm hD1.1 (fun a => ?_), fun x hx => ?_⟩
    · simp only [List.map_append, List.map_cons, List.map_nil, List.count_append, List.count_cons, List.count_nil, List.cons_append]
      omega
    · by_cases ex : x = (q, .inl (z.1, 2, .inl (wrow nv' du' w)))
      · subst ex
        exact hD1.2 (q, .inl (z.1, 2, .inl lr)) (by simp)
      · refine hD1.2 x ?_
        simp only [List.mem_append, List.mem_cons, List.not_mem_nil, or_false, List.cons_append] at hx ⊢
        grind
theorem qp_ms {F M : va_W} {b : Nat → Nat} {rp : Nat → Nat} {rw : Nat → Nat} {rm : Nat → Nat} {lv : Nat → Int32} {lk : Nat → Int32} {pu : Nat → Int32} {fa : Nat → Int32} {he : Nat → Int32} {n : Nat} {nv : Nat → Int32} {du : Nat → Int32} {w : Nat} {mp : Nat → Int32} {mi : Nat → Int32} {k : Nat} {nt : Int32} {fu : Int32} {re : Int32} {idx ra q : Nat} {lr mp' mi' : Nat → Int32} (hC : CallFix p m c cc nL s args lw_all own) (hK : kK D z s) (hP : va_P D vwCl ((ra, .inl (cG, k + 1, qS (va_up rm k q))) :: (q, .inl (z.1, 2, .inl lr)) :: F ++ (qW z cG b rp rw rm lv lk pu fa he n nv du w mp mi k nt fu re ++ M)) H) (hD : va_D A ((ra, .inl (cG, k + 1, qS (va_up rm k q))) :: (q, .inl (z.1, 2, .inl lr)) :: F ++ (qW z cG b rp rw rm lv lk pu fa he n nv du w mp mi k nt fu re ++ M))) (hS : va_S A H0 H locs) (hk : Cond.fieldLink own idx RX1 "misses" "[[I" ∈ lw_all) (hlr : ∀ t, t < 2 → lr t = wrow mp' mi' k t) (hold : ∀ i, i < k → mp' i = mp i ∧ mi' i = mi i) (hdg : decode cc pc = .ok (.putfield idx, 3))
    (kk : ∀ (H1 : Heap) (locs1 : List Loc), va_P D vwCl (F ++ (qW z cG (va_up b 3 ra) rp rw (va_up rm k q) lv lk pu fa he n nv du w mp' mi' (k + 1) nt fu re ++ M)) H1 → va_D A (F ++ (qW z cG (va_up b 3 ra) rp rw (va_up rm k q) lv lk pu fa he n nv du w mp' mi' (k + 1) nt fu re ++ M)) → va_S A H0 H1 locs1 → W p l e R s m args below meth c H1 locs1 cells slots Q (F0 m (pc + 3) ls rest)) : W p l e R s m args below meth c H locs cells slots Q (F0 m pc ls (.ref ra :: .ref (b 0) :: rest)) := by
  have eW : (F ++ (qW z cG (va_up b 3 ra) rp rw (va_up rm k q) lv lk pu fa he n nv du w mp' mi' (k + 1) nt fu re ++ M) : va_W) = F ++ ((b 0, .inr (1, [.int nt, .int fu, .int re, .ref (b 1), .ref (b 2), .ref ra])) :: (b 1, .inl (cG, n, qS rp)) :: (b 2, .inl (cG, w, qS rw)) :: (ra, .inl (cG, k + 1, qS (va_up rm k q))) :: (rW z.1 5 rp (prow lv lk pu fa he) n ++ (rW z.1 2 rw (wrow nv du) w ++ (rW z.1 2 rm (wrow mp mi) k ++ [(q, .inl (z.1, 2, .inl (wrow mp' mi' k)))]))) ++ M) := by
    unfold qW qT
    congr 1
    have e1 : rW z.1 2 (va_up rm k q) (wrow mp' mi') (k + 1) = rW z.1 2 rm (wrow mp mi) k ++ [(q, .inl (z.1, 2, .inl (wrow mp' mi' k)))] := by
      rw [rW_succ]
      have e2 : va_up rm k q k = q := if_pos rfl
      rw [e2]
      congr 1
      exact rW_congr (fun i hi => if_neg (by omega)) (fun i hi => by funext t; unfold wrow; rw [(hold i hi).1, (hold i hi).2])
    rw [e1]
    rfl
  refine va_put (D := D) (ci := 1) (v := .ref ra) (ty := .array (.array .int)) (C := RX1) (T := TX1) (N := 6) hC.1 hC.2.1 hC.2.2.2.2 lays_X1 tyX1 tyX1_ok nmX1 hC.2.2.2.1 hK hP hD hS (((ra, .inl (cG, k + 1, qS (va_up rm k q))) :: (q, .inl (z.1, 2, .inl lr)) :: F).length + 0) (wj_rt (X := ((ra, .inl (cG, k + 1, qS (va_up rm k q))) :: (q, .inl (z.1, 2, .inl lr)) :: F)) (k := 0) rfl) rfl 5 (by decide) (hC.2.2.2.2 _ hk) (fun _ h9 => h9) rfl (by decide +kernel) rfl rfl (Nat.le_of_ble_eq_true rfl) hdg (fun H1 locs1 hP1 hD1 hS1 => ?_)
  have hP1 : va_P D vwCl ((ra, .inl (cG, k + 1, qS (va_up rm k q))) :: (q, .inl (z.1, 2, .inl lr)) :: (F ++ ((b 0, .inr (1, [.int nt, .int fu, .int re, .ref (b 1), .ref (b 2), .ref ra])) :: (b 1, .inl (cG, n, qS rp)) :: (b 2, .inl (cG, w, qS rw)) :: (b 3, .inl (cG, k, qS rm)) :: (rW z.1 5 rp (prow lv lk pu fa he) n ++ (rW z.1 2 rw (wrow nv du) w ++ rW z.1 2 rm (wrow mp mi) k)) ++ M))) H1 := by have h9 := hP1; rw [wj_set] at h9; exact h9
  have hD1 : va_D A ((ra, .inl (cG, k + 1, qS (va_up rm k q))) :: (q, .inl (z.1, 2, .inl lr)) :: (F ++ ((b 0, .inr (1, [.int nt, .int fu, .int re, .ref (b 1), .ref (b 2), .ref ra])) :: (b 1, .inl (cG, n, qS rp)) :: (b 2, .inl (cG, w, qS rw)) :: (b 3, .inl (cG, k, qS rm)) :: (rW z.1 5 rp (prow lv lk pu fa he) n ++ (rW z.1 2 rw (wrow nv du) w ++ rW z.1 2 rm (wrow mp mi) k)) ++ M))) := by have h9 := hD1; rw [wj_set] at h9; exact h9
  rw [wj_mP] at hP1
  rw [wj_mD] at hD1
  refine kk H1 locs1 ?_ ?_ hS1
  · rw [eW, wj_mP]
    intro x hx
    by_cases ex : x = (q, .inl (z.1, 2, .inl (wrow mp' mi' k)))
    · subst ex
      have h1 := hP1 (q, .inl (z.1, 2, .inl lr)) (by simp)
      show H1[q]? = some (vp_cell z.1 (2, .inl _))
      rw [← cell_ext hlr]
      exact h1
    · refine hP1 x ?_
      simp only [List.mem_append, List.mem_cons, List.not_mem_nil, or_false, List.cons_append] at hx ⊢
      grind
  · rw [eW, wj_mD]
    refine ⟨nd_perm hD1.1 (fun a => ?_), fun x hx => ?_⟩
    · simp only [List.map_append, List.map_cons, List.map_nil, List.count_append, List.count_cons, List.count_nil, List.cons_append]
      omega
    · by_cases ex : x = (q, .inl (z.1, 2, .inl (wrow mp' mi' k)))
      · subst ex
        exact hD1.2 (q, .inl (z.1, 2, .inl lr)) (by simp)
      · refine hD1.2 x ?_
        simp only [List.mem_append, List.mem_cons, List.not_mem_nil, or_false, List.cons_append] at hx ⊢
        grind
end QG

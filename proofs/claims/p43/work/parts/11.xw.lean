def sp_ins (t : Int32) : Nat → (Nat → Int32) → (Nat → Int32)
  | 0, g => upd g 0 t
  | p + 1, g => if g p ≤ t then upd g (p + 1) t else sp_ins t p (upd g (p + 1) (g p))
def sp_tn (du nv : Nat → Int32) : Nat → Nat
  | 0 => 0
  | j + 1 => if du j = 0 then sp_tn du nv j else if sp_sh (nv j) = 0 then sp_tn du nv j + 1 else sp_tn du nv j
def sp_tarr (du nv : Nat → Int32) (b : Int32) (g : Nat → Int32) : Nat → (Nat → Int32)
  | 0 => g
  | j + 1 => if du j = 0 then sp_tarr du nv b g j else if sp_sh (nv j) = 0 then sp_ins (sp_tale (nv j) b) (sp_tn du nv j) (sp_tarr du nv b g j) else sp_tarr du nv b g j
def sp_mid (du nv : Nat → Int32) (b : Int32) (g : Nat → Int32) (w : Nat) : Int32 := if sp_tn du nv w = 0 then 0 else sp_tarr du nv b g w ((sp_tn du nv w - 1) / 2)
def sp_fr (du : Nat → Int32) (q : Int32) (nv : Nat → Int32) : Nat → (Nat → Int32)
  | 0 => nv
  | j + 1 => if du j = 0 then sp_fr du q nv j else upd (sp_fr du q nv j) j (imax 0 (sp_fr du q nv j j - q))
def sp_nn (du nv : Nat → Int32) : Nat → (Nat → Int32)
  | 0 => nv
  | j + 1 => upd (sp_nn du nv j) j (imin 9 (sp_nn du nv j j + sp_gain (du j)))
def sp_nl (lv lk : Nat → Int32) : Nat → (Nat → Int32)
  | 0 => lk
  | j + 1 => if lv j = 0 then sp_nl lv lk j else upd (sp_nl lv lk j) j (imin 99 (sp_nl lv lk j j + 1))
def sp_pn (du : Nat → Int32) (w : Nat) (nv : Nat → Int32) : Nat → (Nat → Int32)
  | 0 => nv
  | t + 1 => sp_nn du (sp_pn du w nv t) w
def sp_pl (lv : Nat → Int32) (n : Nat) (lk : Nat → Int32) : Nat → (Nat → Int32)
  | 0 => lk
  | t + 1 => sp_nl lv (sp_pl lv n lk t) n
theorem ni_m1 {i : Nat} (h : i < 2 ^ 31) : ¬ nI i = -1 := fun q => by
  have h1 := congrArg Int32.toInt q
  rw [nI_toInt h] at h1
  have h2 : (-1 : Int32).toInt = -1 := by decide
  omega
def sp_not (x : Int32) : Int32 := if x = 0 then 1 else 0
theorem ix_mid {q : Nat} (h0 : 0 < q) (h : q < 100) : (nI q - 1) / 2 = nI ((q - 1) / 2) := by
  rw [show nI q - 1 = nI (q - 1) from pk_sub (a := q) (b := 1) h0]
  exact pk_div (a := q - 1) (d := 2) (by omega) (by decide) (by decide)

set_option maxHeartbeats 4000000 in
set_option maxRecDepth 100000 in
theorem c_X0_insertTale (l : Launch) (sz : Nat) {D : va_G} {z : ClassId × ClassId} {a : Nat → Nat} {lv lk pu fa he : Nat → Int32} {n : Nat} {nv du ta : Nat → Int32} {w : Nat} {mp mi : Nat → Int32} {k : Nat} {nt fu re : Int32} (j : Nat) (hj : j < 6) (tv : Int32) : Met l yX0_insertTale (ws_ yX0_insertTale cX0_insertTale 4 none) ({ frames := 0, cells := 0, slots := 0, locals := 0 } : Room) (va_Pc [.ref (a 0), .int (nI j), .int tv] (fun U => U.heap.size = sz ∧ xI D z a lv lk pu fa he n nv du ta w mp mi k nt fu re U ∧ va_D (fun _ => True) (xW z a lv lk pu fa he n nv du ta w mp mi k nt fu re))) (va_Qv (fun _ : Unit => True) (fun _ t9 => va_P D vwCl (xW z a lv lk pu fa he n nv du (sp_ins tv j ta) w mp mi k nt fu re) t9.heap ∧ kK D z t9 ∧ va_D (va_A (xW z a lv lk pu fa he n nv du ta w mp mi k nt fu re) sz) (xW z a lv lk pu fa he n nv du (sp_ins tv j ta) w mp mi k nt fu re)) (va_A (xW z a lv lk pu fa he n nv du ta w mp mi k nt fu re) sz)) 0 0 (va_A (xW z a lv lk pu fa he n nv du ta w mp mi k nt fu re) sz) := by
  refine Met.ofW (cc := cX0_insertTale) (maxL := 4) (ret := none) (by decide) rfl ?_
  intro p e s m args below meth c s₁ B hml hv
  obtain ⟨rfl, hsz, ⟨hP, hK⟩, hD0⟩ := hv
  have hx := B.exec
  have hb := B.bytes
  have hr := B.returns
  have hts := atoms_spec (ws := ws_ yX0_insertTale cX0_insertTale 4 none) B.pre
  have hts : ∀ w ∈ lw_all, w.before _ s = true := fun w h => hts w (List.mem_cons_of_mem _ h)
  have hown : s.vm.findClass RX0 = some m.cls := findClass_of_methodNamed B.named
  have hlocks := B.notSynchronized
  have hC : CallFix p m c cX0_insertTale 4 s _ lw_all RX0 := ⟨hx, hb, hml, hown, hts⟩
  subst hsz
  have hD := hD0.self (sz := s.heap.size)
  generalize hAe : va_A (xW z a lv lk pu fa he n nv du ta w mp mi k nt fu re) s.heap.size = A at hD ⊢
  have hA : ∀ q : Nat, s.heap.size ≤ q → A q := fun q h => by rw [← hAe]; exact Or.inr h
  have hS : va_S A s.heap s.heap [] := va_S.rf
  have hl := lv_entry ([.ref (a 0), .int (nI j), .int tv]) (n := 4) (Nat.le_of_ble_eq_true rfl)
  rw [lg_entry_eq]
  generalize (lg_sl ([.ref (a 0), .int (nI j), .int tv]) ++ List.replicate (4 - (lg_sl ([.ref (a 0), .int (nI j), .int tv])).length) Slot.unset).toArray = ls at hl ⊢
  have hl : lv_has ls 4 [(0, .ref (a 0)), (1, .int (nI j)), (2, .int tv)] := hl
  refine lv_iload_n hx hb dX0_insertTale_0 rfl (lv_at hl 1 rfl) ?_
  refine lv_istore_n (lv' := [(3, .int (nI j)), (0, .ref (a 0)), (1, .int (nI j)), (2, .int tv)]) hx hb dX0_insertTale_1 rfl hl (by decide) rfl (fun ls hl => ?_)
  have loop_2 : ∀ (f : Nat) (pl : Nat) (g : Nat → Int32), pl ≤ j → pl + 1 ≤ f → sp_ins tv pl g = sp_ins tv j ta → ∀ (H : Heap) (locs : List Loc), va_P D vwCl (xW z a lv lk pu fa he n nv du g w mp mi k nt fu re) H → va_D A (xW z a lv lk pu fa he n nv du g w mp mi k nt fu re) → va_S A s.heap H locs → ∀ ls : Array Slot, lv_has ls 4 [(0, .ref (a 0)), (1, .int (nI j)), (2, .int tv), (3, .int (nI pl))] → W p l e ({ frames := 0, cells := 0, slots := 0, locals := 0 } : Room) s m ([.ref (a 0), .int (nI j), .int tv] : List Value).toArray below meth c H locs 0 0 (MQ below (va_Qv (fun _ : Unit => True) (fun _ t9 => va_P D vwCl (xW z a lv lk pu fa he n nv du (sp_ins tv j ta) w mp mi k nt fu re) t9.heap ∧ kK D z t9 ∧ va_D A (xW z a lv lk pu fa he n nv du (sp_ins tv j ta) w mp mi k nt fu re)) A) ([.ref (a 0), .int (nI j), .int tv] : List Value).toArray s 0 0 A) (F0 m 2 ls []) := by
    intro f
    induction f with
    | zero =>
      intro pl g hp hf eg
      exact absurd hf (by omega)
    | succ f ih2 =>
      intro pl g hp hf eg H locs hP hD hS ls hl
      refine lv_iload_n hx hb dX0_insertTale_2 rfl (lv_at hl 3 rfl) ?_
      refine lv_if_le (tgt := 38) hx hb dX0_insertTale_3 (by decide) (fun c_3 => ?_) (fun c_3 => ?_)
      · have nc_3 : pl ≤ 0 := nn_le (by omega) c_3
        refine lv_aload_n hx hb dX0_insertTale_38 rfl (lv_at hl 0 rfl) ?_
        refine xg_ta hC hK hP dX0_insertTale_39 ?_
        refine lv_iload_n hx hb dX0_insertTale_42 rfl (lv_at hl 3 rfl) ?_
        refine lv_iload_n hx hb dX0_insertTale_43 rfl (lv_at hl 2 rfl) ?_
        refine xs_ta hC hK hP hD hS pl rfl (by omega) dX0_insertTale_44 (fun H locs hP hD hS => ?_)
        have hW9 : (xW z a lv lk pu fa he n nv du (upd g pl tv) w mp mi k nt fu re : va_W) = xW z a lv lk pu fa he n nv du (sp_ins tv j ta) w mp mi k nt fu re := (by rw [← eg]; obtain rfl : pl = 0 := (by omega); rfl)
        rw [hW9] at hP hD
        exact W.vret hx hb hr (fun t ht hW => ⟨⟨(), rfl, trivial, by rw [ht]; exact hP, va_K.moved hW.alike hK, hD⟩, hS.F ht⟩) hS.2.2 dX0_insertTale_45
      · have nc_3 : 0 < pl := nn_nle (by omega) c_3
        obtain ⟨q, rfl⟩ : ∃ q : Nat, pl = q + 1 := ⟨pl - 1, by omega⟩
        refine lv_aload_n hx hb dX0_insertTale_6 rfl (lv_at hl 0 rfl) ?_
        refine xg_ta hC hK hP dX0_insertTale_7 ?_
        refine lv_iload_n hx hb dX0_insertTale_10 rfl (lv_at hl 3 rfl) ?_
        refine lv_iconst (v := 1) hx hb dX0_insertTale_11 (by decide) ?_
        refine lv_isub hx hb dX0_insertTale_12 ?_
        refine xl_ta hC hK hP q (nI_pred _) (by omega) dX0_insertTale_13 ?_
        refine lv_iload_n hx hb dX0_insertTale_14 rfl (lv_at hl 2 rfl) ?_
        refine lv_icmp_le (tgt := 38) hx hb dX0_insertTale_15 (by decide) (fun c_15 => ?_) (fun c_15 => ?_)
        · refine lv_aload_n hx hb dX0_insertTale_38 rfl (lv_at hl 0 rfl) ?_
          refine xg_ta hC hK hP dX0_insertTale_39 ?_
          refine lv_iload_n hx hb dX0_insertTale_42 rfl (lv_at hl 3 rfl) ?_
          refine lv_iload_n hx hb dX0_insertTale_43 rfl (lv_at hl 2 rfl) ?_
          refine xs_ta hC hK hP hD hS (q + 1) rfl (by omega) dX0_insertTale_44 (fun H locs hP hD hS => ?_)
          have hW9 : (xW z a lv lk pu fa he n nv du (upd g (q + 1) tv) w mp mi k nt fu re : va_W) = xW z a lv lk pu fa he n nv du (sp_ins tv j ta) w mp mi k nt fu re := (by rw [← eg]; simp [sp_ins, c_15])
          rw [hW9] at hP hD
          exact W.vret hx hb hr (fun t ht hW => ⟨⟨(), rfl, trivial, by rw [ht]; exact hP, va_K.moved hW.alike hK, hD⟩, hS.F ht⟩) hS.2.2 dX0_insertTale_45
        · refine lv_aload_n hx hb dX0_insertTale_18 rfl (lv_at hl 0 rfl) ?_
          refine xg_ta hC hK hP dX0_insertTale_19 ?_
          refine lv_iload_n hx hb dX0_insertTale_22 rfl (lv_at hl 3 rfl) ?_
          refine lv_aload_n hx hb dX0_insertTale_23 rfl (lv_at hl 0 rfl) ?_
          refine xg_ta hC hK hP dX0_insertTale_24 ?_
          refine lv_iload_n hx hb dX0_insertTale_27 rfl (lv_at hl 3 rfl) ?_
          refine lv_iconst (v := 1) hx hb dX0_insertTale_28 (by decide) ?_
          refine lv_isub hx hb dX0_insertTale_29 ?_
          refine xl_ta hC hK hP q (nI_pred _) (by omega) dX0_insertTale_30 ?_
          refine xs_ta hC hK hP hD hS (q + 1) rfl (by omega) dX0_insertTale_31 (fun H locs hP hD hS => ?_)
          refine lv_iinc (v := nI q) (lv' := [(3, .int (nI q)), (0, .ref (a 0)), (1, .int (nI j)), (2, .int tv)]) hx hb dX0_insertTale_32 hl (k := 3) rfl (pk_m1 _) (by decide) rfl (fun ls hl => ?_)
          refine lv_goto (tgt := 2) hx hb dX0_insertTale_35 (by decide) ?_
          exact ih2 q (upd g (q + 1) (g q)) (by omega) (by omega) (by rw [← eg]; simp [sp_ins, c_15]) _ _ hP hD hS _ (lv_sub hl [1, 2, 3, 0] rfl)
  exact loop_2 (j + 1) j ta (Nat.le_refl _) (Nat.le_refl _) rfl _ _ hP hD hS _ (lv_sub hl [1, 2, 3, 0] rfl)
set_option maxRecDepth 100000 in
theorem k_X0_insertTale {p : Program} {l : Launch} {e : Env} {R : Room} {s : State} {m : MethodId} {args : Array Value} {below : List Frame} {meth : Method} {c : Code} {H : Heap} {locs : List Loc} {cells slots : Nat} {Q : State → Prop} {D : va_G} {z : ClassId × ClassId} {a : Nat → Nat} {lv lk pu fa he : Nat → Int32} {n : Nat} {nv du ta : Nat → Int32} {w : Nat} {mp mi : Nat → Int32} {k : Nat} {nt fu re : Int32} {cc : ByteArray} {nL pc : Nat} {ls : Array Slot} {rest : List Value} {A : Nat → Prop} {H0 : Heap} (hC : CallFix p m c cc nL s args lw_all RX0) (hK : kK D z s) (hP : va_P D vwCl (xW z a lv lk pu fa he n nv du ta w mp mi k nt fu re) H) (hD : va_D A (xW z a lv lk pu fa he n nv du ta w mp mi k nt fu re)) (hS : va_S A H0 H locs) (hA : ∀ q : Nat, H0.size ≤ q → A q) (hl : ls.size = nL) (hR : 1 ≤ R.frames ∧ 23 ≤ R.locals) (hz : cells ≤ R.cells ∧ slots ≤ R.slots) (hr : (rest.map fun v => v.category).sum ≤ 8) {j : Nat} {tv : Int32} {x0 : Int32} (hx0 : x0 = nI j) (hj : j < 6) (hdg : decode cc pc = .ok (.invokevirtual 197, 3)) (kk : ∀ (H1 : Heap) (locs1 : List Loc), va_P D vwCl (xW z a lv lk pu fa he n nv du (sp_ins tv j ta) w mp mi k nt fu re) H1 → va_D A (xW z a lv lk pu fa he n nv du (sp_ins tv j ta) w mp mi k nt fu re) → va_S A H0 H1 locs1 → W p l e R s m args below meth c H1 locs1 cells slots Q (F0 m (pc + 3) ls rest)) : W p l e R s m args below meth c H locs cells slots Q (F0 m pc ls (.int tv :: .int x0 :: .ref (a 0) :: rest)) := by
  subst hx0
  have hF := va_free (wc := xW z a lv lk pu fa he n nv du ta w mp mi k nt fu re) hD hS hA [0, 1, 2, 3, 4, 5, 6, 7, 8, 9, 10] rfl
  refine va_callv (va_runV (As := [.int (nI j), .int tv]) (rest := rest) hC (c_X0_insertTale l H.size j hj tv) (cwV 2 hC.2.2.2.2 (gi_V mM_X0_197 mV_X0_insertTale mS_X0_insertTale mI_MissRegistry mC_X0_insertTale) rfl rfl rfl (by decide +kernel) hR) ⟨fun a1 U g mk q => ⟨q.1, q.2.1, ⟨q.2.2.1.1, va_K.moved (u := U) (U := U.calling g mk a1) (Vm.Alike.refl U.vm) q.2.2.1.2⟩, q.2.2.2⟩, va_recv hK hP (ci := 0) (q0 := 0) rfl rfl, fun U hU hW => ⟨rfl, by rw [hU], ⟨by rw [hU]; exact hP, va_K.moved hW.alike hK⟩, hD.weaken (fun _ _ _ _ => trivial)⟩⟩ rfl rfl hl rfl (lv_room hr) hdg hz) hS (fun q _ h => hF q h) hF (fun u t H1 locs1 ht hvm hw hB hz1 hk1 hS1 => ?_)
  obtain ⟨hP1, hK1, hD1⟩ := hB
  rw [ht] at hP1
  exact kk H1 locs1 hP1 (hD1.weaken (fun _ q9 _ h => hF q9.1 h)) hS1
set_option maxHeartbeats 4000000 in
set_option maxRecDepth 100000 in
theorem c_X0_middleTale (l : Launch) (sz : Nat) {D : va_G} {z : ClassId × ClassId} {a : Nat → Nat} {lv lk pu fa he : Nat → Int32} {n : Nat} {nv du ta : Nat → Int32} {w : Nat} {mp mi : Nat → Int32} {k : Nat} {nt fu re : Int32} (b : Int32) (hw : w ≤ 6) : Met l yX0_middleTale (ws_ yX0_middleTale cX0_middleTale 4 (some .int)) ({ frames := 2, cells := 0, slots := 0, locals := 43 } : Room) (va_Pc [.ref (a 0), .int b] (fun U => U.heap.size = sz ∧ xI D z a lv lk pu fa he n nv du ta w mp mi k nt fu re U ∧ va_D (fun _ => True) (xW z a lv lk pu fa he n nv du ta w mp mi k nt fu re))) (va_Qi (fun (r : Int32) (_ : Unit) => r = sp_mid du nv b ta w) (fun _ t9 => va_P D vwCl (xW z a lv lk pu fa he n nv du (sp_tarr du nv b ta w) w mp mi k nt fu re) t9.heap ∧ kK D z t9 ∧ va_D (va_A (xW z a lv lk pu fa he n nv du ta w mp mi k nt fu re) sz) (xW z a lv lk pu fa he n nv du (sp_tarr du nv b ta w) w mp mi k nt fu re)) (va_A (xW z a lv lk pu fa he n nv du ta w mp mi k nt fu re) sz)) 0 0 (va_A (xW z a lv lk pu fa he n nv du ta w mp mi k nt fu re) sz) := by
  refine Met.ofW (cc := cX0_middleTale) (maxL := 4) (ret := (some .int)) (by decide) rfl ?_
  intro p e s m args below meth c s₁ B hml hv
  obtain ⟨rfl, hsz, ⟨hP, hK⟩, hD0⟩ := hv
  have hx := B.exec
  have hb := B.bytes
  have hr := B.returns
  have hts := atoms_spec (ws := ws_ yX0_middleTale cX0_middleTale 4 (some .int)) B.pre
  have hts : ∀ w ∈ lw_all, w.before _ s = true := fun w h => hts w (List.mem_cons_of_mem _ h)
  have hown : s.vm.findClass RX0 = some m.cls := findClass_of_methodNamed B.named
  have hlocks := B.notSynchronized
  have hC : CallFix p m c cX0_middleTale 4 s _ lw_all RX0 := ⟨hx, hb, hml, hown, hts⟩
  subst hsz
  have hD := hD0.self (sz := s.heap.size)
  generalize hAe : va_A (xW z a lv lk pu fa he n nv du ta w mp mi k nt fu re) s.heap.size = A at hD ⊢
  have hA : ∀ q : Nat, s.heap.size ≤ q → A q := fun q h => by rw [← hAe]; exact Or.inr h
  have hS : va_S A s.heap s.heap [] := va_S.rf
  have hl := lv_entry ([.ref (a 0), .int b]) (n := 4) (Nat.le_of_ble_eq_true rfl)
  rw [lg_entry_eq]
  generalize (lg_sl ([.ref (a 0), .int b]) ++ List.replicate (4 - (lg_sl ([.ref (a 0), .int b])).length) Slot.unset).toArray = ls at hl ⊢
  have hl : lv_has ls 4 [(0, .ref (a 0)), (1, .int b)] := hl
  refine lv_iconst (v := 0) hx hb dX0_middleTale_0 (by decide) ?_
  refine lv_istore_n (lv' := [(2, .int 0), (0, .ref (a 0)), (1, .int b)]) hx hb dX0_middleTale_1 rfl hl (by decide) rfl (fun ls hl => ?_)
  refine lv_iconst (v := 0) hx hb dX0_middleTale_2 (by decide) ?_
  refine lv_istore_n (lv' := [(3, .int 0), (2, .int 0), (0, .ref (a 0)), (1, .int b)]) hx hb dX0_middleTale_3 rfl hl (by decide) rfl (fun ls hl => ?_)
  have loop_4 : ∀ (f : Nat) (j : Nat) (q : Nat) (g : Nat → Int32), j ≤ w → w + 1 ≤ j + f → q ≤ j → q = sp_tn du nv j → g = sp_tarr du nv b ta j → ∀ (H : Heap) (locs : List Loc), va_P D vwCl (xW z a lv lk pu fa he n nv du g w mp mi k nt fu re) H → va_D A (xW z a lv lk pu fa he n nv du g w mp mi k nt fu re) → va_S A s.heap H locs → ∀ ls : Array Slot, lv_has ls 4 [(0, .ref (a 0)), (1, .int b), (2, .int (nI q)), (3, .int (nI j))] → W p l e ({ frames := 2, cells := 0, slots := 0, locals := 43 } : Room) s m ([.ref (a 0), .int b] : List Value).toArray below meth c H locs 0 0 (MQ below (va_Qi (fun (r : Int32) (_ : Unit) => r = sp_mid du nv b ta w) (fun _ t9 => va_P D vwCl (xW z a lv lk pu fa he n nv du (sp_tarr du nv b ta w) w mp mi k nt fu re) t9.heap ∧ kK D z t9 ∧ va_D A (xW z a lv lk pu fa he n nv du (sp_tarr du nv b ta w) w mp mi k nt fu re)) A) ([.ref (a 0), .int b] : List Value).toArray s 0 0 A) (F0 m 4 ls []) := by
    intro f
    induction f with
    | zero =>
      intro j q g hj hf hqj hq hg
      exact absurd hf (by omega)
    | succ f ih4 =>
      intro j q g hj hf hqj hq hg H locs hP hD hS ls hl
      refine lv_iload_n hx hb dX0_middleTale_4 rfl (lv_at hl 3 rfl) ?_
      refine lv_aload_n hx hb dX0_middleTale_5 rfl (lv_at hl 0 rfl) ?_
      refine xg_w hC hK hP dX0_middleTale_6 ?_
      refine lv_icmp_ge (tgt := 49) hx hb dX0_middleTale_9 (by decide) (fun c_9 => ?_) (fun c_9 => ?_)
      · have nc_9 : w ≤ j := nn_le (by omega) c_9
        have ej : j = w := by omega
        rw [ej] at hq hg
        refine lv_iload_n hx hb dX0_middleTale_49 rfl (lv_at hl 2 rfl) ?_
        refine lv_if_ne (tgt := 55) hx hb dX0_middleTale_50 (by decide) (fun c_50 => ?_) (fun c_50 => ?_)
        · have nc_50 : ¬ q = 0 := nn_ne (by omega) c_50
          refine lv_aload_n hx hb dX0_middleTale_55 rfl (lv_at hl 0 rfl) ?_
          refine xg_ta hC hK hP dX0_middleTale_56 ?_
          refine lv_iload_n hx hb dX0_middleTale_59 rfl (lv_at hl 2 rfl) ?_
          refine lv_iconst (v := 1) hx hb dX0_middleTale_60 (by decide) ?_
          refine lv_isub hx hb dX0_middleTale_61 ?_
          refine lv_iconst (v := 2) hx hb dX0_middleTale_62 (by decide) ?_
          refine lv_idiv hx hb dX0_middleTale_63 (by decide) ?_
          refine xl_ta hC hK hP ((q - 1) / 2) (ix_mid (by omega) (by omega)) (by omega) dX0_middleTale_64 ?_
          have hW9 : (xW z a lv lk pu fa he n nv du g w mp mi k nt fu re : va_W) = xW z a lv lk pu fa he n nv du (sp_tarr du nv b ta w) w mp mi k nt fu re := (by rw [hg])
          rw [hW9] at hP hD
          exact W.iret (v := g ((q - 1) / 2)) hx hb hr (fun t ht hW => ⟨⟨g ((q - 1) / 2), (), rfl, (by unfold sp_mid; rw [if_neg (by omega), hg, hq]), by rw [ht]; exact hP, va_K.moved hW.alike hK, hD⟩, hS.F ht⟩) hS.2.2 dX0_middleTale_65
        · have nc_50 : q = 0 := nn_eq (by omega) c_50
          refine lv_iconst (v := 0) hx hb dX0_middleTale_53 (by decide) ?_
          have hW9 : (xW z a lv lk pu fa he n nv du g w mp mi k nt fu re : va_W) = xW z a lv lk pu fa he n nv du (sp_tarr du nv b ta w) w mp mi k nt fu re := (by rw [hg])
          rw [hW9] at hP hD
          exact W.iret (v := 0) hx hb hr (fun t ht hW => ⟨⟨0, (), rfl, (by unfold sp_mid; rw [if_pos (by omega)]), by rw [ht]; exact hP, va_K.moved hW.alike hK, hD⟩, hS.F ht⟩) hS.2.2 dX0_middleTale_54
      · have nc_9 : j < w := nn_nle (by omega) c_9
        refine lv_aload_n hx hb dX0_middleTale_12 rfl (lv_at hl 0 rfl) ?_
        refine xg_du hC hK hP dX0_middleTale_13 ?_
        refine lv_iload_n hx hb dX0_middleTale_16 rfl (lv_at hl 3 rfl) ?_
        refine xl_du hC hK hP j rfl (by omega) dX0_middleTale_17 ?_
        refine lv_if_eq (tgt := 43) hx hb dX0_middleTale_18 (by decide) (fun c_18 => ?_) (fun c_18 => ?_)
        · refine lv_iinc (v := nI (j + 1)) (lv' := [(3, .int (nI (j + 1))), (0, .ref (a 0)), (1, .int b), (2, .int (nI q))]) hx hb dX0_middleTale_43 hl (k := 3) rfl (nI_1 _) (by decide) rfl (fun ls hl => ?_)
          refine lv_goto (tgt := 4) hx hb dX0_middleTale_46 (by decide) ?_
          exact ih4 (j + 1) q g (by omega) (by omega) (by omega) (by simp [sp_tn, hq, c_18]) (by simp [sp_tarr, hg, hq, c_18]) _ _ hP hD hS _ (lv_sub hl [1, 2, 3, 0] rfl)
        · refine lv_aload_n hx hb dX0_middleTale_21 rfl (lv_at hl 0 rfl) ?_
          refine lv_iload_n hx hb dX0_middleTale_22 rfl (lv_at hl 3 rfl) ?_
          refine k_X0_isShaken hC hK hP hl.1 ⟨Nat.le_of_ble_eq_true rfl, Nat.le_of_ble_eq_true rfl⟩ ⟨Nat.zero_le _, Nat.zero_le _⟩ (Nat.le_of_ble_eq_true rfl) rfl (by first | assumption | omega) dX0_middleTale_23 ?_
          refine lv_if_ne (tgt := 43) hx hb dX0_middleTale_26 (by decide) (fun c_26 => ?_) (fun c_26 => ?_)
          · refine lv_iinc (v := nI (j + 1)) (lv' := [(3, .int (nI (j + 1))), (0, .ref (a 0)), (1, .int b), (2, .int (nI q))]) hx hb dX0_middleTale_43 hl (k := 3) rfl (nI_1 _) (by decide) rfl (fun ls hl => ?_)
            refine lv_goto (tgt := 4) hx hb dX0_middleTale_46 (by decide) ?_
            exact ih4 (j + 1) q g (by omega) (by omega) (by omega) (by simp [sp_tn, hq, c_18, c_26]) (by simp [sp_tarr, hg, hq, c_18, c_26]) _ _ hP hD hS _ (lv_sub hl [1, 2, 3, 0] rfl)
          · refine lv_aload_n hx hb dX0_middleTale_29 rfl (lv_at hl 0 rfl) ?_
            refine lv_iload_n hx hb dX0_middleTale_30 rfl (lv_at hl 2 rfl) ?_
            refine lv_aload_n hx hb dX0_middleTale_31 rfl (lv_at hl 0 rfl) ?_
            refine lv_iload_n hx hb dX0_middleTale_32 rfl (lv_at hl 3 rfl) ?_
            refine lv_iload_n hx hb dX0_middleTale_33 rfl (lv_at hl 1 rfl) ?_
            refine k_X0_tale hC hK hP hl.1 ⟨Nat.le_of_ble_eq_true rfl, Nat.le_of_ble_eq_true rfl⟩ ⟨Nat.zero_le _, Nat.zero_le _⟩ (Nat.le_of_ble_eq_true rfl) rfl (by first | assumption | omega) dX0_middleTale_34 ?_
            refine k_X0_insertTale hC hK hP hD hS hA hl.1 ⟨Nat.le_of_ble_eq_true rfl, Nat.le_of_ble_eq_true rfl⟩ ⟨Nat.zero_le _, Nat.zero_le _⟩ (Nat.le_of_ble_eq_true rfl) rfl (by first | assumption | omega) dX0_middleTale_37 (fun H locs hP hD hS => ?_)
            refine lv_iinc (v := nI (q + 1)) (lv' := [(2, .int (nI (q + 1))), (0, .ref (a 0)), (1, .int b), (3, .int (nI j))]) hx hb dX0_middleTale_40 hl (k := 2) rfl (nI_1 _) (by decide) rfl (fun ls hl => ?_)
            refine lv_iinc (v := nI (j + 1)) (lv' := [(3, .int (nI (j + 1))), (2, .int (nI (q + 1))), (0, .ref (a 0)), (1, .int b)]) hx hb dX0_middleTale_43 hl (k := 3) rfl (nI_1 _) (by decide) rfl (fun ls hl => ?_)
            refine lv_goto (tgt := 4) hx hb dX0_middleTale_46 (by decide) ?_
            exact ih4 (j + 1) (q + 1) (sp_ins (sp_tale (nv j) b) q g) (by omega) (by omega) (by omega) (by simp [sp_tn, hq, c_18, c_26]) (by simp [sp_tarr, hg, hq, c_18, c_26]) _ _ hP hD hS _ (lv_sub hl [2, 3, 1, 0] rfl)
  exact loop_4 (w + 1) 0 0 ta (Nat.zero_le _) (by omega) (Nat.le_refl _) rfl rfl _ _ hP hD hS _ (lv_sub hl [2, 3, 1, 0] rfl)
set_option maxRecDepth 100000 in
theorem k_X0_middleTale {p : Program} {l : Launch} {e : Env} {R : Room} {s : State} {m : MethodId} {args : Array Value} {below : List Frame} {meth : Method} {c : Code} {H : Heap} {locs : List Loc} {cells slots : Nat} {Q : State → Prop} {D : va_G} {z : ClassId × ClassId} {a : Nat → Nat} {lv lk pu fa he : Nat → Int32} {n : Nat} {nv du ta : Nat → Int32} {w : Nat} {mp mi : Nat → Int32} {k : Nat} {nt fu re : Int32} {cc : ByteArray} {nL pc : Nat} {ls : Array Slot} {rest : List Value} {A : Nat → Prop} {H0 : Heap} (hC : CallFix p m c cc nL s args lw_all RX0) (hK : kK D z s) (hP : va_P D vwCl (xW z a lv lk pu fa he n nv du ta w mp mi k nt fu re) H) (hD : va_D A (xW z a lv lk pu fa he n nv du ta w mp mi k nt fu re)) (hS : va_S A H0 H locs) (hA : ∀ q : Nat, H0.size ≤ q → A q) (hl : ls.size = nL) (hR : 3 ≤ R.frames ∧ 66 ≤ R.locals) (hz : cells ≤ R.cells ∧ slots ≤ R.slots) (hr : (rest.map fun v => v.category).sum ≤ 8) {b : Int32}  (hw : w ≤ 6) (hdg : decode cc pc = .ok (.invokevirtual 95, 3)) (kk : ∀ (H1 : Heap) (locs1 : List Loc), va_P D vwCl (xW z a lv lk pu fa he n nv du (sp_tarr du nv b ta w) w mp mi k nt fu re) H1 → va_D A (xW z a lv lk pu fa he n nv du (sp_tarr du nv b ta w) w mp mi k nt fu re) → va_S A H0 H1 locs1 → W p l e R s m args below meth c H1 locs1 cells slots Q (F0 m (pc + 3) ls (.int (sp_mid du nv b ta w) :: rest))) : W p l e R s m args below meth c H locs cells slots Q (F0 m pc ls (.int b :: .ref (a 0) :: rest)) := by
  have hF := va_free (wc := xW z a lv lk pu fa he n nv du ta w mp mi k nt fu re) hD hS hA [0, 1, 2, 3, 4, 5, 6, 7, 8, 9, 10] rfl
  refine va_calli (va_runV (As := [.int b]) (rest := rest) hC (c_X0_middleTale l H.size b hw) (cwV 1 hC.2.2.2.2 (gi_V mM_X0_95 mV_X0_middleTale mS_X0_middleTale mI_MissRegistry mC_X0_middleTale) rfl rfl rfl (by decide +kernel) hR) ⟨fun a1 U g mk q => ⟨q.1, q.2.1, ⟨q.2.2.1.1, va_K.moved (u := U) (U := U.calling g mk a1) (Vm.Alike.refl U.vm) q.2.2.1.2⟩, q.2.2.2⟩, va_recv hK hP (ci := 0) (q0 := 0) rfl rfl, fun U hU hW => ⟨rfl, by rw [hU], ⟨by rw [hU]; exact hP, va_K.moved hW.alike hK⟩, hD.weaken (fun _ _ _ _ => trivial)⟩⟩ rfl rfl hl rfl (lv_room hr) hdg hz) hS (fun q _ h => hF q h) hF (fun r u t H1 locs1 ht hvm hw hB hz1 hk1 hS1 => ?_)
  obtain ⟨hP1, hK1, hD1⟩ := hB
  rw [ht] at hP1
  have hw : r = sp_mid du nv b ta w := hw
  rw [hw]
  exact kk H1 locs1 hP1 (hD1.weaken (fun _ q9 _ h => hF q9.1 h)) hS1
set_option maxHeartbeats 4000000 in
set_option maxRecDepth 100000 in
theorem c_X0_refundFate (l : Launch) (sz : Nat) {D : va_G} {z : ClassId × ClassId} {a : Nat → Nat} {lv lk pu fa he : Nat → Int32} {n : Nat} {nv du ta : Nat → Int32} {w : Nat} {mp mi : Nat → Int32} {k : Nat} {nt fu re : Int32} (i : Nat) (hi : i < 10) (b : Int32) : Met l yX0_refundFate (ws_ yX0_refundFate cX0_refundFate 4 none) ({ frames := 2, cells := 0, slots := 0, locals := 44 } : Room) (va_Pc [.ref (a 0), .int (nI i), .int b] (fun U => U.heap.size = sz ∧ xI D z a lv lk pu fa he n nv du ta w mp mi k nt fu re U ∧ va_D (fun _ => True) (xW z a lv lk pu fa he n nv du ta w mp mi k nt fu re))) (va_Qv (fun _ : Unit => True) (fun _ t9 => va_P D vwCl (xW z a lv lk (if sp_uses (lv i) (fa i) b = 0 then pu else upd pu i (pu i + sp_coins (lv i) (fa i) (lk i) fu b)) (if sp_uses (lv i) (fa i) b = 0 then fa else upd fa i (fa i - 1)) he n nv du ta w mp mi k nt (if sp_uses (lv i) (fa i) b = 0 then fu else fu - sp_coins (lv i) (fa i) (lk i) fu b) (if sp_uses (lv i) (fa i) b = 0 then re else re + sp_coins (lv i) (fa i) (lk i) fu b)) t9.heap ∧ kK D z t9 ∧ va_D (va_A (xW z a lv lk pu fa he n nv du ta w mp mi k nt fu re) sz) (xW z a lv lk (if sp_uses (lv i) (fa i) b = 0 then pu else upd pu i (pu i + sp_coins (lv i) (fa i) (lk i) fu b)) (if sp_uses (lv i) (fa i) b = 0 then fa else upd fa i (fa i - 1)) he n nv du ta w mp mi k nt (if sp_uses (lv i) (fa i) b = 0 then fu else fu - sp_coins (lv i) (fa i) (lk i) fu b) (if sp_uses (lv i) (fa i) b = 0 then re else re + sp_coins (lv i) (fa i) (lk i) fu b))) (va_A (xW z a lv lk pu fa he n nv du ta w mp mi k nt fu re) sz)) 0 0 (va_A (xW z a lv lk pu fa he n nv du ta w mp mi k nt fu re) sz) := by
  refine Met.ofW (cc := cX0_refundFate) (maxL := 4) (ret := none) (by decide) rfl ?_
  intro p e s m args below meth c s₁ B hml hv
  obtain ⟨rfl, hsz, ⟨hP, hK⟩, hD0⟩ := hv
  have hx := B.exec
  have hb := B.bytes
  have hr := B.returns
  have hts := atoms_spec (ws := ws_ yX0_refundFate cX0_refundFate 4 none) B.pre
  have hts : ∀ w ∈ lw_all, w.before _ s = true := fun w h => hts w (List.mem_cons_of_mem _ h)
  have hown : s.vm.findClass RX0 = some m.cls := findClass_of_methodNamed B.named
  have hlocks := B.notSynchronized
  have hC : CallFix p m c cX0_refundFate 4 s _ lw_all RX0 := ⟨hx, hb, hml, hown, hts⟩
  subst hsz
  have hD := hD0.self (sz := s.heap.size)
  generalize hAe : va_A (xW z a lv lk pu fa he n nv du ta w mp mi k nt fu re) s.heap.size = A at hD ⊢
  have hA : ∀ q : Nat, s.heap.size ≤ q → A q := fun q h => by rw [← hAe]; exact Or.inr h
  have hS : va_S A s.heap s.heap [] := va_S.rf
  have hl := lv_entry ([.ref (a 0), .int (nI i), .int b]) (n := 4) (Nat.le_of_ble_eq_true rfl)
  rw [lg_entry_eq]
  generalize (lg_sl ([.ref (a 0), .int (nI i), .int b]) ++ List.replicate (4 - (lg_sl ([.ref (a 0), .int (nI i), .int b])).length) Slot.unset).toArray = ls at hl ⊢
  have hl : lv_has ls 4 [(0, .ref (a 0)), (1, .int (nI i)), (2, .int b)] := hl
  refine lv_aload_n hx hb dX0_refundFate_0 rfl (lv_at hl 0 rfl) ?_
  refine lv_iload_n hx hb dX0_refundFate_1 rfl (lv_at hl 1 rfl) ?_
  refine lv_iload_n hx hb dX0_refundFate_2 rfl (lv_at hl 2 rfl) ?_
  refine k_X0_usesFate hC hK hP hl.1 ⟨Nat.le_of_ble_eq_true rfl, Nat.le_of_ble_eq_true rfl⟩ ⟨Nat.zero_le _, Nat.zero_le _⟩ (Nat.le_of_ble_eq_true rfl) rfl (by first | assumption | omega) dX0_refundFate_3 ?_
  refine lv_if_eq (tgt := 56) hx hb dX0_refundFate_6 (by decide) (fun c_6 => ?_) (fun c_6 => ?_)
  · have hW9 : (xW z a lv lk pu fa he n nv du ta w mp mi k nt fu re : va_W) = xW z a lv lk (if sp_uses (lv i) (fa i) b = 0 then pu else upd pu i (pu i + sp_coins (lv i) (fa i) (lk i) fu b)) (if sp_uses (lv i) (fa i) b = 0 then fa else upd fa i (fa i - 1)) he n nv du ta w mp mi k nt (if sp_uses (lv i) (fa i) b = 0 then fu else fu - sp_coins (lv i) (fa i) (lk i) fu b) (if sp_uses (lv i) (fa i) b = 0 then re else re + sp_coins (lv i) (fa i) (lk i) fu b) := (by simp [c_6])
    rw [hW9] at hP hD
    exact W.vret hx hb hr (fun t ht hW => ⟨⟨(), rfl, trivial, by rw [ht]; exact hP, va_K.moved hW.alike hK, hD⟩, hS.F ht⟩) hS.2.2 dX0_refundFate_56
  · refine lv_aload_n hx hb dX0_refundFate_9 rfl (lv_at hl 0 rfl) ?_
    refine lv_iload_n hx hb dX0_refundFate_10 rfl (lv_at hl 1 rfl) ?_
    refine lv_iload_n hx hb dX0_refundFate_11 rfl (lv_at hl 2 rfl) ?_
    refine k_X0_refundCoins hC hK hP hl.1 ⟨Nat.le_of_ble_eq_true rfl, Nat.le_of_ble_eq_true rfl⟩ ⟨Nat.zero_le _, Nat.zero_le _⟩ (Nat.le_of_ble_eq_true rfl) rfl (by first | assumption | omega) dX0_refundFate_12 ?_
    refine lv_istore_n (lv' := [(3, .int (sp_coins (lv i) (fa i) (lk i) fu b)), (0, .ref (a 0)), (1, .int (nI i)), (2, .int b)]) hx hb dX0_refundFate_15 rfl hl (by decide) rfl (fun ls hl => ?_)
    refine lv_aload_n hx hb dX0_refundFate_16 rfl (lv_at hl 1 rfl) ?_
    refine xg_fa hC hK hP dX0_refundFate_17 ?_
    refine lv_iload_n hx hb dX0_refundFate_20 rfl (lv_at hl 2 rfl) ?_
    refine lv_dup2_11 hx hb dX0_refundFate_21 rfl rfl ?_
    refine xl_fa hC hK hP i rfl (by omega) dX0_refundFate_22 ?_
    refine lv_iconst (v := 1) hx hb dX0_refundFate_23 (by decide) ?_
    refine lv_isub hx hb dX0_refundFate_24 ?_
    refine xs_fa hC hK hP hD hS i rfl (by omega) dX0_refundFate_25 (fun H locs hP hD hS => ?_)
    refine lv_aload_n hx hb dX0_refundFate_26 rfl (lv_at hl 1 rfl) ?_
    refine lv_dup hx hb dX0_refundFate_27 rfl ?_
    refine xg_fu hC hK hP dX0_refundFate_28 ?_
    refine lv_iload_n hx hb dX0_refundFate_31 rfl (lv_at hl 0 rfl) ?_
    refine lv_isub hx hb dX0_refundFate_32 ?_
    refine xp_fu hC hK hP hD hS dX0_refundFate_33 (fun H locs hP hD hS => ?_)
    refine lv_aload_n hx hb dX0_refundFate_36 rfl (lv_at hl 1 rfl) ?_
    refine xg_pu hC hK hP dX0_refundFate_37 ?_
    refine lv_iload_n hx hb dX0_refundFate_40 rfl (lv_at hl 2 rfl) ?_
    refine lv_dup2_11 hx hb dX0_refundFate_41 rfl rfl ?_
    refine xl_pu hC hK hP i rfl (by omega) dX0_refundFate_42 ?_
    refine lv_iload_n hx hb dX0_refundFate_43 rfl (lv_at hl 0 rfl) ?_
    refine lv_iadd hx hb dX0_refundFate_44 ?_
    refine xs_pu hC hK hP hD hS i rfl (by omega) dX0_refundFate_45 (fun H locs hP hD hS => ?_)
    refine lv_aload_n hx hb dX0_refundFate_46 rfl (lv_at hl 1 rfl) ?_
    refine lv_dup hx hb dX0_refundFate_47 rfl ?_
    refine xg_re hC hK hP dX0_refundFate_48 ?_
    refine lv_iload_n hx hb dX0_refundFate_51 rfl (lv_at hl 0 rfl) ?_
    refine lv_iadd hx hb dX0_refundFate_52 ?_
    refine xp_re hC hK hP hD hS dX0_refundFate_53 (fun H locs hP hD hS => ?_)
    have hW9 : (xW z a lv lk (upd pu i ((pu i) + (sp_coins (lv i) (fa i) (lk i) fu b))) (upd fa i ((fa i) - 1)) he n nv du ta w mp mi k nt (fu - (sp_coins (lv i) (fa i) (lk i) fu b)) (re + (sp_coins (lv i) (fa i) (lk i) fu b)) : va_W) = xW z a lv lk (if sp_uses (lv i) (fa i) b = 0 then pu else upd pu i (pu i + sp_coins (lv i) (fa i) (lk i) fu b)) (if sp_uses (lv i) (fa i) b = 0 then fa else upd fa i (fa i - 1)) he n nv du ta w mp mi k nt (if sp_uses (lv i) (fa i) b = 0 then fu else fu - sp_coins (lv i) (fa i) (lk i) fu b) (if sp_uses (lv i) (fa i) b = 0 then re else re + sp_coins (lv i) (fa i) (lk i) fu b) := (by simp [c_6])
    rw [hW9] at hP hD
    exact W.vret hx hb hr (fun t ht hW => ⟨⟨(), rfl, trivial, by rw [ht]; exact hP, va_K.moved hW.alike hK, hD⟩, hS.F ht⟩) hS.2.2 dX0_refundFate_56
set_option maxRecDepth 100000 in
theorem k_X0_refundFate {p : Program} {l : Launch} {e : Env} {R : Room} {s : State} {m : MethodId} {args : Array Value} {below : List Frame} {meth : Method} {c : Code} {H : Heap} {locs : List Loc} {cells slots : Nat} {Q : State → Prop} {D : va_G} {z : ClassId × ClassId} {a : Nat → Nat} {lv lk pu fa he : Nat → Int32} {n : Nat} {nv du ta : Nat → Int32} {w : Nat} {mp mi : Nat → Int32} {k : Nat} {nt fu re : Int32} {cc : ByteArray} {nL pc : Nat} {ls : Array Slot} {rest : List Value} {A : Nat → Prop} {H0 : Heap} (hC : CallFix p m c cc nL s args lw_all RX0) (hK : kK D z s) (hP : va_P D vwCl (xW z a lv lk pu fa he n nv du ta w mp mi k nt fu re) H) (hD : va_D A (xW z a lv lk pu fa he n nv du ta w mp mi k nt fu re)) (hS : va_S A H0 H locs) (hA : ∀ q : Nat, H0.size ≤ q → A q) (hl : ls.size = nL) (hR : 3 ≤ R.frames ∧ 67 ≤ R.locals) (hz : cells ≤ R.cells ∧ slots ≤ R.slots) (hr : (rest.map fun v => v.category).sum ≤ 8) {i : Nat} {b : Int32} {x0 : Int32} (hx0 : x0 = nI i) (hi : i < 10) (hdg : decode cc pc = .ok (.invokevirtual 98, 3)) (kk : ∀ (H1 : Heap) (locs1 : List Loc), va_P D vwCl (xW z a lv lk (if sp_uses (lv i) (fa i) b = 0 then pu else upd pu i (pu i + sp_coins (lv i) (fa i) (lk i) fu b)) (if sp_uses (lv i) (fa i) b = 0 then fa else upd fa i (fa i - 1)) he n nv du ta w mp mi k nt (if sp_uses (lv i) (fa i) b = 0 then fu else fu - sp_coins (lv i) (fa i) (lk i) fu b) (if sp_uses (lv i) (fa i) b = 0 then re else re + sp_coins (lv i) (fa i) (lk i) fu b)) H1 → va_D A (xW z a lv lk (if sp_uses (lv i) (fa i) b = 0 then pu else upd pu i (pu i + sp_coins (lv i) (fa i) (lk i) fu b)) (if sp_uses (lv i) (fa i) b = 0 then fa else upd fa i (fa i - 1)) he n nv du ta w mp mi k nt (if sp_uses (lv i) (fa i) b = 0 then fu else fu - sp_coins (lv i) (fa i) (lk i) fu b) (if sp_uses (lv i) (fa i) b = 0 then re else re + sp_coins (lv i) (fa i) (lk i) fu b)) → va_S A H0 H1 locs1 → W p l e R s m args below meth c H1 locs1 cells slots Q (F0 m (pc + 3) ls rest)) : W p l e R s m args below meth c H locs cells slots Q (F0 m pc ls (.int b :: .int x0 :: .ref (a 0) :: rest)) := by
  subst hx0
  have hF := va_free (wc := xW z a lv lk pu fa he n nv du ta w mp mi k nt fu re) hD hS hA [0, 1, 2, 3, 4, 5, 6, 7, 8, 9, 10] rfl
  refine va_callv (va_runV (As := [.int (nI i), .int b]) (rest := rest) hC (c_X0_refundFate l H.size i hi b) (cwV 2 hC.2.2.2.2 (gi_V mM_X0_98 mV_X0_refundFate mS_X0_refundFate mI_MissRegistry mC_X0_refundFate) rfl rfl rfl (by decide +kernel) hR) ⟨fun a1 U g mk q => ⟨q.1, q.2.1, ⟨q.2.2.1.1, va_K.moved (u := U) (U := U.calling g mk a1) (Vm.Alike.refl U.vm) q.2.2.1.2⟩, q.2.2.2⟩, va_recv hK hP (ci := 0) (q0 := 0) rfl rfl, fun U hU hW => ⟨rfl, by rw [hU], ⟨by rw [hU]; exact hP, va_K.moved hW.alike hK⟩, hD.weaken (fun _ _ _ _ => trivial)⟩⟩ rfl rfl hl rfl (lv_room hr) hdg hz) hS (fun q _ h => hF q h) hF (fun u t H1 locs1 ht hvm hw hB hz1 hk1 hS1 => ?_)
  obtain ⟨hP1, hK1, hD1⟩ := hB
  rw [ht] at hP1
  exact kk H1 locs1 hP1 (hD1.weaken (fun _ q9 _ h => hF q9.1 h)) hS1
set_option maxHeartbeats 4000000 in
set_option maxRecDepth 100000 in
theorem c_X0_frightenWitnesses (l : Launch) (sz : Nat) {D : va_G} {z : ClassId × ClassId} {a : Nat → Nat} {lv lk pu fa he : Nat → Int32} {n : Nat} {nv du ta : Nat → Int32} {w : Nat} {mp mi : Nat → Int32} {k : Nat} {nt fu re : Int32} (q : Int32) (hw : w ≤ 6) : Met l yX0_frightenWitnesses (ws_ yX0_frightenWitnesses cX0_frightenWitnesses 3 none) ({ frames := 1, cells := 0, slots := 0, locals := 21 } : Room) (va_Pc [.ref (a 0), .int q] (fun U => U.heap.size = sz ∧ xI D z a lv lk pu fa he n nv du ta w mp mi k nt fu re U ∧ va_D (fun _ => True) (xW z a lv lk pu fa he n nv du ta w mp mi k nt fu re))) (va_Qv (fun _ : Unit => True) (fun _ t9 => va_P D vwCl (xW z a lv lk pu fa he n (sp_fr du q nv w) du ta w mp mi k nt fu re) t9.heap ∧ kK D z t9 ∧ va_D (va_A (xW z a lv lk pu fa he n nv du ta w mp mi k nt fu re) sz) (xW z a lv lk pu fa he n (sp_fr du q nv w) du ta w mp mi k nt fu re)) (va_A (xW z a lv lk pu fa he n nv du ta w mp mi k nt fu re) sz)) 0 0 (va_A (xW z a lv lk pu fa he n nv du ta w mp mi k nt fu re) sz) := by
  refine Met.ofW (cc := cX0_frightenWitnesses) (maxL := 3) (ret := none) (by decide) rfl ?_
  intro p e s m args below meth c s₁ B hml hv
  obtain ⟨rfl, hsz, ⟨hP, hK⟩, hD0⟩ := hv
  have hx := B.exec
  have hb := B.bytes
  have hr := B.returns
  have hts := atoms_spec (ws := ws_ yX0_frightenWitnesses cX0_frightenWitnesses 3 none) B.pre
  have hts : ∀ w ∈ lw_all, w.before _ s = true := fun w h => hts w (List.mem_cons_of_mem _ h)
  have hown : s.vm.findClass RX0 = some m.cls := findClass_of_methodNamed B.named
  have hlocks := B.notSynchronized
  have hC : CallFix p m c cX0_frightenWitnesses 3 s _ lw_all RX0 := ⟨hx, hb, hml, hown, hts⟩
  subst hsz
  have hD := hD0.self (sz := s.heap.size)
  generalize hAe : va_A (xW z a lv lk pu fa he n nv du ta w mp mi k nt fu re) s.heap.size = A at hD ⊢
  have hA : ∀ q : Nat, s.heap.size ≤ q → A q := fun q h => by rw [← hAe]; exact Or.inr h
  have hS : va_S A s.heap s.heap [] := va_S.rf
  have hl := lv_entry ([.ref (a 0), .int q]) (n := 3) (Nat.le_of_ble_eq_true rfl)
  rw [lg_entry_eq]
  generalize (lg_sl ([.ref (a 0), .int q]) ++ List.replicate (3 - (lg_sl ([.ref (a 0), .int q])).length) Slot.unset).toArray = ls at hl ⊢
  have hl : lv_has ls 3 [(0, .ref (a 0)), (1, .int q)] := hl
  refine lv_iconst (v := 0) hx hb dX0_frightenWitnesses_0 (by decide) ?_
  refine lv_istore_n (lv' := [(2, .int 0), (0, .ref (a 0)), (1, .int q)]) hx hb dX0_frightenWitnesses_1 rfl hl (by decide) rfl (fun ls hl => ?_)
  have loop_2 : ∀ (f : Nat) (j : Nat) (g : Nat → Int32), j ≤ w → w + 1 ≤ j + f → g = sp_fr du q nv j → ∀ (H : Heap) (locs : List Loc), va_P D vwCl (xW z a lv lk pu fa he n g du ta w mp mi k nt fu re) H → va_D A (xW z a lv lk pu fa he n g du ta w mp mi k nt fu re) → va_S A s.heap H locs → ∀ ls : Array Slot, lv_has ls 3 [(0, .ref (a 0)), (1, .int q), (2, .int (nI j))] → W p l e ({ frames := 1, cells := 0, slots := 0, locals := 21 } : Room) s m ([.ref (a 0), .int q] : List Value).toArray below meth c H locs 0 0 (MQ below (va_Qv (fun _ : Unit => True) (fun _ t9 => va_P D vwCl (xW z a lv lk pu fa he n (sp_fr du q nv w) du ta w mp mi k nt fu re) t9.heap ∧ kK D z t9 ∧ va_D A (xW z a lv lk pu fa he n (sp_fr du q nv w) du ta w mp mi k nt fu re)) A) ([.ref (a 0), .int q] : List Value).toArray s 0 0 A) (F0 m 2 ls []) := by
    intro f
    induction f with
    | zero =>
      intro j g hj hf hg
      exact absurd hf (by omega)
    | succ f ih2 =>
      intro j g hj hf hg H locs hP hD hS ls hl
      refine lv_iload_n hx hb dX0_frightenWitnesses_2 rfl (lv_at hl 2 rfl) ?_
      refine lv_aload_n hx hb dX0_frightenWitnesses_3 rfl (lv_at hl 0 rfl) ?_
      refine xg_w hC hK hP dX0_frightenWitnesses_4 ?_
      refine lv_icmp_ge (tgt := 43) hx hb dX0_frightenWitnesses_7 (by decide) (fun c_7 => ?_) (fun c_7 => ?_)
      · have nc_7 : w ≤ j := nn_le (by omega) c_7
        have hW9 : (xW z a lv lk pu fa he n g du ta w mp mi k nt fu re : va_W) = xW z a lv lk pu fa he n (sp_fr du q nv w) du ta w mp mi k nt fu re := (by rw [hg, show j = w by omega])
        rw [hW9] at hP hD
        exact W.vret hx hb hr (fun t ht hW => ⟨⟨(), rfl, trivial, by rw [ht]; exact hP, va_K.moved hW.alike hK, hD⟩, hS.F ht⟩) hS.2.2 dX0_frightenWitnesses_43
      · have nc_7 : j < w := nn_nle (by omega) c_7
        refine lv_aload_n hx hb dX0_frightenWitnesses_10 rfl (lv_at hl 0 rfl) ?_
        refine xg_du hC hK hP dX0_frightenWitnesses_11 ?_
        refine lv_iload_n hx hb dX0_frightenWitnesses_14 rfl (lv_at hl 2 rfl) ?_
        refine xl_du hC hK hP j rfl (by omega) dX0_frightenWitnesses_15 ?_
        refine lv_if_eq (tgt := 37) hx hb dX0_frightenWitnesses_16 (by decide) (fun c_16 => ?_) (fun c_16 => ?_)
        · refine lv_iinc (v := nI (j + 1)) (lv' := [(2, .int (nI (j + 1))), (0, .ref (a 0)), (1, .int q)]) hx hb dX0_frightenWitnesses_37 hl (k := 2) rfl (nI_1 _) (by decide) rfl (fun ls hl => ?_)
          refine lv_goto (tgt := 2) hx hb dX0_frightenWitnesses_40 (by decide) ?_
          exact ih2 (j + 1) g (by omega) (by omega) (by simp [sp_fr, hg, c_16]) _ _ hP hD hS _ (lv_sub hl [1, 2, 0] rfl)
        · refine lv_aload_n hx hb dX0_frightenWitnesses_19 rfl (lv_at hl 0 rfl) ?_
          refine xg_nv hC hK hP dX0_frightenWitnesses_20 ?_
          refine lv_iload_n hx hb dX0_frightenWitnesses_23 rfl (lv_at hl 2 rfl) ?_
          refine lv_iconst (v := 0) hx hb dX0_frightenWitnesses_24 (by decide) ?_
          refine lv_aload_n hx hb dX0_frightenWitnesses_25 rfl (lv_at hl 0 rfl) ?_
          refine xg_nv hC hK hP dX0_frightenWitnesses_26 ?_
          refine lv_iload_n hx hb dX0_frightenWitnesses_29 rfl (lv_at hl 2 rfl) ?_
          refine xl_nv hC hK hP j rfl (by omega) dX0_frightenWitnesses_30 ?_
          refine lv_iload_n hx hb dX0_frightenWitnesses_31 rfl (lv_at hl 1 rfl) ?_
          refine lv_isub hx hb dX0_frightenWitnesses_32 ?_
          refine va_mmax hx hb (hml.trans hl.1.symm) hown (hts _ mM_X0_102) (hts _ mT_max) (hts _ mI_Math) (hts _ mC_max) (Nat.le_of_ble_eq_true rfl) (Nat.le_of_ble_eq_true rfl) (Nat.zero_le _) (Nat.zero_le _) dX0_frightenWitnesses_33 ?_
          refine xs_nv hC hK hP hD hS j rfl (by omega) dX0_frightenWitnesses_36 (fun H locs hP hD hS => ?_)
          refine lv_iinc (v := nI (j + 1)) (lv' := [(2, .int (nI (j + 1))), (0, .ref (a 0)), (1, .int q)]) hx hb dX0_frightenWitnesses_37 hl (k := 2) rfl (nI_1 _) (by decide) rfl (fun ls hl => ?_)
          refine lv_goto (tgt := 2) hx hb dX0_frightenWitnesses_40 (by decide) ?_
          exact ih2 (j + 1) (upd g j (imax 0 ((g j) - q))) (by omega) (by omega) (by simp [sp_fr, hg, c_16]) _ _ hP hD hS _ (lv_sub hl [1, 2, 0] rfl)
  exact loop_2 (w + 1) 0 nv (Nat.zero_le _) (by omega) rfl _ _ hP hD hS _ (lv_sub hl [1, 2, 0] rfl)
set_option maxRecDepth 100000 in
theorem k_X0_frightenWitnesses {p : Program} {l : Launch} {e : Env} {R : Room} {s : State} {m : MethodId} {args : Array Value} {below : List Frame} {meth : Method} {c : Code} {H : Heap} {locs : List Loc} {cells slots : Nat} {Q : State → Prop} {D : va_G} {z : ClassId × ClassId} {a : Nat → Nat} {lv lk pu fa he : Nat → Int32} {n : Nat} {nv du ta : Nat → Int32} {w : Nat} {mp mi : Nat → Int32} {k : Nat} {nt fu re : Int32} {cc : ByteArray} {nL pc : Nat} {ls : Array Slot} {rest : List Value} {A : Nat → Prop} {H0 : Heap} (hC : CallFix p m c cc nL s args lw_all RX0) (hK : kK D z s) (hP : va_P D vwCl (xW z a lv lk pu fa he n nv du ta w mp mi k nt fu re) H) (hD : va_D A (xW z a lv lk pu fa he n nv du ta w mp mi k nt fu re)) (hS : va_S A H0 H locs) (hA : ∀ q : Nat, H0.size ≤ q → A q) (hl : ls.size = nL) (hR : 2 ≤ R.frames ∧ 43 ≤ R.locals) (hz : cells ≤ R.cells ∧ slots ≤ R.slots) (hr : (rest.map fun v => v.category).sum ≤ 8) {q : Int32}  (hw : w ≤ 6) (hdg : decode cc pc = .ok (.invokevirtual 111, 3)) (kk : ∀ (H1 : Heap) (locs1 : List Loc), va_P D vwCl (xW z a lv lk pu fa he n (sp_fr du q nv w) du ta w mp mi k nt fu re) H1 → va_D A (xW z a lv lk pu fa he n (sp_fr du q nv w) du ta w mp mi k nt fu re) → va_S A H0 H1 locs1 → W p l e R s m args below meth c H1 locs1 cells slots Q (F0 m (pc + 3) ls rest)) : W p l e R s m args below meth c H locs cells slots Q (F0 m pc ls (.int q :: .ref (a 0) :: rest)) := by
  have hF := va_free (wc := xW z a lv lk pu fa he n nv du ta w mp mi k nt fu re) hD hS hA [0, 1, 2, 3, 4, 5, 6, 7, 8, 9, 10] rfl
  refine va_callv (va_runV (As := [.int q]) (rest := rest) hC (c_X0_frightenWitnesses l H.size q hw) (cwV 1 hC.2.2.2.2 (gi_V mM_X0_111 mV_X0_frightenWitnesses mS_X0_frightenWitnesses mI_MissRegistry mC_X0_frightenWitnesses) rfl rfl rfl (by decide +kernel) hR) ⟨fun a1 U g mk q => ⟨q.1, q.2.1, ⟨q.2.2.1.1, va_K.moved (u := U) (U := U.calling g mk a1) (Vm.Alike.refl U.vm) q.2.2.1.2⟩, q.2.2.2⟩, va_recv hK hP (ci := 0) (q0 := 0) rfl rfl, fun U hU hW => ⟨rfl, by rw [hU], ⟨by rw [hU]; exact hP, va_K.moved hW.alike hK⟩, hD.weaken (fun _ _ _ _ => trivial)⟩⟩ rfl rfl hl rfl (lv_room hr) hdg hz) hS (fun q _ h => hF q h) hF (fun u t H1 locs1 ht hvm hw hB hz1 hk1 hS1 => ?_)
  obtain ⟨hP1, hK1, hD1⟩ := hB
  rw [ht] at hP1
  exact kk H1 locs1 hP1 (hD1.weaken (fun _ q9 _ h => hF q9.1 h)) hS1
set_option maxHeartbeats 4000000 in
set_option maxRecDepth 100000 in
theorem c_X0_passOneNight (l : Launch) (sz : Nat) {D : va_G} {z : ClassId × ClassId} {a : Nat → Nat} {lv lk pu fa he : Nat → Int32} {n : Nat} {nv du ta : Nat → Int32} {w : Nat} {mp mi : Nat → Int32} {k : Nat} {nt fu re : Int32} (hn : n ≤ 10) (hw : w ≤ 6) : Met l yX0_passOneNight (ws_ yX0_passOneNight cX0_passOneNight 2 none) ({ frames := 1, cells := 0, slots := 0, locals := 21 } : Room) (va_Pc [.ref (a 0)] (fun U => U.heap.size = sz ∧ xI D z a lv lk pu fa he n nv du ta w mp mi k nt fu re U ∧ va_D (fun _ => True) (xW z a lv lk pu fa he n nv du ta w mp mi k nt fu re))) (va_Qv (fun _ : Unit => True) (fun _ t9 => va_P D vwCl (xW z a lv (sp_nl lv lk n) pu fa he n (sp_nn du nv w) du ta w mp mi k (nt + 1) fu re) t9.heap ∧ kK D z t9 ∧ va_D (va_A (xW z a lv lk pu fa he n nv du ta w mp mi k nt fu re) sz) (xW z a lv (sp_nl lv lk n) pu fa he n (sp_nn du nv w) du ta w mp mi k (nt + 1) fu re)) (va_A (xW z a lv lk pu fa he n nv du ta w mp mi k nt fu re) sz)) 0 0 (va_A (xW z a lv lk pu fa he n nv du ta w mp mi k nt fu re) sz) := by
  refine Met.ofW (cc := cX0_passOneNight) (maxL := 2) (ret := none) (by decide) rfl ?_
  intro p e s m args below meth c s₁ B hml hv
  obtain ⟨rfl, hsz, ⟨hP, hK⟩, hD0⟩ := hv
  have hx := B.exec
  have hb := B.bytes
  have hr := B.returns
  have hts := atoms_spec (ws := ws_ yX0_passOneNight cX0_passOneNight 2 none) B.pre
  have hts : ∀ w ∈ lw_all, w.before _ s = true := fun w h => hts w (List.mem_cons_of_mem _ h)
  have hown : s.vm.findClass RX0 = some m.cls := findClass_of_methodNamed B.named
  have hlocks := B.notSynchronized
  have hC : CallFix p m c cX0_passOneNight 2 s _ lw_all RX0 := ⟨hx, hb, hml, hown, hts⟩
  subst hsz
  have hD := hD0.self (sz := s.heap.size)
  generalize hAe : va_A (xW z a lv lk pu fa he n nv du ta w mp mi k nt fu re) s.heap.size = A at hD ⊢
  have hA : ∀ q : Nat, s.heap.size ≤ q → A q := fun q h => by rw [← hAe]; exact Or.inr h
  have hS : va_S A s.heap s.heap [] := va_S.rf
  have hl := lv_entry ([.ref (a 0)]) (n := 2) (Nat.le_of_ble_eq_true rfl)
  rw [lg_entry_eq]
  generalize (lg_sl ([.ref (a 0)]) ++ List.replicate (2 - (lg_sl ([.ref (a 0)])).length) Slot.unset).toArray = ls at hl ⊢
  have hl : lv_has ls 2 [(0, .ref (a 0))] := hl
  refine lv_iconst (v := 0) hx hb dX0_passOneNight_0 (by decide) ?_
  refine lv_istore_n (lv' := [(1, .int 0), (0, .ref (a 0))]) hx hb dX0_passOneNight_1 rfl hl (by decide) rfl (fun ls hl => ?_)
  have loop_2 : ∀ (f : Nat) (j : Nat) (g : Nat → Int32), j ≤ w → w + 1 ≤ j + f → g = sp_nn du nv j → ∀ (H : Heap) (locs : List Loc), va_P D vwCl (xW z a lv lk pu fa he n g du ta w mp mi k nt fu re) H → va_D A (xW z a lv lk pu fa he n g du ta w mp mi k nt fu re) → va_S A s.heap H locs → ∀ ls : Array Slot, lv_has ls 2 [(0, .ref (a 0)), (1, .int (nI j))] → W p l e ({ frames := 1, cells := 0, slots := 0, locals := 21 } : Room) s m ([.ref (a 0)] : List Value).toArray below meth c H locs 0 0 (MQ below (va_Qv (fun _ : Unit => True) (fun _ t9 => va_P D vwCl (xW z a lv (sp_nl lv lk n) pu fa he n (sp_nn du nv w) du ta w mp mi k (nt + 1) fu re) t9.heap ∧ kK D z t9 ∧ va_D A (xW z a lv (sp_nl lv lk n) pu fa he n (sp_nn du nv w) du ta w mp mi k (nt + 1) fu re)) A) ([.ref (a 0)] : List Value).toArray s 0 0 A) (F0 m 2 ls []) := by
    intro f
    induction f with
    | zero =>
      intro j g hj hf hg
      exact absurd hf (by omega)
    | succ f ih2 =>
      intro j g hj hf hg H locs hP hD hS ls hl
      refine lv_iload_n hx hb dX0_passOneNight_2 rfl (lv_at hl 1 rfl) ?_
      refine lv_aload_n hx hb dX0_passOneNight_3 rfl (lv_at hl 0 rfl) ?_
      refine xg_w hC hK hP dX0_passOneNight_4 ?_
      refine lv_icmp_ge (tgt := 43) hx hb dX0_passOneNight_7 (by decide) (fun c_7 => ?_) (fun c_7 => ?_)
      · have nc_7 : w ≤ j := nn_le (by omega) c_7
        refine lv_iconst (v := 0) hx hb dX0_passOneNight_43 (by decide) ?_
        refine lv_istore_n (lv' := [(1, .int 0), (0, .ref (a 0))]) hx hb dX0_passOneNight_44 rfl hl (by decide) rfl (fun ls hl => ?_)
        have loop_45 : ∀ (f : Nat) (i : Nat) (d : Nat → Int32), i ≤ n → n + 1 ≤ i + f → d = sp_nl lv lk i → ∀ (H : Heap) (locs : List Loc), va_P D vwCl (xW z a lv d pu fa he n g du ta w mp mi k nt fu re) H → va_D A (xW z a lv d pu fa he n g du ta w mp mi k nt fu re) → va_S A s.heap H locs → ∀ ls : Array Slot, lv_has ls 2 [(0, .ref (a 0)), (1, .int (nI i))] → W p l e ({ frames := 1, cells := 0, slots := 0, locals := 21 } : Room) s m ([.ref (a 0)] : List Value).toArray below meth c H locs 0 0 (MQ below (va_Qv (fun _ : Unit => True) (fun _ t9 => va_P D vwCl (xW z a lv (sp_nl lv lk n) pu fa he n (sp_nn du nv w) du ta w mp mi k (nt + 1) fu re) t9.heap ∧ kK D z t9 ∧ va_D A (xW z a lv (sp_nl lv lk n) pu fa he n (sp_nn du nv w) du ta w mp mi k (nt + 1) fu re)) A) ([.ref (a 0)] : List Value).toArray s 0 0 A) (F0 m 45 ls []) := by
          intro f
          induction f with
          | zero =>
            intro i d hi hf2 hd
            exact absurd hf2 (by omega)
          | succ f ih45 =>
            intro i d hi hf2 hd H locs hP hD hS ls hl
            refine lv_iload_n hx hb dX0_passOneNight_45 rfl (lv_at hl 1 rfl) ?_
            refine lv_aload_n hx hb dX0_passOneNight_46 rfl (lv_at hl 0 rfl) ?_
            refine xg_n hC hK hP dX0_passOneNight_47 ?_
            refine lv_icmp_ge (tgt := 87) hx hb dX0_passOneNight_50 (by decide) (fun c_50 => ?_) (fun c_50 => ?_)
            · have nc_50 : n ≤ i := nn_le (by omega) c_50
              refine lv_aload_n hx hb dX0_passOneNight_87 rfl (lv_at hl 0 rfl) ?_
              refine lv_dup hx hb dX0_passOneNight_88 rfl ?_
              refine xg_nt hC hK hP dX0_passOneNight_89 ?_
              refine lv_iconst (v := 1) hx hb dX0_passOneNight_92 (by decide) ?_
              refine lv_iadd hx hb dX0_passOneNight_93 ?_
              refine xp_nt hC hK hP hD hS dX0_passOneNight_94 (fun H locs hP hD hS => ?_)
              have hW9 : (xW z a lv d pu fa he n g du ta w mp mi k (nt + 1) fu re : va_W) = xW z a lv (sp_nl lv lk n) pu fa he n (sp_nn du nv w) du ta w mp mi k (nt + 1) fu re := (by rw [hg, hd, show j = w by omega, show i = n by omega])
              rw [hW9] at hP hD
              exact W.vret hx hb hr (fun t ht hW => ⟨⟨(), rfl, trivial, by rw [ht]; exact hP, va_K.moved hW.alike hK, hD⟩, hS.F ht⟩) hS.2.2 dX0_passOneNight_97
            · have nc_50 : i < n := nn_nle (by omega) c_50
              refine lv_aload_n hx hb dX0_passOneNight_53 rfl (lv_at hl 0 rfl) ?_
              refine xg_lv hC hK hP dX0_passOneNight_54 ?_
              refine lv_iload_n hx hb dX0_passOneNight_57 rfl (lv_at hl 1 rfl) ?_
              refine xl_lv hC hK hP i rfl (by omega) dX0_passOneNight_58 ?_
              refine lv_if_eq (tgt := 81) hx hb dX0_passOneNight_59 (by decide) (fun c_59 => ?_) (fun c_59 => ?_)
              · refine lv_iinc (v := nI (i + 1)) (lv' := [(1, .int (nI (i + 1))), (0, .ref (a 0))]) hx hb dX0_passOneNight_81 hl (k := 1) rfl (nI_1 _) (by decide) rfl (fun ls hl => ?_)
                refine lv_goto (tgt := 45) hx hb dX0_passOneNight_84 (by decide) ?_
                exact ih45 (i + 1) d (by omega) (by omega) (by simp [sp_nl, hd, c_59]) _ _ hP hD hS _ (lv_sub hl [1, 0] rfl)
              · refine lv_aload_n hx hb dX0_passOneNight_62 rfl (lv_at hl 0 rfl) ?_
                refine xg_lk hC hK hP dX0_passOneNight_63 ?_
                refine lv_iload_n hx hb dX0_passOneNight_66 rfl (lv_at hl 1 rfl) ?_
                refine lv_bipush (v := 99) hx hb dX0_passOneNight_67 (by decide) ?_
                refine lv_aload_n hx hb dX0_passOneNight_69 rfl (lv_at hl 0 rfl) ?_
                refine xg_lk hC hK hP dX0_passOneNight_70 ?_
                refine lv_iload_n hx hb dX0_passOneNight_73 rfl (lv_at hl 1 rfl) ?_
                refine xl_lk hC hK hP i rfl (by omega) dX0_passOneNight_74 ?_
                refine lv_iconst (v := 1) hx hb dX0_passOneNight_75 (by decide) ?_
                refine lv_iadd hx hb dX0_passOneNight_76 ?_
                refine va_mmin hx hb (hml.trans hl.1.symm) hown (hts _ mM_X0_121) (hts _ mT_min) (hts _ mI_Math) (hts _ mC_min) (Nat.le_of_ble_eq_true rfl) (Nat.le_of_ble_eq_true rfl) (Nat.zero_le _) (Nat.zero_le _) dX0_passOneNight_77 ?_
                refine xs_lk hC hK hP hD hS i rfl (by omega) dX0_passOneNight_80 (fun H locs hP hD hS => ?_)
                refine lv_iinc (v := nI (i + 1)) (lv' := [(1, .int (nI (i + 1))), (0, .ref (a 0))]) hx hb dX0_passOneNight_81 hl (k := 1) rfl (nI_1 _) (by decide) rfl (fun ls hl => ?_)
                refine lv_goto (tgt := 45) hx hb dX0_passOneNight_84 (by decide) ?_
                exact ih45 (i + 1) (upd d i (imin 99 ((d i) + 1))) (by omega) (by omega) (by simp [sp_nl, hd, c_59]) _ _ hP hD hS _ (lv_sub hl [1, 0] rfl)
        exact loop_45 (n + 1) 0 lk (Nat.zero_le _) (by omega) rfl _ _ hP hD hS _ (lv_sub hl [1, 0] rfl)
      · have nc_7 : j < w := nn_nle (by omega) c_7
        refine lv_aload_n hx hb dX0_passOneNight_10 rfl (lv_at hl 0 rfl) ?_
        refine xg_nv hC hK hP dX0_passOneNight_11 ?_
        refine lv_iload_n hx hb dX0_passOneNight_14 rfl (lv_at hl 1 rfl) ?_
        refine lv_bipush (v := 9) hx hb dX0_passOneNight_15 (by decide) ?_
        refine lv_aload_n hx hb dX0_passOneNight_17 rfl (lv_at hl 0 rfl) ?_
        refine xg_nv hC hK hP dX0_passOneNight_18 ?_
        refine lv_iload_n hx hb dX0_passOneNight_21 rfl (lv_at hl 1 rfl) ?_
        refine xl_nv hC hK hP j rfl (by omega) dX0_passOneNight_22 ?_
        refine lv_aload_n hx hb dX0_passOneNight_23 rfl (lv_at hl 0 rfl) ?_
        refine xg_du hC hK hP dX0_passOneNight_24 ?_
        refine lv_iload_n hx hb dX0_passOneNight_27 rfl (lv_at hl 1 rfl) ?_
        refine xl_du hC hK hP j rfl (by omega) dX0_passOneNight_28 ?_
        refine k_X0_nerveGain hC hl.1 ⟨Nat.le_of_ble_eq_true rfl, Nat.le_of_ble_eq_true rfl⟩ ⟨Nat.zero_le _, Nat.zero_le _⟩ (Nat.le_of_ble_eq_true rfl)   dX0_passOneNight_29 ?_
        refine lv_iadd hx hb dX0_passOneNight_32 ?_
        refine va_mmin hx hb (hml.trans hl.1.symm) hown (hts _ mM_X0_121) (hts _ mT_min) (hts _ mI_Math) (hts _ mC_min) (Nat.le_of_ble_eq_true rfl) (Nat.le_of_ble_eq_true rfl) (Nat.zero_le _) (Nat.zero_le _) dX0_passOneNight_33 ?_
        refine xs_nv hC hK hP hD hS j rfl (by omega) dX0_passOneNight_36 (fun H locs hP hD hS => ?_)
        refine lv_iinc (v := nI (j + 1)) (lv' := [(1, .int (nI (j + 1))), (0, .ref (a 0))]) hx hb dX0_passOneNight_37 hl (k := 1) rfl (nI_1 _) (by decide) rfl (fun ls hl => ?_)
        refine lv_goto (tgt := 2) hx hb dX0_passOneNight_40 (by decide) ?_
        exact ih2 (j + 1) (upd g j (imin 9 ((g j) + (sp_gain (du j))))) (by omega) (by omega) (by simp [sp_nn, hg]) _ _ hP hD hS _ (lv_sub hl [1, 0] rfl)
  exact loop_2 (w + 1) 0 nv (Nat.zero_le _) (by omega) rfl _ _ hP hD hS _ (lv_sub hl [1, 0] rfl)
set_option maxRecDepth 100000 in
theorem k_X0_passOneNight {p : Program} {l : Launch} {e : Env} {R : Room} {s : State} {m : MethodId} {args : Array Value} {below : List Frame} {meth : Method} {c : Code} {H : Heap} {locs : List Loc} {cells slots : Nat} {Q : State → Prop} {D : va_G} {z : ClassId × ClassId} {a : Nat → Nat} {lv lk pu fa he : Nat → Int32} {n : Nat} {nv du ta : Nat → Int32} {w : Nat} {mp mi : Nat → Int32} {k : Nat} {nt fu re : Int32} {cc : ByteArray} {nL pc : Nat} {ls : Array Slot} {rest : List Value} {A : Nat → Prop} {H0 : Heap} (hC : CallFix p m c cc nL s args lw_all RX0) (hK : kK D z s) (hP : va_P D vwCl (xW z a lv lk pu fa he n nv du ta w mp mi k nt fu re) H) (hD : va_D A (xW z a lv lk pu fa he n nv du ta w mp mi k nt fu re)) (hS : va_S A H0 H locs) (hA : ∀ q : Nat, H0.size ≤ q → A q) (hl : ls.size = nL) (hR : 2 ≤ R.frames ∧ 42 ≤ R.locals) (hz : cells ≤ R.cells ∧ slots ≤ R.slots) (hr : (rest.map fun v => v.category).sum ≤ 8)   (hn : n ≤ 10) (hw : w ≤ 6) (hdg : decode cc pc = .ok (.invokevirtual 126, 3)) (kk : ∀ (H1 : Heap) (locs1 : List Loc), va_P D vwCl (xW z a lv (sp_nl lv lk n) pu fa he n (sp_nn du nv w) du ta w mp mi k (nt + 1) fu re) H1 → va_D A (xW z a lv (sp_nl lv lk n) pu fa he n (sp_nn du nv w) du ta w mp mi k (nt + 1) fu re) → va_S A H0 H1 locs1 → W p l e R s m args below meth c H1 locs1 cells slots Q (F0 m (pc + 3) ls rest)) : W p l e R s m args below meth c H locs cells slots Q (F0 m pc ls (.ref (a 0) :: rest)) := by
  have hF := va_free (wc := xW z a lv lk pu fa he n nv du ta w mp mi k nt fu re) hD hS hA [0, 1, 2, 3, 4, 5, 6, 7, 8, 9, 10] rfl
  refine va_callv (va_runV (As := []) (rest := rest) hC (c_X0_passOneNight l H.size hn hw) (cwV 0 hC.2.2.2.2 (gi_V mM_X0_126 mV_X0_passOneNight mS_X0_passOneNight mI_MissRegistry mC_X0_passOneNight) rfl rfl rfl (by decide +kernel) hR) ⟨fun a1 U g mk q => ⟨q.1, q.2.1, ⟨q.2.2.1.1, va_K.moved (u := U) (U := U.calling g mk a1) (Vm.Alike.refl U.vm) q.2.2.1.2⟩, q.2.2.2⟩, va_recv hK hP (ci := 0) (q0 := 0) rfl rfl, fun U hU hW => ⟨rfl, by rw [hU], ⟨by rw [hU]; exact hP, va_K.moved hW.alike hK⟩, hD.weaken (fun _ _ _ _ => trivial)⟩⟩ rfl rfl hl rfl (lv_room hr) hdg hz) hS (fun q _ h => hF q h) hF (fun u t H1 locs1 ht hvm hw hB hz1 hk1 hS1 => ?_)
  obtain ⟨hP1, hK1, hD1⟩ := hB
  rw [ht] at hP1
  exact kk H1 locs1 hP1 (hD1.weaken (fun _ q9 _ h => hF q9.1 h)) hS1
set_option maxHeartbeats 4000000 in
set_option maxRecDepth 100000 in
theorem c_X0_pass (l : Launch) (sz : Nat) {D : va_G} {z : ClassId × ClassId} {a : Nat → Nat} {lv lk pu fa he : Nat → Int32} {n : Nat} {nv du ta : Nat → Int32} {w : Nat} {mp mi : Nat → Int32} {k : Nat} {nt fu re : Int32} (tn : Nat) (h1 : 1 ≤ tn) (h2 : tn ≤ 30) (hn : n ≤ 10) (hw : w ≤ 6) : Met l yX0_pass (ws_ yX0_pass cX0_pass 3 (some .int)) ({ frames := 2, cells := 0, slots := 0, locals := 43 } : Room) (va_Pc [.ref (a 0), .int (nI tn)] (fun U => U.heap.size = sz ∧ xI D z a lv lk pu fa he n nv du ta w mp mi k nt fu re U ∧ va_D (fun _ => True) (xW z a lv lk pu fa he n nv du ta w mp mi k nt fu re))) (va_Qi (fun (r : Int32) (_ : Unit) => r = sp_shk (sp_pn du w nv tn) w) (fun _ t9 => va_P D vwCl (xW z a lv (sp_pl lv n lk tn) pu fa he n (sp_pn du w nv tn) du ta w mp mi k (nt + nI tn) fu re) t9.heap ∧ kK D z t9 ∧ va_D (va_A (xW z a lv lk pu fa he n nv du ta w mp mi k nt fu re) sz) (xW z a lv (sp_pl lv n lk tn) pu fa he n (sp_pn du w nv tn) du ta w mp mi k (nt + nI tn) fu re)) (va_A (xW z a lv lk pu fa he n nv du ta w mp mi k nt fu re) sz)) 0 0 (va_A (xW z a lv lk pu fa he n nv du ta w mp mi k nt fu re) sz) := by
  refine Met.ofW (cc := cX0_pass) (maxL := 3) (ret := (some .int)) (by decide) rfl ?_
  intro p e s m args below meth c s₁ B hml hv
  obtain ⟨rfl, hsz, ⟨hP, hK⟩, hD0⟩ := hv
  have hx := B.exec
  have hb := B.bytes
  have hr := B.returns
  have hts := atoms_spec (ws := ws_ yX0_pass cX0_pass 3 (some .int)) B.pre
  have hts : ∀ w ∈ lw_all, w.before _ s = true := fun w h => hts w (List.mem_cons_of_mem _ h)
  have hown : s.vm.findClass RX0 = some m.cls := findClass_of_methodNamed B.named
  have hlocks := B.notSynchronized
  have hC : CallFix p m c cX0_pass 3 s _ lw_all RX0 := ⟨hx, hb, hml, hown, hts⟩
  subst hsz
  have hD := hD0.self (sz := s.heap.size)
  generalize hAe : va_A (xW z a lv lk pu fa he n nv du ta w mp mi k nt fu re) s.heap.size = A at hD ⊢
  have hA : ∀ q : Nat, s.heap.size ≤ q → A q := fun q h => by rw [← hAe]; exact Or.inr h
  have hS : va_S A s.heap s.heap [] := va_S.rf
  have hl := lv_entry ([.ref (a 0), .int (nI tn)]) (n := 3) (Nat.le_of_ble_eq_true rfl)
  rw [lg_entry_eq]
  generalize (lg_sl ([.ref (a 0), .int (nI tn)]) ++ List.replicate (3 - (lg_sl ([.ref (a 0), .int (nI tn)])).length) Slot.unset).toArray = ls at hl ⊢
  have hl : lv_has ls 3 [(0, .ref (a 0)), (1, .int (nI tn))] := hl
  refine lv_iload_n hx hb dX0_pass_0 rfl (lv_at hl 1 rfl) ?_
  refine lv_iconst (v := 1) hx hb dX0_pass_1 (by decide) ?_
  refine lv_icmp_lt (tgt := 11) hx hb dX0_pass_2 (by decide) (fun c_2 => ?_) (fun c_2 => ?_)
  · exact absurd c_2 (nI_nlt (b := 1) h1 (by omega))
  · have nc_2 : 1 ≤ tn := nn_nlt (by omega) c_2
    refine lv_iload_n hx hb dX0_pass_5 rfl (lv_at hl 1 rfl) ?_
    refine lv_bipush (v := 30) hx hb dX0_pass_6 (by decide) ?_
    refine lv_icmp_le (tgt := 21) hx hb dX0_pass_8 (by decide) (fun c_8 => ?_) (fun c_8 => ?_)
    · have nc_8 : tn ≤ 30 := nn_le (by omega) c_8
      refine lv_iconst (v := 0) hx hb dX0_pass_21 (by decide) ?_
      refine lv_istore_n (lv' := [(2, .int 0), (0, .ref (a 0)), (1, .int (nI tn))]) hx hb dX0_pass_22 rfl hl (by decide) rfl (fun ls hl => ?_)
      have loop_23 : ∀ (f : Nat) (j : Nat) (g : Nat → Int32) (d : Nat → Int32) (y : Int32), j ≤ tn → tn + 1 ≤ j + f → g = sp_pn du w nv j → d = sp_pl lv n lk j → y = nt + nI j → ∀ (H : Heap) (locs : List Loc), va_P D vwCl (xW z a lv d pu fa he n g du ta w mp mi k y fu re) H → va_D A (xW z a lv d pu fa he n g du ta w mp mi k y fu re) → va_S A s.heap H locs → ∀ ls : Array Slot, lv_has ls 3 [(0, .ref (a 0)), (1, .int (nI tn)), (2, .int (nI j))] → W p l e ({ frames := 2, cells := 0, slots := 0, locals := 43 } : Room) s m ([.ref (a 0), .int (nI tn)] : List Value).toArray below meth c H locs 0 0 (MQ below (va_Qi (fun (r : Int32) (_ : Unit) => r = sp_shk (sp_pn du w nv tn) w) (fun _ t9 => va_P D vwCl (xW z a lv (sp_pl lv n lk tn) pu fa he n (sp_pn du w nv tn) du ta w mp mi k (nt + nI tn) fu re) t9.heap ∧ kK D z t9 ∧ va_D A (xW z a lv (sp_pl lv n lk tn) pu fa he n (sp_pn du w nv tn) du ta w mp mi k (nt + nI tn) fu re)) A) ([.ref (a 0), .int (nI tn)] : List Value).toArray s 0 0 A) (F0 m 23 ls []) := by
        intro f
        induction f with
        | zero =>
          intro j g d y hj hf hg hd hy
          exact absurd hf (by omega)
        | succ f ih23 =>
          intro j g d y hj hf hg hd hy H locs hP hD hS ls hl
          refine lv_iload_n hx hb dX0_pass_23 rfl (lv_at hl 2 rfl) ?_
          refine lv_iload_n hx hb dX0_pass_24 rfl (lv_at hl 1 rfl) ?_
          refine lv_icmp_ge (tgt := 38) hx hb dX0_pass_25 (by decide) (fun c_25 => ?_) (fun c_25 => ?_)
          · have nc_25 : tn ≤ j := nn_le (by omega) c_25
            refine lv_aload_n hx hb dX0_pass_38 rfl (lv_at hl 0 rfl) ?_
            refine k_X0_shaken hC hK hP hl.1 ⟨Nat.le_of_ble_eq_true rfl, Nat.le_of_ble_eq_true rfl⟩ ⟨Nat.zero_le _, Nat.zero_le _⟩ (Nat.le_of_ble_eq_true rfl)  (by first | assumption | omega) dX0_pass_39 ?_
            have hW9 : (xW z a lv d pu fa he n g du ta w mp mi k y fu re : va_W) = xW z a lv (sp_pl lv n lk tn) pu fa he n (sp_pn du w nv tn) du ta w mp mi k (nt + nI tn) fu re := (by rw [hg, hd, hy, show j = tn by omega])
            rw [hW9] at hP hD
            exact W.iret (v := sp_shk g w) hx hb hr (fun t ht hW => ⟨⟨sp_shk g w, (), rfl, (by rw [hg, show j = tn by omega]), by rw [ht]; exact hP, va_K.moved hW.alike hK, hD⟩, hS.F ht⟩) hS.2.2 dX0_pass_42
          · have nc_25 : j < tn := nn_nle (by omega) c_25
            refine lv_aload_n hx hb dX0_pass_28 rfl (lv_at hl 0 rfl) ?_
            refine k_X0_passOneNight hC hK hP hD hS hA hl.1 ⟨Nat.le_of_ble_eq_true rfl, Nat.le_of_ble_eq_true rfl⟩ ⟨Nat.zero_le _, Nat.zero_le _⟩ (Nat.le_of_ble_eq_true rfl)  (by first | assumption | omega) (by first | assumption | omega) dX0_pass_29 (fun H locs hP hD hS => ?_)
            refine lv_iinc (v := nI (j + 1)) (lv' := [(2, .int (nI (j + 1))), (0, .ref (a 0)), (1, .int (nI tn))]) hx hb dX0_pass_32 hl (k := 2) rfl (nI_1 _) (by decide) rfl (fun ls hl => ?_)
            refine lv_goto (tgt := 23) hx hb dX0_pass_35 (by decide) ?_
            exact ih23 (j + 1) (sp_nn du g w) (sp_nl lv d n) (y + 1) (by omega) (by omega) (by rw [hg]; rfl) (by rw [hd]; rfl) (by rw [hy, Int32.add_assoc, nI_1]) _ _ hP hD hS _ (lv_sub hl [1, 2, 0] rfl)
      exact loop_23 (tn + 1) 0 nv lk nt (Nat.zero_le _) (by omega) rfl rfl (Int32.add_zero nt).symm _ _ hP hD hS _ (lv_sub hl [1, 2, 0] rfl)
    · exact absurd (nI_le (b := 30) h2 (by omega)) c_8
set_option maxHeartbeats 4000000 in
set_option maxRecDepth 100000 in
theorem c_X0_addPerson (l : Launch) (sz : Nat) {D : va_G} {z : ClassId × ClassId} {a : Nat → Nat} {lv lk pu fa he : Nat → Int32} {n : Nat} {nv du ta : Nat → Int32} {w : Nat} {mp mi : Nat → Int32} {k : Nat} {nt fu re : Int32} (x : Int32) (h1 : ¬ x < 0) (h2 : x ≤ 99) (hn : n < 10) : Met l yX0_addPerson (ws_ yX0_addPerson cX0_addPerson 3 (some .int)) ({ frames := 0, cells := 0, slots := 0, locals := 0 } : Room) (va_Pc [.ref (a 0), .int x] (fun U => U.heap.size = sz ∧ xI D z a lv lk pu fa he n nv du ta w mp mi k nt fu re U ∧ va_D (fun _ => True) (xW z a lv lk pu fa he n nv du ta w mp mi k nt fu re))) (va_Qi (fun (r : Int32) (_ : Unit) => r = nI n) (fun _ t9 => va_P D vwCl (xW z a (upd lv n 1) (upd lk n x) (upd pu n 100) (upd fa n 0) (upd he n (-1)) (n + 1) nv du ta w mp mi k nt fu re) t9.heap ∧ kK D z t9 ∧ va_D (va_A (xW z a lv lk pu fa he n nv du ta w mp mi k nt fu re) sz) (xW z a (upd lv n 1) (upd lk n x) (upd pu n 100) (upd fa n 0) (upd he n (-1)) (n + 1) nv du ta w mp mi k nt fu re)) (va_A (xW z a lv lk pu fa he n nv du ta w mp mi k nt fu re) sz)) 0 0 (va_A (xW z a lv lk pu fa he n nv du ta w mp mi k nt fu re) sz) := by
  refine Met.ofW (cc := cX0_addPerson) (maxL := 3) (ret := (some .int)) (by decide) rfl ?_
  intro p e s m args below meth c s₁ B hml hv
  obtain ⟨rfl, hsz, ⟨hP, hK⟩, hD0⟩ := hv
  have hx := B.exec
  have hb := B.bytes
  have hr := B.returns
  have hts := atoms_spec (ws := ws_ yX0_addPerson cX0_addPerson 3 (some .int)) B.pre
  have hts : ∀ w ∈ lw_all, w.before _ s = true := fun w h => hts w (List.mem_cons_of_mem _ h)
  have hown : s.vm.findClass RX0 = some m.cls := findClass_of_methodNamed B.named
  have hlocks := B.notSynchronized
  have hC : CallFix p m c cX0_addPerson 3 s _ lw_all RX0 := ⟨hx, hb, hml, hown, hts⟩
  subst hsz
  have hD := hD0.self (sz := s.heap.size)
  generalize hAe : va_A (xW z a lv lk pu fa he n nv du ta w mp mi k nt fu re) s.heap.size = A at hD ⊢
  have hA : ∀ q : Nat, s.heap.size ≤ q → A q := fun q h => by rw [← hAe]; exact Or.inr h
  have hS : va_S A s.heap s.heap [] := va_S.rf
  have hl := lv_entry ([.ref (a 0), .int x]) (n := 3) (Nat.le_of_ble_eq_true rfl)
  rw [lg_entry_eq]
  generalize (lg_sl ([.ref (a 0), .int x]) ++ List.replicate (3 - (lg_sl ([.ref (a 0), .int x])).length) Slot.unset).toArray = ls at hl ⊢
  have hl : lv_has ls 3 [(0, .ref (a 0)), (1, .int x)] := hl
  refine lv_iload_n hx hb dX0_addPerson_0 rfl (lv_at hl 1 rfl) ?_
  refine lv_if_lt (tgt := 10) hx hb dX0_addPerson_1 (by decide) (fun c_1 => ?_) (fun c_1 => ?_)
  · exact absurd c_1 h1
  · refine lv_iload_n hx hb dX0_addPerson_4 rfl (lv_at hl 1 rfl) ?_
    refine lv_bipush (v := 99) hx hb dX0_addPerson_5 (by decide) ?_
    refine lv_icmp_le (tgt := 20) hx hb dX0_addPerson_7 (by decide) (fun c_7 => ?_) (fun c_7 => ?_)
    · refine lv_aload_n hx hb dX0_addPerson_20 rfl (lv_at hl 0 rfl) ?_
      refine xg_n hC hK hP dX0_addPerson_21 ?_
      refine lv_bipush (v := 10) hx hb dX0_addPerson_24 (by decide) ?_
      refine lv_icmp_lt (tgt := 39) hx hb dX0_addPerson_26 (by decide) (fun c_26 => ?_) (fun c_26 => ?_)
      · have nc_26 : n < 10 := nn_lt (by omega) c_26
        refine lv_aload_n hx hb dX0_addPerson_39 rfl (lv_at hl 0 rfl) ?_
        refine xg_n hC hK hP dX0_addPerson_40 ?_
        refine lv_istore_n (lv' := [(2, .int (nI n)), (0, .ref (a 0)), (1, .int x)]) hx hb dX0_addPerson_43 rfl hl (by decide) rfl (fun ls hl => ?_)
        refine lv_aload_n hx hb dX0_addPerson_44 rfl (lv_at hl 1 rfl) ?_
        refine xg_lv hC hK hP dX0_addPerson_45 ?_
        refine lv_iload_n hx hb dX0_addPerson_48 rfl (lv_at hl 0 rfl) ?_
        refine lv_iconst (v := 1) hx hb dX0_addPerson_49 (by decide) ?_
        refine xs_lv hC hK hP hD hS n rfl (by omega) (by decide) dX0_addPerson_50 (fun H locs hP hD hS => ?_)
        refine lv_aload_n hx hb dX0_addPerson_51 rfl (lv_at hl 1 rfl) ?_
        refine xg_lk hC hK hP dX0_addPerson_52 ?_
        refine lv_iload_n hx hb dX0_addPerson_55 rfl (lv_at hl 0 rfl) ?_
        refine lv_iload_n hx hb dX0_addPerson_56 rfl (lv_at hl 2 rfl) ?_
        refine xs_lk hC hK hP hD hS n rfl (by omega) dX0_addPerson_57 (fun H locs hP hD hS => ?_)
        refine lv_aload_n hx hb dX0_addPerson_58 rfl (lv_at hl 1 rfl) ?_
        refine xg_pu hC hK hP dX0_addPerson_59 ?_
        refine lv_iload_n hx hb dX0_addPerson_62 rfl (lv_at hl 0 rfl) ?_
        refine lv_bipush (v := 100) hx hb dX0_addPerson_63 (by decide) ?_
        refine xs_pu hC hK hP hD hS n rfl (by omega) dX0_addPerson_65 (fun H locs hP hD hS => ?_)
        refine lv_aload_n hx hb dX0_addPerson_66 rfl (lv_at hl 1 rfl) ?_
        refine xg_fa hC hK hP dX0_addPerson_67 ?_
        refine lv_iload_n hx hb dX0_addPerson_70 rfl (lv_at hl 0 rfl) ?_
        refine lv_iconst (v := 0) hx hb dX0_addPerson_71 (by decide) ?_
        refine xs_fa hC hK hP hD hS n rfl (by omega) dX0_addPerson_72 (fun H locs hP hD hS => ?_)
        refine lv_aload_n hx hb dX0_addPerson_73 rfl (lv_at hl 1 rfl) ?_
        refine xg_he hC hK hP dX0_addPerson_74 ?_
        refine lv_iload_n hx hb dX0_addPerson_77 rfl (lv_at hl 0 rfl) ?_
        refine lv_iconst (v := (-1)) hx hb dX0_addPerson_78 (by decide) ?_
        refine xs_he hC hK hP hD hS n rfl (by omega) dX0_addPerson_79 (fun H locs hP hD hS => ?_)
        refine lv_aload_n hx hb dX0_addPerson_80 rfl (lv_at hl 1 rfl) ?_
        refine lv_dup hx hb dX0_addPerson_81 rfl ?_
        refine xg_n hC hK hP dX0_addPerson_82 ?_
        refine lv_iconst (v := 1) hx hb dX0_addPerson_85 (by decide) ?_
        refine lv_iadd hx hb dX0_addPerson_86 ?_
        refine xp_n (n' := n + 1) hC hK hP hD hS (nI_1 _) dX0_addPerson_87 (fun H locs hP hD hS => ?_)
        refine lv_iload_n hx hb dX0_addPerson_90 rfl (lv_at hl 0 rfl) ?_
        exact W.iret (v := nI n) hx hb hr (fun t ht hW => ⟨⟨nI n, (), rfl, rfl, by rw [ht]; exact hP, va_K.moved hW.alike hK, hD⟩, hS.F ht⟩) hS.2.2 dX0_addPerson_91
      · exact absurd (nI_lt (b := 10) hn (by decide)) c_26
    · exact absurd h2 c_7
set_option maxHeartbeats 4000000 in
set_option maxRecDepth 100000 in
theorem c_X0_addWitness (l : Launch) (sz : Nat) {D : va_G} {z : ClassId × ClassId} {a : Nat → Nat} {lv lk pu fa he : Nat → Int32} {n : Nat} {nv du ta : Nat → Int32} {w : Nat} {mp mi : Nat → Int32} {k : Nat} {nt fu re : Int32} (x : Int32) (h1 : ¬ x < 0) (h2 : x ≤ 9) (hw : w < 6) : Met l yX0_addWitness (ws_ yX0_addWitness cX0_addWitness 3 (some .int)) ({ frames := 0, cells := 0, slots := 0, locals := 0 } : Room) (va_Pc [.ref (a 0), .int x] (fun U => U.heap.size = sz ∧ xI D z a lv lk pu fa he n nv du ta w mp mi k nt fu re U ∧ va_D (fun _ => True) (xW z a lv lk pu fa he n nv du ta w mp mi k nt fu re))) (va_Qi (fun (r : Int32) (_ : Unit) => r = nI w) (fun _ t9 => va_P D vwCl (xW z a lv lk pu fa he n (upd nv w x) (upd du w 1) ta (w + 1) mp mi k nt fu re) t9.heap ∧ kK D z t9 ∧ va_D (va_A (xW z a lv lk pu fa he n nv du ta w mp mi k nt fu re) sz) (xW z a lv lk pu fa he n (upd nv w x) (upd du w 1) ta (w + 1) mp mi k nt fu re)) (va_A (xW z a lv lk pu fa he n nv du ta w mp mi k nt fu re) sz)) 0 0 (va_A (xW z a lv lk pu fa he n nv du ta w mp mi k nt fu re) sz) := by
  refine Met.ofW (cc := cX0_addWitness) (maxL := 3) (ret := (some .int)) (by decide) rfl ?_
  intro p e s m args below meth c s₁ B hml hv
  obtain ⟨rfl, hsz, ⟨hP, hK⟩, hD0⟩ := hv
  have hx := B.exec
  have hb := B.bytes
  have hr := B.returns
  have hts := atoms_spec (ws := ws_ yX0_addWitness cX0_addWitness 3 (some .int)) B.pre
  have hts : ∀ w ∈ lw_all, w.before _ s = true := fun w h => hts w (List.mem_cons_of_mem _ h)
  have hown : s.vm.findClass RX0 = some m.cls := findClass_of_methodNamed B.named
  have hlocks := B.notSynchronized
  have hC : CallFix p m c cX0_addWitness 3 s _ lw_all RX0 := ⟨hx, hb, hml, hown, hts⟩
  subst hsz
  have hD := hD0.self (sz := s.heap.size)
  generalize hAe : va_A (xW z a lv lk pu fa he n nv du ta w mp mi k nt fu re) s.heap.size = A at hD ⊢
  have hA : ∀ q : Nat, s.heap.size ≤ q → A q := fun q h => by rw [← hAe]; exact Or.inr h
  have hS : va_S A s.heap s.heap [] := va_S.rf
  have hl := lv_entry ([.ref (a 0), .int x]) (n := 3) (Nat.le_of_ble_eq_true rfl)
  rw [lg_entry_eq]
  generalize (lg_sl ([.ref (a 0), .int x]) ++ List.replicate (3 - (lg_sl ([.ref (a 0), .int x])).length) Slot.unset).toArray = ls at hl ⊢
  have hl : lv_has ls 3 [(0, .ref (a 0)), (1, .int x)] := hl
  refine lv_iload_n hx hb dX0_addWitness_0 rfl (lv_at hl 1 rfl) ?_
  refine lv_if_lt (tgt := 10) hx hb dX0_addWitness_1 (by decide) (fun c_1 => ?_) (fun c_1 => ?_)
  · exact absurd c_1 h1
  · refine lv_iload_n hx hb dX0_addWitness_4 rfl (lv_at hl 1 rfl) ?_
    refine lv_bipush (v := 9) hx hb dX0_addWitness_5 (by decide) ?_
    refine lv_icmp_le (tgt := 20) hx hb dX0_addWitness_7 (by decide) (fun c_7 => ?_) (fun c_7 => ?_)
    · refine lv_aload_n hx hb dX0_addWitness_20 rfl (lv_at hl 0 rfl) ?_
      refine xg_w hC hK hP dX0_addWitness_21 ?_
      refine lv_bipush (v := 6) hx hb dX0_addWitness_24 (by decide) ?_
      refine lv_icmp_lt (tgt := 39) hx hb dX0_addWitness_26 (by decide) (fun c_26 => ?_) (fun c_26 => ?_)
      · have nc_26 : w < 6 := nn_lt (by omega) c_26
        refine lv_aload_n hx hb dX0_addWitness_39 rfl (lv_at hl 0 rfl) ?_
        refine xg_w hC hK hP dX0_addWitness_40 ?_
        refine lv_istore_n (lv' := [(2, .int (nI w)), (0, .ref (a 0)), (1, .int x)]) hx hb dX0_addWitness_43 rfl hl (by decide) rfl (fun ls hl => ?_)
        refine lv_aload_n hx hb dX0_addWitness_44 rfl (lv_at hl 1 rfl) ?_
        refine xg_nv hC hK hP dX0_addWitness_45 ?_
        refine lv_iload_n hx hb dX0_addWitness_48 rfl (lv_at hl 0 rfl) ?_
        refine lv_iload_n hx hb dX0_addWitness_49 rfl (lv_at hl 2 rfl) ?_
        refine xs_nv hC hK hP hD hS w rfl (by omega) dX0_addWitness_50 (fun H locs hP hD hS => ?_)
        refine lv_aload_n hx hb dX0_addWitness_51 rfl (lv_at hl 1 rfl) ?_
        refine xg_du hC hK hP dX0_addWitness_52 ?_
        refine lv_iload_n hx hb dX0_addWitness_55 rfl (lv_at hl 0 rfl) ?_
        refine lv_iconst (v := 1) hx hb dX0_addWitness_56 (by decide) ?_
        refine xs_du hC hK hP hD hS w rfl (by omega) (by decide) dX0_addWitness_57 (fun H locs hP hD hS => ?_)
        refine lv_aload_n hx hb dX0_addWitness_58 rfl (lv_at hl 1 rfl) ?_
        refine lv_dup hx hb dX0_addWitness_59 rfl ?_
        refine xg_w hC hK hP dX0_addWitness_60 ?_
        refine lv_iconst (v := 1) hx hb dX0_addWitness_63 (by decide) ?_
        refine lv_iadd hx hb dX0_addWitness_64 ?_
        refine xp_w (w' := w + 1) hC hK hP hD hS (nI_1 _) dX0_addWitness_65 (fun H locs hP hD hS => ?_)
        refine lv_iload_n hx hb dX0_addWitness_68 rfl (lv_at hl 0 rfl) ?_
        exact W.iret (v := nI w) hx hb hr (fun t ht hW => ⟨⟨nI w, (), rfl, rfl, by rw [ht]; exact hP, va_K.moved hW.alike hK, hD⟩, hS.F ht⟩) hS.2.2 dX0_addWitness_69
      · exact absurd (nI_lt (b := 6) hw (by decide)) c_26
    · exact absurd h2 c_7
set_option maxHeartbeats 4000000 in
set_option maxRecDepth 100000 in
theorem c_X0_setHeir_0 (l : Launch) (sz : Nat) {D : va_G} {z : ClassId × ClassId} {a : Nat → Nat} {lv lk pu fa he : Nat → Int32} {n : Nat} {nv du ta : Nat → Int32} {w : Nat} {mp mi : Nat → Int32} {k : Nat} {nt fu re : Int32} (i : Nat) (hi : i < n) (hn : n ≤ 10) (ha : ¬ lv i = 0) : Met l yX0_setHeir (ws_ yX0_setHeir cX0_setHeir 4 (some .int)) ({ frames := 2, cells := 0, slots := 0, locals := 42 } : Room) (va_Pc [.ref (a 0), .int (nI i), .int (-1)] (fun U => U.heap.size = sz ∧ xI D z a lv lk pu fa he n nv du ta w mp mi k nt fu re U ∧ va_D (fun _ => True) (xW z a lv lk pu fa he n nv du ta w mp mi k nt fu re))) (va_Qi (fun (r : Int32) (_ : Unit) => r = he i) (fun _ t9 => va_P D vwCl (xW z a lv lk pu fa (upd he i (-1)) n nv du ta w mp mi k nt fu re) t9.heap ∧ kK D z t9 ∧ va_D (va_A (xW z a lv lk pu fa he n nv du ta w mp mi k nt fu re) sz) (xW z a lv lk pu fa (upd he i (-1)) n nv du ta w mp mi k nt fu re)) (va_A (xW z a lv lk pu fa he n nv du ta w mp mi k nt fu re) sz)) 0 0 (va_A (xW z a lv lk pu fa he n nv du ta w mp mi k nt fu re) sz) := by
  refine Met.ofW (cc := cX0_setHeir) (maxL := 4) (ret := (some .int)) (by decide) rfl ?_
  intro p e s m args below meth c s₁ B hml hv
  obtain ⟨rfl, hsz, ⟨hP, hK⟩, hD0⟩ := hv
  have hx := B.exec
  have hb := B.bytes
  have hr := B.returns
  have hts := atoms_spec (ws := ws_ yX0_setHeir cX0_setHeir 4 (some .int)) B.pre
  have hts : ∀ w ∈ lw_all, w.before _ s = true := fun w h => hts w (List.mem_cons_of_mem _ h)
  have hown : s.vm.findClass RX0 = some m.cls := findClass_of_methodNamed B.named
  have hlocks := B.notSynchronized
  have hC : CallFix p m c cX0_setHeir 4 s _ lw_all RX0 := ⟨hx, hb, hml, hown, hts⟩
  subst hsz
  have hD := hD0.self (sz := s.heap.size)
  generalize hAe : va_A (xW z a lv lk pu fa he n nv du ta w mp mi k nt fu re) s.heap.size = A at hD ⊢
  have hA : ∀ q : Nat, s.heap.size ≤ q → A q := fun q h => by rw [← hAe]; exact Or.inr h
  have hS : va_S A s.heap s.heap [] := va_S.rf
  have hl := lv_entry ([.ref (a 0), .int (nI i), .int (-1)]) (n := 4) (Nat.le_of_ble_eq_true rfl)
  rw [lg_entry_eq]
  generalize (lg_sl ([.ref (a 0), .int (nI i), .int (-1)]) ++ List.replicate (4 - (lg_sl ([.ref (a 0), .int (nI i), .int (-1)])).length) Slot.unset).toArray = ls at hl ⊢
  have hl : lv_has ls 4 [(0, .ref (a 0)), (1, .int (nI i)), (2, .int (-1))] := hl
  refine lv_aload_n hx hb dX0_setHeir_0 rfl (lv_at hl 0 rfl) ?_
  refine lv_iload_n hx hb dX0_setHeir_1 rfl (lv_at hl 1 rfl) ?_
  refine k_X0_requirePerson hC hK hP hl.1 ⟨Nat.le_of_ble_eq_true rfl, Nat.le_of_ble_eq_true rfl⟩ ⟨Nat.zero_le _, Nat.zero_le _⟩ (Nat.le_of_ble_eq_true rfl) rfl (by first | assumption | omega) (by first | assumption | omega) dX0_setHeir_2 ?_
  refine lv_iload_n hx hb dX0_setHeir_5 rfl (lv_at hl 2 rfl) ?_
  refine lv_iconst (v := (-1)) hx hb dX0_setHeir_6 (by decide) ?_
  refine lv_icmp_eq (tgt := 15) hx hb dX0_setHeir_7 (by decide) (fun c_7 => ?_) (fun c_7 => ?_)
  · refine lv_iload_n hx hb dX0_setHeir_15 rfl (lv_at hl 1 rfl) ?_
    refine lv_iload_n hx hb dX0_setHeir_16 rfl (lv_at hl 2 rfl) ?_
    refine lv_icmp_ne (tgt := 30) hx hb dX0_setHeir_17 (by decide) (fun c_17 => ?_) (fun c_17 => ?_)
    · refine lv_aload_n hx hb dX0_setHeir_30 rfl (lv_at hl 0 rfl) ?_
      refine lv_iload_n hx hb dX0_setHeir_31 rfl (lv_at hl 1 rfl) ?_
      refine k_X0_requireAlive hC hK hP hl.1 ⟨Nat.le_of_ble_eq_true rfl, Nat.le_of_ble_eq_true rfl⟩ ⟨Nat.zero_le _, Nat.zero_le _⟩ (Nat.le_of_ble_eq_true rfl) rfl (by first | assumption | omega) (by first | assumption | omega) dX0_setHeir_32 ?_
      refine lv_aload_n hx hb dX0_setHeir_35 rfl (lv_at hl 0 rfl) ?_
      refine xg_he hC hK hP dX0_setHeir_36 ?_
      refine lv_iload_n hx hb dX0_setHeir_39 rfl (lv_at hl 1 rfl) ?_
      refine xl_he hC hK hP i rfl (by omega) dX0_setHeir_40 ?_
      refine lv_istore_n (lv' := [(3, .int (he i)), (0, .ref (a 0)), (1, .int (nI i)), (2, .int (-1))]) hx hb dX0_setHeir_41 rfl hl (by decide) rfl (fun ls hl => ?_)
      refine lv_aload_n hx hb dX0_setHeir_42 rfl (lv_at hl 1 rfl) ?_
      refine xg_he hC hK hP dX0_setHeir_43 ?_
      refine lv_iload_n hx hb dX0_setHeir_46 rfl (lv_at hl 2 rfl) ?_
      refine lv_iload_n hx hb dX0_setHeir_47 rfl (lv_at hl 3 rfl) ?_
      refine xs_he hC hK hP hD hS i rfl (by omega) dX0_setHeir_48 (fun H locs hP hD hS => ?_)
      refine lv_iload_n hx hb dX0_setHeir_49 rfl (lv_at hl 0 rfl) ?_
      exact W.iret (v := he i) hx hb hr (fun t ht hW => ⟨⟨he i, (), rfl, rfl, by rw [ht]; exact hP, va_K.moved hW.alike hK, hD⟩, hS.F ht⟩) hS.2.2 dX0_setHeir_50
    · exact absurd c_17 (ni_m1 (by omega))
  · exact absurd rfl c_7
set_option maxHeartbeats 4000000 in
set_option maxRecDepth 100000 in
theorem c_X0_setHeir_1 (l : Launch) (sz : Nat) {D : va_G} {z : ClassId × ClassId} {a : Nat → Nat} {lv lk pu fa he : Nat → Int32} {n : Nat} {nv du ta : Nat → Int32} {w : Nat} {mp mi : Nat → Int32} {k : Nat} {nt fu re : Int32} (i : Nat) (j : Nat) (hi : i < n) (hj : j < n) (hn : n ≤ 10) (hij : ¬ i = j) (ha : ¬ lv i = 0) : Met l yX0_setHeir (ws_ yX0_setHeir cX0_setHeir 4 (some .int)) ({ frames := 2, cells := 0, slots := 0, locals := 42 } : Room) (va_Pc [.ref (a 0), .int (nI i), .int (nI j)] (fun U => U.heap.size = sz ∧ xI D z a lv lk pu fa he n nv du ta w mp mi k nt fu re U ∧ va_D (fun _ => True) (xW z a lv lk pu fa he n nv du ta w mp mi k nt fu re))) (va_Qi (fun (r : Int32) (_ : Unit) => r = he i) (fun _ t9 => va_P D vwCl (xW z a lv lk pu fa (upd he i (nI j)) n nv du ta w mp mi k nt fu re) t9.heap ∧ kK D z t9 ∧ va_D (va_A (xW z a lv lk pu fa he n nv du ta w mp mi k nt fu re) sz) (xW z a lv lk pu fa (upd he i (nI j)) n nv du ta w mp mi k nt fu re)) (va_A (xW z a lv lk pu fa he n nv du ta w mp mi k nt fu re) sz)) 0 0 (va_A (xW z a lv lk pu fa he n nv du ta w mp mi k nt fu re) sz) := by
  refine Met.ofW (cc := cX0_setHeir) (maxL := 4) (ret := (some .int)) (by decide) rfl ?_
  intro p e s m args below meth c s₁ B hml hv
  obtain ⟨rfl, hsz, ⟨hP, hK⟩, hD0⟩ := hv
  have hx := B.exec
  have hb := B.bytes
  have hr := B.returns
  have hts := atoms_spec (ws := ws_ yX0_setHeir cX0_setHeir 4 (some .int)) B.pre
  have hts : ∀ w ∈ lw_all, w.before _ s = true := fun w h => hts w (List.mem_cons_of_mem _ h)
  have hown : s.vm.findClass RX0 = some m.cls := findClass_of_methodNamed B.named
  have hlocks := B.notSynchronized
  have hC : CallFix p m c cX0_setHeir 4 s _ lw_all RX0 := ⟨hx, hb, hml, hown, hts⟩
  subst hsz
  have hD := hD0.self (sz := s.heap.size)
  generalize hAe : va_A (xW z a lv lk pu fa he n nv du ta w mp mi k nt fu re) s.heap.size = A at hD ⊢
  have hA : ∀ q : Nat, s.heap.size ≤ q → A q := fun q h => by rw [← hAe]; exact Or.inr h
  have hS : va_S A s.heap s.heap [] := va_S.rf
  have hl := lv_entry ([.ref (a 0), .int (nI i), .int (nI j)]) (n := 4) (Nat.le_of_ble_eq_true rfl)
  rw [lg_entry_eq]
  generalize (lg_sl ([.ref (a 0), .int (nI i), .int (nI j)]) ++ List.replicate (4 - (lg_sl ([.ref (a 0), .int (nI i), .int (nI j)])).length) Slot.unset).toArray = ls at hl ⊢
  have hl : lv_has ls 4 [(0, .ref (a 0)), (1, .int (nI i)), (2, .int (nI j))] := hl
  refine lv_aload_n hx hb dX0_setHeir_0 rfl (lv_at hl 0 rfl) ?_
  refine lv_iload_n hx hb dX0_setHeir_1 rfl (lv_at hl 1 rfl) ?_
  refine k_X0_requirePerson hC hK hP hl.1 ⟨Nat.le_of_ble_eq_true rfl, Nat.le_of_ble_eq_true rfl⟩ ⟨Nat.zero_le _, Nat.zero_le _⟩ (Nat.le_of_ble_eq_true rfl) rfl (by first | assumption | omega) (by first | assumption | omega) dX0_setHeir_2 ?_
  refine lv_iload_n hx hb dX0_setHeir_5 rfl (lv_at hl 2 rfl) ?_
  refine lv_iconst (v := (-1)) hx hb dX0_setHeir_6 (by decide) ?_
  refine lv_icmp_eq (tgt := 15) hx hb dX0_setHeir_7 (by decide) (fun c_7 => ?_) (fun c_7 => ?_)
  · exact absurd c_7 (ni_m1 (by omega))
  · refine lv_aload_n hx hb dX0_setHeir_10 rfl (lv_at hl 0 rfl) ?_
    refine lv_iload_n hx hb dX0_setHeir_11 rfl (lv_at hl 2 rfl) ?_
    refine k_X0_requirePerson hC hK hP hl.1 ⟨Nat.le_of_ble_eq_true rfl, Nat.le_of_ble_eq_true rfl⟩ ⟨Nat.zero_le _, Nat.zero_le _⟩ (Nat.le_of_ble_eq_true rfl) rfl (by first | assumption | omega) (by first | assumption | omega) dX0_setHeir_12 ?_
    refine lv_iload_n hx hb dX0_setHeir_15 rfl (lv_at hl 1 rfl) ?_
    refine lv_iload_n hx hb dX0_setHeir_16 rfl (lv_at hl 2 rfl) ?_
    refine lv_icmp_ne (tgt := 30) hx hb dX0_setHeir_17 (by decide) (fun c_17 => ?_) (fun c_17 => ?_)
    · refine lv_aload_n hx hb dX0_setHeir_30 rfl (lv_at hl 0 rfl) ?_
      refine lv_iload_n hx hb dX0_setHeir_31 rfl (lv_at hl 1 rfl) ?_
      refine k_X0_requireAlive hC hK hP hl.1 ⟨Nat.le_of_ble_eq_true rfl, Nat.le_of_ble_eq_true rfl⟩ ⟨Nat.zero_le _, Nat.zero_le _⟩ (Nat.le_of_ble_eq_true rfl) rfl (by first | assumption | omega) (by first | assumption | omega) dX0_setHeir_32 ?_
      refine lv_aload_n hx hb dX0_setHeir_35 rfl (lv_at hl 0 rfl) ?_
      refine xg_he hC hK hP dX0_setHeir_36 ?_
      refine lv_iload_n hx hb dX0_setHeir_39 rfl (lv_at hl 1 rfl) ?_
      refine xl_he hC hK hP i rfl (by omega) dX0_setHeir_40 ?_
      refine lv_istore_n (lv' := [(3, .int (he i)), (0, .ref (a 0)), (1, .int (nI i)), (2, .int (nI j))]) hx hb dX0_setHeir_41 rfl hl (by decide) rfl (fun ls hl => ?_)
      refine lv_aload_n hx hb dX0_setHeir_42 rfl (lv_at hl 1 rfl) ?_
      refine xg_he hC hK hP dX0_setHeir_43 ?_
      refine lv_iload_n hx hb dX0_setHeir_46 rfl (lv_at hl 2 rfl) ?_
      refine lv_iload_n hx hb dX0_setHeir_47 rfl (lv_at hl 3 rfl) ?_
      refine xs_he hC hK hP hD hS i rfl (by omega) dX0_setHeir_48 (fun H locs hP hD hS => ?_)
      refine lv_iload_n hx hb dX0_setHeir_49 rfl (lv_at hl 0 rfl) ?_
      exact W.iret (v := he i) hx hb hr (fun t ht hW => ⟨⟨he i, (), rfl, rfl, by rw [ht]; exact hP, va_K.moved hW.alike hK, hD⟩, hS.F ht⟩) hS.2.2 dX0_setHeir_50
    · exact absurd c_17 (fun q => hij (nn_eq (by omega) q))
set_option maxHeartbeats 4000000 in
set_option maxRecDepth 100000 in
theorem c_X0_buyFate (l : Launch) (sz : Nat) {D : va_G} {z : ClassId × ClassId} {a : Nat → Nat} {lv lk pu fa he : Nat → Int32} {n : Nat} {nv du ta : Nat → Int32} {w : Nat} {mp mi : Nat → Int32} {k : Nat} {nt fu re : Int32} (i : Nat) (hi : i < n) (hn : n ≤ 10) (ha : ¬ lv i = 0) (hf : fa i < 9) (hp : sp_price (lk i) ≤ pu i) : Met l yX0_buyFate (ws_ yX0_buyFate cX0_buyFate 3 (some .int)) ({ frames := 2, cells := 0, slots := 0, locals := 42 } : Room) (va_Pc [.ref (a 0), .int (nI i)] (fun U => U.heap.size = sz ∧ xI D z a lv lk pu fa he n nv du ta w mp mi k nt fu re U ∧ va_D (fun _ => True) (xW z a lv lk pu fa he n nv du ta w mp mi k nt fu re))) (va_Qi (fun (r : Int32) (_ : Unit) => r = sp_price (lk i)) (fun _ t9 => va_P D vwCl (xW z a lv lk (upd pu i (pu i - sp_price (lk i))) (upd fa i (fa i + 1)) he n nv du ta w mp mi k nt (fu + sp_price (lk i)) re) t9.heap ∧ kK D z t9 ∧ va_D (va_A (xW z a lv lk pu fa he n nv du ta w mp mi k nt fu re) sz) (xW z a lv lk (upd pu i (pu i - sp_price (lk i))) (upd fa i (fa i + 1)) he n nv du ta w mp mi k nt (fu + sp_price (lk i)) re)) (va_A (xW z a lv lk pu fa he n nv du ta w mp mi k nt fu re) sz)) 0 0 (va_A (xW z a lv lk pu fa he n nv du ta w mp mi k nt fu re) sz) := by
  refine Met.ofW (cc := cX0_buyFate) (maxL := 3) (ret := (some .int)) (by decide) rfl ?_
  intro p e s m args below meth c s₁ B hml hv
  obtain ⟨rfl, hsz, ⟨hP, hK⟩, hD0⟩ := hv
  have hx := B.exec
  have hb := B.bytes
  have hr := B.returns
  have hts := atoms_spec (ws := ws_ yX0_buyFate cX0_buyFate 3 (some .int)) B.pre
  have hts : ∀ w ∈ lw_all, w.before _ s = true := fun w h => hts w (List.mem_cons_of_mem _ h)
  have hown : s.vm.findClass RX0 = some m.cls := findClass_of_methodNamed B.named
  have hlocks := B.notSynchronized
  have hC : CallFix p m c cX0_buyFate 3 s _ lw_all RX0 := ⟨hx, hb, hml, hown, hts⟩
  subst hsz
  have hD := hD0.self (sz := s.heap.size)
  generalize hAe : va_A (xW z a lv lk pu fa he n nv du ta w mp mi k nt fu re) s.heap.size = A at hD ⊢
  have hA : ∀ q : Nat, s.heap.size ≤ q → A q := fun q h => by rw [← hAe]; exact Or.inr h
  have hS : va_S A s.heap s.heap [] := va_S.rf
  have hl := lv_entry ([.ref (a 0), .int (nI i)]) (n := 3) (Nat.le_of_ble_eq_true rfl)
  rw [lg_entry_eq]
  generalize (lg_sl ([.ref (a 0), .int (nI i)]) ++ List.replicate (3 - (lg_sl ([.ref (a 0), .int (nI i)])).length) Slot.unset).toArray = ls at hl ⊢
  have hl : lv_has ls 3 [(0, .ref (a 0)), (1, .int (nI i))] := hl
  refine lv_aload_n hx hb dX0_buyFate_0 rfl (lv_at hl 0 rfl) ?_
  refine lv_iload_n hx hb dX0_buyFate_1 rfl (lv_at hl 1 rfl) ?_
  refine k_X0_requirePerson hC hK hP hl.1 ⟨Nat.le_of_ble_eq_true rfl, Nat.le_of_ble_eq_true rfl⟩ ⟨Nat.zero_le _, Nat.zero_le _⟩ (Nat.le_of_ble_eq_true rfl) rfl (by first | assumption | omega) (by first | assumption | omega) dX0_buyFate_2 ?_
  refine lv_aload_n hx hb dX0_buyFate_5 rfl (lv_at hl 0 rfl) ?_
  refine lv_iload_n hx hb dX0_buyFate_6 rfl (lv_at hl 1 rfl) ?_
  refine k_X0_requireAlive hC hK hP hl.1 ⟨Nat.le_of_ble_eq_true rfl, Nat.le_of_ble_eq_true rfl⟩ ⟨Nat.zero_le _, Nat.zero_le _⟩ (Nat.le_of_ble_eq_true rfl) rfl (by first | assumption | omega) (by first | assumption | omega) dX0_buyFate_7 ?_
  refine lv_aload_n hx hb dX0_buyFate_10 rfl (lv_at hl 0 rfl) ?_
  refine xg_fa hC hK hP dX0_buyFate_11 ?_
  refine lv_iload_n hx hb dX0_buyFate_14 rfl (lv_at hl 1 rfl) ?_
  refine xl_fa hC hK hP i rfl (by omega) dX0_buyFate_15 ?_
  refine lv_bipush (v := 9) hx hb dX0_buyFate_16 (by decide) ?_
  refine lv_icmp_lt (tgt := 31) hx hb dX0_buyFate_18 (by decide) (fun c_18 => ?_) (fun c_18 => ?_)
  · refine lv_aload_n hx hb dX0_buyFate_31 rfl (lv_at hl 0 rfl) ?_
    refine lv_iload_n hx hb dX0_buyFate_32 rfl (lv_at hl 1 rfl) ?_
    refine k_X0_fatePrice hC hK hP hl.1 ⟨Nat.le_of_ble_eq_true rfl, Nat.le_of_ble_eq_true rfl⟩ ⟨Nat.zero_le _, Nat.zero_le _⟩ (Nat.le_of_ble_eq_true rfl) rfl (by first | assumption | omega) dX0_buyFate_33 ?_
    refine lv_istore_n (lv' := [(2, .int (sp_price (lk i))), (0, .ref (a 0)), (1, .int (nI i))]) hx hb dX0_buyFate_36 rfl hl (by decide) rfl (fun ls hl => ?_)
    refine lv_aload_n hx hb dX0_buyFate_37 rfl (lv_at hl 1 rfl) ?_
    refine xg_pu hC hK hP dX0_buyFate_38 ?_
    refine lv_iload_n hx hb dX0_buyFate_41 rfl (lv_at hl 2 rfl) ?_
    refine xl_pu hC hK hP i rfl (by omega) dX0_buyFate_42 ?_
    refine lv_iload_n hx hb dX0_buyFate_43 rfl (lv_at hl 0 rfl) ?_
    refine lv_icmp_ge (tgt := 57) hx hb dX0_buyFate_44 (by decide) (fun c_44 => ?_) (fun c_44 => ?_)
    · refine lv_aload_n hx hb dX0_buyFate_57 rfl (lv_at hl 1 rfl) ?_
      refine xg_pu hC hK hP dX0_buyFate_58 ?_
      refine lv_iload_n hx hb dX0_buyFate_61 rfl (lv_at hl 2 rfl) ?_
      refine lv_dup2_11 hx hb dX0_buyFate_62 rfl rfl ?_
      refine xl_pu hC hK hP i rfl (by omega) dX0_buyFate_63 ?_
      refine lv_iload_n hx hb dX0_buyFate_64 rfl (lv_at hl 0 rfl) ?_
      refine lv_isub hx hb dX0_buyFate_65 ?_
      refine xs_pu hC hK hP hD hS i rfl (by omega) dX0_buyFate_66 (fun H locs hP hD hS => ?_)
      refine lv_aload_n hx hb dX0_buyFate_67 rfl (lv_at hl 1 rfl) ?_
      refine lv_dup hx hb dX0_buyFate_68 rfl ?_
      refine xg_fu hC hK hP dX0_buyFate_69 ?_
      refine lv_iload_n hx hb dX0_buyFate_72 rfl (lv_at hl 0 rfl) ?_
      refine lv_iadd hx hb dX0_buyFate_73 ?_
      refine xp_fu hC hK hP hD hS dX0_buyFate_74 (fun H locs hP hD hS => ?_)
      refine lv_aload_n hx hb dX0_buyFate_77 rfl (lv_at hl 1 rfl) ?_
      refine xg_fa hC hK hP dX0_buyFate_78 ?_
      refine lv_iload_n hx hb dX0_buyFate_81 rfl (lv_at hl 2 rfl) ?_
      refine lv_dup2_11 hx hb dX0_buyFate_82 rfl rfl ?_
      refine xl_fa hC hK hP i rfl (by omega) dX0_buyFate_83 ?_
      refine lv_iconst (v := 1) hx hb dX0_buyFate_84 (by decide) ?_
      refine lv_iadd hx hb dX0_buyFate_85 ?_
      refine xs_fa hC hK hP hD hS i rfl (by omega) dX0_buyFate_86 (fun H locs hP hD hS => ?_)
      refine lv_iload_n hx hb dX0_buyFate_87 rfl (lv_at hl 0 rfl) ?_
      have hW9 : (xW z a lv lk (upd pu i ((pu i) - (sp_price (lk i)))) (upd fa i ((fa i) + 1)) he n nv du ta w mp mi k nt (fu + (sp_price (lk i))) re : va_W) = xW z a lv lk (upd pu i (pu i - sp_price (lk i))) (upd fa i (fa i + 1)) he n nv du ta w mp mi k nt (fu + sp_price (lk i)) re := rfl
      rw [hW9] at hP hD
      exact W.iret (v := sp_price (lk i)) hx hb hr (fun t ht hW => ⟨⟨sp_price (lk i), (), rfl, rfl, by rw [ht]; exact hP, va_K.moved hW.alike hK, hD⟩, hS.F ht⟩) hS.2.2 dX0_buyFate_88
    · exact absurd hp c_44
  · exact absurd hf c_18
set_option maxHeartbeats 4000000 in
set_option maxRecDepth 100000 in
theorem c_X0_turnDuty (l : Launch) (sz : Nat) {D : va_G} {z : ClassId × ClassId} {a : Nat → Nat} {lv lk pu fa he : Nat → Int32} {n : Nat} {nv du ta : Nat → Int32} {w : Nat} {mp mi : Nat → Int32} {k : Nat} {nt fu re : Int32} (i : Nat) (hi : i < w) (hw : w ≤ 6) : Met l yX0_turnDuty (ws_ yX0_turnDuty cX0_turnDuty 2 (some .boolean)) ({ frames := 2, cells := 0, slots := 0, locals := 42 } : Room) (va_Pc [.ref (a 0), .int (nI i)] (fun U => U.heap.size = sz ∧ xI D z a lv lk pu fa he n nv du ta w mp mi k nt fu re U ∧ va_D (fun _ => True) (xW z a lv lk pu fa he n nv du ta w mp mi k nt fu re))) (va_Qi (fun (r : Int32) (_ : Unit) => r = sp_not (du i)) (fun _ t9 => va_P D vwCl (xW z a lv lk pu fa he n nv (upd du i (sp_not (du i))) ta w mp mi k nt fu re) t9.heap ∧ kK D z t9 ∧ va_D (va_A (xW z a lv lk pu fa he n nv du ta w mp mi k nt fu re) sz) (xW z a lv lk pu fa he n nv (upd du i (sp_not (du i))) ta w mp mi k nt fu re)) (va_A (xW z a lv lk pu fa he n nv du ta w mp mi k nt fu re) sz)) 0 0 (va_A (xW z a lv lk pu fa he n nv du ta w mp mi k nt fu re) sz) := by
  refine Met.ofW (cc := cX0_turnDuty) (maxL := 2) (ret := (some .boolean)) (by decide) rfl ?_
  intro p e s m args below meth c s₁ B hml hv
  obtain ⟨rfl, hsz, ⟨hP, hK⟩, hD0⟩ := hv
  have hx := B.exec
  have hb := B.bytes
  have hr := B.returns
  have hts := atoms_spec (ws := ws_ yX0_turnDuty cX0_turnDuty 2 (some .boolean)) B.pre
  have hts : ∀ w ∈ lw_all, w.before _ s = true := fun w h => hts w (List.mem_cons_of_mem _ h)
  have hown : s.vm.findClass RX0 = some m.cls := findClass_of_methodNamed B.named
  have hlocks := B.notSynchronized
  have hC : CallFix p m c cX0_turnDuty 2 s _ lw_all RX0 := ⟨hx, hb, hml, hown, hts⟩
  subst hsz
  have hD := hD0.self (sz := s.heap.size)
  generalize hAe : va_A (xW z a lv lk pu fa he n nv du ta w mp mi k nt fu re) s.heap.size = A at hD ⊢
  have hA : ∀ q : Nat, s.heap.size ≤ q → A q := fun q h => by rw [← hAe]; exact Or.inr h
  have hS : va_S A s.heap s.heap [] := va_S.rf
  have hl := lv_entry ([.ref (a 0), .int (nI i)]) (n := 2) (Nat.le_of_ble_eq_true rfl)
  rw [lg_entry_eq]
  generalize (lg_sl ([.ref (a 0), .int (nI i)]) ++ List.replicate (2 - (lg_sl ([.ref (a 0), .int (nI i)])).length) Slot.unset).toArray = ls at hl ⊢
  have hl : lv_has ls 2 [(0, .ref (a 0)), (1, .int (nI i))] := hl
  refine lv_aload_n hx hb dX0_turnDuty_0 rfl (lv_at hl 0 rfl) ?_
  refine lv_iload_n hx hb dX0_turnDuty_1 rfl (lv_at hl 1 rfl) ?_
  refine k_X0_requireWitness hC hK hP hl.1 ⟨Nat.le_of_ble_eq_true rfl, Nat.le_of_ble_eq_true rfl⟩ ⟨Nat.zero_le _, Nat.zero_le _⟩ (Nat.le_of_ble_eq_true rfl) rfl (by first | assumption | omega) (by first | assumption | omega) dX0_turnDuty_2 ?_
  refine lv_aload_n hx hb dX0_turnDuty_5 rfl (lv_at hl 0 rfl) ?_
  refine xg_du hC hK hP dX0_turnDuty_6 ?_
  refine lv_iload_n hx hb dX0_turnDuty_9 rfl (lv_at hl 1 rfl) ?_
  refine lv_aload_n hx hb dX0_turnDuty_10 rfl (lv_at hl 0 rfl) ?_
  refine xg_du hC hK hP dX0_turnDuty_11 ?_
  refine lv_iload_n hx hb dX0_turnDuty_14 rfl (lv_at hl 1 rfl) ?_
  refine xl_du hC hK hP i rfl (by omega) dX0_turnDuty_15 ?_
  refine lv_if_ne (tgt := 23) hx hb dX0_turnDuty_16 (by decide) (fun c_16 => ?_) (fun c_16 => ?_)
  · refine lv_iconst (v := 0) hx hb dX0_turnDuty_23 (by decide) ?_
    refine xs_du hC hK hP hD hS i rfl (by omega) (by decide) dX0_turnDuty_24 (fun H locs hP hD hS => ?_)
    refine lv_aload_n hx hb dX0_turnDuty_25 rfl (lv_at hl 0 rfl) ?_
    refine xg_du hC hK hP dX0_turnDuty_26 ?_
    refine lv_iload_n hx hb dX0_turnDuty_29 rfl (lv_at hl 1 rfl) ?_
    refine xl_du hC hK hP i rfl (by omega) dX0_turnDuty_30 ?_
    have hW9 : (xW z a lv lk pu fa he n nv (upd du i 0) ta w mp mi k nt fu re : va_W) = xW z a lv lk pu fa he n nv (upd du i (sp_not (du i))) ta w mp mi k nt fu re := (by simp [sp_not, c_16])
    rw [hW9] at hP hD
    exact W.zret (v := (upd du i 0) i) hx hb hr (nar_bool (by simp [upd])) (fun t ht hW => ⟨⟨(upd du i 0) i, (), rfl, (by simp [sp_not, upd, c_16]), by rw [ht]; exact hP, va_K.moved hW.alike hK, hD⟩, hS.F ht⟩) hS.2.2 dX0_turnDuty_31
  · refine lv_iconst (v := 1) hx hb dX0_turnDuty_19 (by decide) ?_
    refine lv_goto (tgt := 24) hx hb dX0_turnDuty_20 (by decide) ?_
    refine xs_du hC hK hP hD hS i rfl (by omega) (by decide) dX0_turnDuty_24 (fun H locs hP hD hS => ?_)
    refine lv_aload_n hx hb dX0_turnDuty_25 rfl (lv_at hl 0 rfl) ?_
    refine xg_du hC hK hP dX0_turnDuty_26 ?_
    refine lv_iload_n hx hb dX0_turnDuty_29 rfl (lv_at hl 1 rfl) ?_
    refine xl_du hC hK hP i rfl (by omega) dX0_turnDuty_30 ?_
    have hW9 : (xW z a lv lk pu fa he n nv (upd du i 1) ta w mp mi k nt fu re : va_W) = xW z a lv lk pu fa he n nv (upd du i (sp_not (du i))) ta w mp mi k nt fu re := (by simp [sp_not, c_16])
    rw [hW9] at hP hD
    exact W.zret (v := (upd du i 1) i) hx hb hr (nar_bool (by simp [upd])) (fun t ht hW => ⟨⟨(upd du i 1) i, (), rfl, (by simp [sp_not, upd, c_16]), by rw [ht]; exact hP, va_K.moved hW.alike hK, hD⟩, hS.F ht⟩) hS.2.2 dX0_turnDuty_31
set_option maxHeartbeats 4000000 in
set_option maxRecDepth 100000 in
theorem c_X0_miss (l : Launch) (sz : Nat) {D : va_G} {z : ClassId × ClassId} {a : Nat → Nat} {lv lk pu fa he : Nat → Int32} {n : Nat} {nv du ta : Nat → Int32} {w : Nat} {mp mi : Nat → Int32} {k : Nat} {nt fu re : Int32} (i : Nat) (b : Int32) (hi : i < n) (hn : n ≤ 10) (hw : w ≤ 6) (hk : k < 60) (h1 : ¬ b < 1) (h2 : b ≤ 60) (ha : ¬ lv i = 0) : Met l yX0_miss (ws_ yX0_miss cX0_miss 4 (some .int)) ({ frames := 3, cells := 0, slots := 0, locals := 67 } : Room) (va_Pc [.ref (a 0), .int (nI i), .int b] (fun U => U.heap.size = sz ∧ xI D z a lv lk pu fa he n nv du ta w mp mi k nt fu re U ∧ va_D (fun _ => True) (xW z a lv lk pu fa he n nv du ta w mp mi k nt fu re))) (va_Qi (fun (r : Int32) (_ : Unit) => r = sp_mid du nv b ta w) (fun _ t9 => va_P D vwCl (xW z a lv (upd lk i (imax 0 (lk i - (60 - b) / 10))) (if sp_uses (lv i) (fa i) (sp_mid du nv b ta w) = 0 then pu else upd pu i (pu i + sp_coins (lv i) (fa i) (lk i) fu (sp_mid du nv b ta w))) (if sp_uses (lv i) (fa i) (sp_mid du nv b ta w) = 0 then fa else upd fa i (fa i - 1)) he n (sp_fr du (sp_loss b) nv w) du (sp_tarr du nv b ta w) w (upd mp k (nI i)) (upd mi k (sp_mid du nv b ta w)) (k + 1) nt (if sp_uses (lv i) (fa i) (sp_mid du nv b ta w) = 0 then fu else fu - sp_coins (lv i) (fa i) (lk i) fu (sp_mid du nv b ta w)) (if sp_uses (lv i) (fa i) (sp_mid du nv b ta w) = 0 then re else re + sp_coins (lv i) (fa i) (lk i) fu (sp_mid du nv b ta w))) t9.heap ∧ kK D z t9 ∧ va_D (va_A (xW z a lv lk pu fa he n nv du ta w mp mi k nt fu re) sz) (xW z a lv (upd lk i (imax 0 (lk i - (60 - b) / 10))) (if sp_uses (lv i) (fa i) (sp_mid du nv b ta w) = 0 then pu else upd pu i (pu i + sp_coins (lv i) (fa i) (lk i) fu (sp_mid du nv b ta w))) (if sp_uses (lv i) (fa i) (sp_mid du nv b ta w) = 0 then fa else upd fa i (fa i - 1)) he n (sp_fr du (sp_loss b) nv w) du (sp_tarr du nv b ta w) w (upd mp k (nI i)) (upd mi k (sp_mid du nv b ta w)) (k + 1) nt (if sp_uses (lv i) (fa i) (sp_mid du nv b ta w) = 0 then fu else fu - sp_coins (lv i) (fa i) (lk i) fu (sp_mid du nv b ta w)) (if sp_uses (lv i) (fa i) (sp_mid du nv b ta w) = 0 then re else re + sp_coins (lv i) (fa i) (lk i) fu (sp_mid du nv b ta w)))) (va_A (xW z a lv lk pu fa he n nv du ta w mp mi k nt fu re) sz)) 0 0 (va_A (xW z a lv lk pu fa he n nv du ta w mp mi k nt fu re) sz) := by
  refine Met.ofW (cc := cX0_miss) (maxL := 4) (ret := (some .int)) (by decide) rfl ?_
  intro p e s m args below meth c s₁ B hml hv
  obtain ⟨rfl, hsz, ⟨hP, hK⟩, hD0⟩ := hv
  have hx := B.exec
  have hb := B.bytes
  have hr := B.returns
  have hts := atoms_spec (ws := ws_ yX0_miss cX0_miss 4 (some .int)) B.pre
  have hts : ∀ w ∈ lw_all, w.before _ s = true := fun w h => hts w (List.mem_cons_of_mem _ h)
  have hown : s.vm.findClass RX0 = some m.cls := findClass_of_methodNamed B.named
  have hlocks := B.notSynchronized
  have hC : CallFix p m c cX0_miss 4 s _ lw_all RX0 := ⟨hx, hb, hml, hown, hts⟩
  subst hsz
  have hD := hD0.self (sz := s.heap.size)
  generalize hAe : va_A (xW z a lv lk pu fa he n nv du ta w mp mi k nt fu re) s.heap.size = A at hD ⊢
  have hA : ∀ q : Nat, s.heap.size ≤ q → A q := fun q h => by rw [← hAe]; exact Or.inr h
  have hS : va_S A s.heap s.heap [] := va_S.rf
  have hl := lv_entry ([.ref (a 0), .int (nI i), .int b]) (n := 4) (Nat.le_of_ble_eq_true rfl)
  rw [lg_entry_eq]
  generalize (lg_sl ([.ref (a 0), .int (nI i), .int b]) ++ List.replicate (4 - (lg_sl ([.ref (a 0), .int (nI i), .int b])).length) Slot.unset).toArray = ls at hl ⊢
  have hl : lv_has ls 4 [(0, .ref (a 0)), (1, .int (nI i)), (2, .int b)] := hl
  refine lv_aload_n hx hb dX0_miss_0 rfl (lv_at hl 0 rfl) ?_
  refine lv_iload_n hx hb dX0_miss_1 rfl (lv_at hl 1 rfl) ?_
  refine k_X0_requirePerson hC hK hP hl.1 ⟨Nat.le_of_ble_eq_true rfl, Nat.le_of_ble_eq_true rfl⟩ ⟨Nat.zero_le _, Nat.zero_le _⟩ (Nat.le_of_ble_eq_true rfl) rfl (by first | assumption | omega) (by first | assumption | omega) dX0_miss_2 ?_
  refine lv_aload_n hx hb dX0_miss_5 rfl (lv_at hl 0 rfl) ?_
  refine lv_iload_n hx hb dX0_miss_6 rfl (lv_at hl 2 rfl) ?_
  refine k_X0_requireInches hC hK hP hl.1 ⟨Nat.le_of_ble_eq_true rfl, Nat.le_of_ble_eq_true rfl⟩ ⟨Nat.zero_le _, Nat.zero_le _⟩ (Nat.le_of_ble_eq_true rfl)  (by first | assumption | omega) (by first | assumption | omega) dX0_miss_7 ?_
  refine lv_aload_n hx hb dX0_miss_10 rfl (lv_at hl 0 rfl) ?_
  refine lv_iload_n hx hb dX0_miss_11 rfl (lv_at hl 1 rfl) ?_
  refine k_X0_requireAlive hC hK hP hl.1 ⟨Nat.le_of_ble_eq_true rfl, Nat.le_of_ble_eq_true rfl⟩ ⟨Nat.zero_le _, Nat.zero_le _⟩ (Nat.le_of_ble_eq_true rfl) rfl (by first | assumption | omega) (by first | assumption | omega) dX0_miss_12 ?_
  refine lv_aload_n hx hb dX0_miss_15 rfl (lv_at hl 0 rfl) ?_
  refine xg_k hC hK hP dX0_miss_16 ?_
  refine lv_bipush (v := 60) hx hb dX0_miss_19 (by decide) ?_
  refine lv_icmp_lt (tgt := 34) hx hb dX0_miss_21 (by decide) (fun c_21 => ?_) (fun c_21 => ?_)
  · refine lv_aload_n hx hb dX0_miss_34 rfl (lv_at hl 0 rfl) ?_
    refine lv_iload_n hx hb dX0_miss_35 rfl (lv_at hl 2 rfl) ?_
    refine k_X0_middleTale hC hK hP hD hS hA hl.1 ⟨Nat.le_of_ble_eq_true rfl, Nat.le_of_ble_eq_true rfl⟩ ⟨Nat.zero_le _, Nat.zero_le _⟩ (Nat.le_of_ble_eq_true rfl)  (by first | assumption | omega) dX0_miss_36 (fun H locs hP hD hS => ?_)
    refine lv_istore_n (lv' := [(3, .int (sp_mid du nv b ta w)), (0, .ref (a 0)), (1, .int (nI i)), (2, .int b)]) hx hb dX0_miss_39 rfl hl (by decide) rfl (fun ls hl => ?_)
    refine lv_aload_n hx hb dX0_miss_40 rfl (lv_at hl 1 rfl) ?_
    refine lv_iload_n hx hb dX0_miss_41 rfl (lv_at hl 2 rfl) ?_
    refine lv_iload_n hx hb dX0_miss_42 rfl (lv_at hl 0 rfl) ?_
    refine k_X0_refundFate hC hK hP hD hS hA hl.1 ⟨Nat.le_of_ble_eq_true rfl, Nat.le_of_ble_eq_true rfl⟩ ⟨Nat.zero_le _, Nat.zero_le _⟩ (Nat.le_of_ble_eq_true rfl) rfl (by first | assumption | omega) dX0_miss_43 (fun H locs hP hD hS => ?_)
    refine lv_aload_n hx hb dX0_miss_46 rfl (lv_at hl 1 rfl) ?_
    refine xg_lk hC hK hP dX0_miss_47 ?_
    refine lv_iload_n hx hb dX0_miss_50 rfl (lv_at hl 2 rfl) ?_
    refine lv_iconst (v := 0) hx hb dX0_miss_51 (by decide) ?_
    refine lv_aload_n hx hb dX0_miss_52 rfl (lv_at hl 1 rfl) ?_
    refine xg_lk hC hK hP dX0_miss_53 ?_
    refine lv_iload_n hx hb dX0_miss_56 rfl (lv_at hl 2 rfl) ?_
    refine xl_lk hC hK hP i rfl (by omega) dX0_miss_57 ?_
    refine lv_bipush (v := 60) hx hb dX0_miss_58 (by decide) ?_
    refine lv_iload_n hx hb dX0_miss_60 rfl (lv_at hl 3 rfl) ?_
    refine lv_isub hx hb dX0_miss_61 ?_
    refine lv_bipush (v := 10) hx hb dX0_miss_62 (by decide) ?_
    refine lv_idiv hx hb dX0_miss_64 (by decide) ?_
    refine lv_isub hx hb dX0_miss_65 ?_
    refine va_mmax hx hb (hml.trans hl.1.symm) hown (hts _ mM_X0_102) (hts _ mT_max) (hts _ mI_Math) (hts _ mC_max) (Nat.le_of_ble_eq_true rfl) (Nat.le_of_ble_eq_true rfl) (Nat.zero_le _) (Nat.zero_le _) dX0_miss_66 ?_
    refine xs_lk hC hK hP hD hS i rfl (by omega) dX0_miss_69 (fun H locs hP hD hS => ?_)
    refine lv_aload_n hx hb dX0_miss_70 rfl (lv_at hl 1 rfl) ?_
    refine lv_iload_n hx hb dX0_miss_71 rfl (lv_at hl 3 rfl) ?_
    refine k_X0_nerveLoss hC hl.1 ⟨Nat.le_of_ble_eq_true rfl, Nat.le_of_ble_eq_true rfl⟩ ⟨Nat.zero_le _, Nat.zero_le _⟩ (Nat.le_of_ble_eq_true rfl)   dX0_miss_72 ?_
    refine k_X0_frightenWitnesses hC hK hP hD hS hA hl.1 ⟨Nat.le_of_ble_eq_true rfl, Nat.le_of_ble_eq_true rfl⟩ ⟨Nat.zero_le _, Nat.zero_le _⟩ (Nat.le_of_ble_eq_true rfl)  (by first | assumption | omega) dX0_miss_75 (fun H locs hP hD hS => ?_)
    refine lv_aload_n hx hb dX0_miss_78 rfl (lv_at hl 1 rfl) ?_
    refine xg_mp hC hK hP dX0_miss_79 ?_
    refine lv_aload_n hx hb dX0_miss_82 rfl (lv_at hl 1 rfl) ?_
    refine xg_k hC hK hP dX0_miss_83 ?_
    refine lv_iload_n hx hb dX0_miss_86 rfl (lv_at hl 2 rfl) ?_
    refine xs_mp hC hK hP hD hS k rfl (by omega) dX0_miss_87 (fun H locs hP hD hS => ?_)
    refine lv_aload_n hx hb dX0_miss_88 rfl (lv_at hl 1 rfl) ?_
    refine xg_mi hC hK hP dX0_miss_89 ?_
    refine lv_aload_n hx hb dX0_miss_92 rfl (lv_at hl 1 rfl) ?_
    refine xg_k hC hK hP dX0_miss_93 ?_
    refine lv_iload_n hx hb dX0_miss_96 rfl (lv_at hl 0 rfl) ?_
    refine xs_mi hC hK hP hD hS k rfl (by omega) dX0_miss_97 (fun H locs hP hD hS => ?_)
    refine lv_aload_n hx hb dX0_miss_98 rfl (lv_at hl 1 rfl) ?_
    refine lv_dup hx hb dX0_miss_99 rfl ?_
    refine xg_k hC hK hP dX0_miss_100 ?_
    refine lv_iconst (v := 1) hx hb dX0_miss_103 (by decide) ?_
    refine lv_iadd hx hb dX0_miss_104 ?_
    refine xp_k (k' := k + 1) hC hK hP hD hS (nI_1 _) dX0_miss_105 (fun H locs hP hD hS => ?_)
    refine lv_iload_n hx hb dX0_miss_108 rfl (lv_at hl 0 rfl) ?_
    have hW9 : (xW z a lv (upd lk i (imax 0 ((lk i) - ((60 - b) / 10)))) (if sp_uses (lv i) (fa i) (sp_mid du nv b ta w) = 0 then pu else upd pu i (pu i + sp_coins (lv i) (fa i) (lk i) fu (sp_mid du nv b ta w))) (if sp_uses (lv i) (fa i) (sp_mid du nv b ta w) = 0 then fa else upd fa i (fa i - 1)) he n (sp_fr du (sp_loss b) nv w) du (sp_tarr du nv b ta w) w (upd mp k (nI i)) (upd mi k (sp_mid du nv b ta w)) (k + 1) nt (if sp_uses (lv i) (fa i) (sp_mid du nv b ta w) = 0 then fu else fu - sp_coins (lv i) (fa i) (lk i) fu (sp_mid du nv b ta w)) (if sp_uses (lv i) (fa i) (sp_mid du nv b ta w) = 0 then re else re + sp_coins (lv i) (fa i) (lk i) fu (sp_mid du nv b ta w)) : va_W) = xW z a lv (upd lk i (imax 0 (lk i - (60 - b) / 10))) (if sp_uses (lv i) (fa i) (sp_mid du nv b ta w) = 0 then pu else upd pu i (pu i + sp_coins (lv i) (fa i) (lk i) fu (sp_mid du nv b ta w))) (if sp_uses (lv i) (fa i) (sp_mid du nv b ta w) = 0 then fa else upd fa i (fa i - 1)) he n (sp_fr du (sp_loss b) nv w) du (sp_tarr du nv b ta w) w (upd mp k (nI i)) (upd mi k (sp_mid du nv b ta w)) (k + 1) nt (if sp_uses (lv i) (fa i) (sp_mid du nv b ta w) = 0 then fu else fu - sp_coins (lv i) (fa i) (lk i) fu (sp_mid du nv b ta w)) (if sp_uses (lv i) (fa i) (sp_mid du nv b ta w) = 0 then re else re + sp_coins (lv i) (fa i) (lk i) fu (sp_mid du nv b ta w)) := rfl
    rw [hW9] at hP hD
    exact W.iret (v := sp_mid du nv b ta w) hx hb hr (fun t ht hW => ⟨⟨sp_mid du nv b ta w, (), rfl, rfl, by rw [ht]; exact hP, va_K.moved hW.alike hK, hD⟩, hS.F ht⟩) hS.2.2 dX0_miss_109
  · exact absurd (nI_lt (b := 60) hk (by decide)) c_21
set_option maxHeartbeats 4000000 in
set_option maxRecDepth 100000 in
theorem c_X0_hit (l : Launch) (sz : Nat) {D : va_G} {z : ClassId × ClassId} {a : Nat → Nat} {lv lk pu fa he : Nat → Int32} {n : Nat} {nv du ta : Nat → Int32} {w : Nat} {mp mi : Nat → Int32} {k : Nat} {nt fu re : Int32} (i : Nat) (hi : i < n) (hn : n ≤ 10) (ha : ¬ lv i = 0) : Met l yX0_hit (ws_ yX0_hit cX0_hit 3 (some .int)) ({ frames := 2, cells := 0, slots := 0, locals := 44 } : Room) (va_Pc [.ref (a 0), .int (nI i)] (fun U => U.heap.size = sz ∧ xI D z a lv lk pu fa he n nv du ta w mp mi k nt fu re U ∧ va_D (fun _ => True) (xW z a lv lk pu fa he n nv du ta w mp mi k nt fu re))) (va_Qi (fun (r : Int32) (_ : Unit) => r = sp_heir he (upd lv i 0) n i n (he i)) (fun _ t9 => va_P D vwCl (xW z a (upd lv i 0) (if sp_isP n (sp_heir he (upd lv i 0) n i n (he i)) = 0 then lk else upd lk (sp_heir he (upd lv i 0) n i n (he i)).toNatClampNeg (imin 99 (lk (sp_heir he (upd lv i 0) n i n (he i)).toNatClampNeg + lk i / 2))) (upd (if sp_isP n (sp_heir he (upd lv i 0) n i n (he i)) = 0 then pu else upd pu (sp_heir he (upd lv i 0) n i n (he i)).toNatClampNeg (pu (sp_heir he (upd lv i 0) n i n (he i)).toNatClampNeg + pu i)) i 0) (upd fa i 0) he n nv du ta w mp mi k nt (if sp_isP n (sp_heir he (upd lv i 0) n i n (he i)) = 0 then fu + pu i else fu) re) t9.heap ∧ kK D z t9 ∧ va_D (va_A (xW z a lv lk pu fa he n nv du ta w mp mi k nt fu re) sz) (xW z a (upd lv i 0) (if sp_isP n (sp_heir he (upd lv i 0) n i n (he i)) = 0 then lk else upd lk (sp_heir he (upd lv i 0) n i n (he i)).toNatClampNeg (imin 99 (lk (sp_heir he (upd lv i 0) n i n (he i)).toNatClampNeg + lk i / 2))) (upd (if sp_isP n (sp_heir he (upd lv i 0) n i n (he i)) = 0 then pu else upd pu (sp_heir he (upd lv i 0) n i n (he i)).toNatClampNeg (pu (sp_heir he (upd lv i 0) n i n (he i)).toNatClampNeg + pu i)) i 0) (upd fa i 0) he n nv du ta w mp mi k nt (if sp_isP n (sp_heir he (upd lv i 0) n i n (he i)) = 0 then fu + pu i else fu) re)) (va_A (xW z a lv lk pu fa he n nv du ta w mp mi k nt fu re) sz)) 0 0 (va_A (xW z a lv lk pu fa he n nv du ta w mp mi k nt fu re) sz) := by
  refine Met.ofW (cc := cX0_hit) (maxL := 3) (ret := (some .int)) (by decide) rfl ?_
  intro p e s m args below meth c s₁ B hml hv
  obtain ⟨rfl, hsz, ⟨hP, hK⟩, hD0⟩ := hv
  have hx := B.exec
  have hb := B.bytes
  have hr := B.returns
  have hts := atoms_spec (ws := ws_ yX0_hit cX0_hit 3 (some .int)) B.pre
  have hts : ∀ w ∈ lw_all, w.before _ s = true := fun w h => hts w (List.mem_cons_of_mem _ h)
  have hown : s.vm.findClass RX0 = some m.cls := findClass_of_methodNamed B.named
  have hlocks := B.notSynchronized
  have hC : CallFix p m c cX0_hit 3 s _ lw_all RX0 := ⟨hx, hb, hml, hown, hts⟩
  subst hsz
  have hD := hD0.self (sz := s.heap.size)
  generalize hAe : va_A (xW z a lv lk pu fa he n nv du ta w mp mi k nt fu re) s.heap.size = A at hD ⊢
  have hA : ∀ q : Nat, s.heap.size ≤ q → A q := fun q h => by rw [← hAe]; exact Or.inr h
  have hS : va_S A s.heap s.heap [] := va_S.rf
  have hl := lv_entry ([.ref (a 0), .int (nI i)]) (n := 3) (Nat.le_of_ble_eq_true rfl)
  rw [lg_entry_eq]
  generalize (lg_sl ([.ref (a 0), .int (nI i)]) ++ List.replicate (3 - (lg_sl ([.ref (a 0), .int (nI i)])).length) Slot.unset).toArray = ls at hl ⊢
  have hl : lv_has ls 3 [(0, .ref (a 0)), (1, .int (nI i))] := hl
  refine lv_aload_n hx hb dX0_hit_0 rfl (lv_at hl 0 rfl) ?_
  refine lv_iload_n hx hb dX0_hit_1 rfl (lv_at hl 1 rfl) ?_
  refine k_X0_requirePerson hC hK hP hl.1 ⟨Nat.le_of_ble_eq_true rfl, Nat.le_of_ble_eq_true rfl⟩ ⟨Nat.zero_le _, Nat.zero_le _⟩ (Nat.le_of_ble_eq_true rfl) rfl (by first | assumption | omega) (by first | assumption | omega) dX0_hit_2 ?_
  refine lv_aload_n hx hb dX0_hit_5 rfl (lv_at hl 0 rfl) ?_
  refine lv_iload_n hx hb dX0_hit_6 rfl (lv_at hl 1 rfl) ?_
  refine k_X0_requireAlive hC hK hP hl.1 ⟨Nat.le_of_ble_eq_true rfl, Nat.le_of_ble_eq_true rfl⟩ ⟨Nat.zero_le _, Nat.zero_le _⟩ (Nat.le_of_ble_eq_true rfl) rfl (by first | assumption | omega) (by first | assumption | omega) dX0_hit_7 ?_
  refine lv_aload_n hx hb dX0_hit_10 rfl (lv_at hl 0 rfl) ?_
  refine xg_lv hC hK hP dX0_hit_11 ?_
  refine lv_iload_n hx hb dX0_hit_14 rfl (lv_at hl 1 rfl) ?_
  refine lv_iconst (v := 0) hx hb dX0_hit_15 (by decide) ?_
  refine xs_lv hC hK hP hD hS i rfl (by omega) (by decide) dX0_hit_16 (fun H locs hP hD hS => ?_)
  refine lv_aload_n hx hb dX0_hit_17 rfl (lv_at hl 0 rfl) ?_
  refine lv_iload_n hx hb dX0_hit_18 rfl (lv_at hl 1 rfl) ?_
  refine k_X0_findLastHeir hC hK hP hl.1 ⟨Nat.le_of_ble_eq_true rfl, Nat.le_of_ble_eq_true rfl⟩ ⟨Nat.zero_le _, Nat.zero_le _⟩ (Nat.le_of_ble_eq_true rfl) rfl (by first | assumption | omega) (by first | assumption | omega) dX0_hit_19 ?_
  refine lv_istore_n (lv' := [(2, .int (sp_heir he (upd lv i 0) n i n (he i))), (0, .ref (a 0)), (1, .int (nI i))]) hx hb dX0_hit_22 rfl hl (by decide) rfl (fun ls hl => ?_)
  refine lv_aload_n hx hb dX0_hit_23 rfl (lv_at hl 1 rfl) ?_
  refine lv_iload_n hx hb dX0_hit_24 rfl (lv_at hl 0 rfl) ?_
  refine k_X0_isPerson hC hK hP hl.1 ⟨Nat.le_of_ble_eq_true rfl, Nat.le_of_ble_eq_true rfl⟩ ⟨Nat.zero_le _, Nat.zero_le _⟩ (Nat.le_of_ble_eq_true rfl)   dX0_hit_25 ?_
  refine lv_if_eq (tgt := 75) hx hb dX0_hit_28 (by decide) (fun c_28 => ?_) (fun c_28 => ?_)
  · refine lv_aload_n hx hb dX0_hit_75 rfl (lv_at hl 1 rfl) ?_
    refine lv_dup hx hb dX0_hit_76 rfl ?_
    refine xg_fu hC hK hP dX0_hit_77 ?_
    refine lv_aload_n hx hb dX0_hit_80 rfl (lv_at hl 1 rfl) ?_
    refine xg_pu hC hK hP dX0_hit_81 ?_
    refine lv_iload_n hx hb dX0_hit_84 rfl (lv_at hl 2 rfl) ?_
    refine xl_pu hC hK hP i rfl (by omega) dX0_hit_85 ?_
    refine lv_iadd hx hb dX0_hit_86 ?_
    refine xp_fu hC hK hP hD hS dX0_hit_87 (fun H locs hP hD hS => ?_)
    refine lv_aload_n hx hb dX0_hit_90 rfl (lv_at hl 1 rfl) ?_
    refine xg_pu hC hK hP dX0_hit_91 ?_
    refine lv_iload_n hx hb dX0_hit_94 rfl (lv_at hl 2 rfl) ?_
    refine lv_iconst (v := 0) hx hb dX0_hit_95 (by decide) ?_
    refine xs_pu hC hK hP hD hS i rfl (by omega) dX0_hit_96 (fun H locs hP hD hS => ?_)
    refine lv_aload_n hx hb dX0_hit_97 rfl (lv_at hl 1 rfl) ?_
    refine xg_fa hC hK hP dX0_hit_98 ?_
    refine lv_iload_n hx hb dX0_hit_101 rfl (lv_at hl 2 rfl) ?_
    refine lv_iconst (v := 0) hx hb dX0_hit_102 (by decide) ?_
    refine xs_fa hC hK hP hD hS i rfl (by omega) dX0_hit_103 (fun H locs hP hD hS => ?_)
    refine lv_iload_n hx hb dX0_hit_104 rfl (lv_at hl 0 rfl) ?_
    have hW9 : (xW z a (upd lv i 0) lk (upd pu i 0) (upd fa i 0) he n nv du ta w mp mi k nt (fu + (pu i)) re : va_W) = xW z a (upd lv i 0) (if sp_isP n (sp_heir he (upd lv i 0) n i n (he i)) = 0 then lk else upd lk (sp_heir he (upd lv i 0) n i n (he i)).toNatClampNeg (imin 99 (lk (sp_heir he (upd lv i 0) n i n (he i)).toNatClampNeg + lk i / 2))) (upd (if sp_isP n (sp_heir he (upd lv i 0) n i n (he i)) = 0 then pu else upd pu (sp_heir he (upd lv i 0) n i n (he i)).toNatClampNeg (pu (sp_heir he (upd lv i 0) n i n (he i)).toNatClampNeg + pu i)) i 0) (upd fa i 0) he n nv du ta w mp mi k nt (if sp_isP n (sp_heir he (upd lv i 0) n i n (he i)) = 0 then fu + pu i else fu) re := (by simp [c_28])
    rw [hW9] at hP hD
    exact W.iret (v := sp_heir he (upd lv i 0) n i n (he i)) hx hb hr (fun t ht hW => ⟨⟨sp_heir he (upd lv i 0) n i n (he i), (), rfl, rfl, by rw [ht]; exact hP, va_K.moved hW.alike hK, hD⟩, hS.F ht⟩) hS.2.2 dX0_hit_105
  · obtain ⟨y, hyn, hy⟩ := isP_ex (by omega) c_28
    have eNy : (sp_heir he (upd lv i 0) n i n (he i)).toNatClampNeg = y := by rw [hy]; exact nI_clamp (by omega)
    refine lv_aload_n hx hb dX0_hit_31 rfl (lv_at hl 1 rfl) ?_
    refine xg_lk hC hK hP dX0_hit_32 ?_
    refine lv_iload_n hx hb dX0_hit_35 rfl (lv_at hl 0 rfl) ?_
    refine lv_bipush (v := 99) hx hb dX0_hit_36 (by decide) ?_
    refine lv_aload_n hx hb dX0_hit_38 rfl (lv_at hl 1 rfl) ?_
    refine xg_lk hC hK hP dX0_hit_39 ?_
    refine lv_iload_n hx hb dX0_hit_42 rfl (lv_at hl 0 rfl) ?_
    refine xl_lk hC hK hP y hy (by omega) dX0_hit_43 ?_
    refine lv_aload_n hx hb dX0_hit_44 rfl (lv_at hl 1 rfl) ?_
    refine xg_lk hC hK hP dX0_hit_45 ?_
    refine lv_iload_n hx hb dX0_hit_48 rfl (lv_at hl 2 rfl) ?_
    refine xl_lk hC hK hP i rfl (by omega) dX0_hit_49 ?_
    refine lv_iconst (v := 2) hx hb dX0_hit_50 (by decide) ?_
    refine lv_idiv hx hb dX0_hit_51 (by decide) ?_
    refine lv_iadd hx hb dX0_hit_52 ?_
    refine va_mmin hx hb (hml.trans hl.1.symm) hown (hts _ mM_X0_121) (hts _ mT_min) (hts _ mI_Math) (hts _ mC_min) (Nat.le_of_ble_eq_true rfl) (Nat.le_of_ble_eq_true rfl) (Nat.zero_le _) (Nat.zero_le _) dX0_hit_53 ?_
    refine xs_lk hC hK hP hD hS y hy (by omega) dX0_hit_56 (fun H locs hP hD hS => ?_)
    refine lv_aload_n hx hb dX0_hit_57 rfl (lv_at hl 1 rfl) ?_
    refine xg_pu hC hK hP dX0_hit_58 ?_
    refine lv_iload_n hx hb dX0_hit_61 rfl (lv_at hl 0 rfl) ?_
    refine lv_dup2_11 hx hb dX0_hit_62 rfl rfl ?_
    refine xl_pu hC hK hP y hy (by omega) dX0_hit_63 ?_
    refine lv_aload_n hx hb dX0_hit_64 rfl (lv_at hl 1 rfl) ?_
    refine xg_pu hC hK hP dX0_hit_65 ?_
    refine lv_iload_n hx hb dX0_hit_68 rfl (lv_at hl 2 rfl) ?_
    refine xl_pu hC hK hP i rfl (by omega) dX0_hit_69 ?_
    refine lv_iadd hx hb dX0_hit_70 ?_
    refine xs_pu hC hK hP hD hS y hy (by omega) dX0_hit_71 (fun H locs hP hD hS => ?_)
    refine lv_goto (tgt := 90) hx hb dX0_hit_72 (by decide) ?_
    refine lv_aload_n hx hb dX0_hit_90 rfl (lv_at hl 1 rfl) ?_
    refine xg_pu hC hK hP dX0_hit_91 ?_
    refine lv_iload_n hx hb dX0_hit_94 rfl (lv_at hl 2 rfl) ?_
    refine lv_iconst (v := 0) hx hb dX0_hit_95 (by decide) ?_
    refine xs_pu hC hK hP hD hS i rfl (by omega) dX0_hit_96 (fun H locs hP hD hS => ?_)
    refine lv_aload_n hx hb dX0_hit_97 rfl (lv_at hl 1 rfl) ?_
    refine xg_fa hC hK hP dX0_hit_98 ?_
    refine lv_iload_n hx hb dX0_hit_101 rfl (lv_at hl 2 rfl) ?_
    refine lv_iconst (v := 0) hx hb dX0_hit_102 (by decide) ?_
    refine xs_fa hC hK hP hD hS i rfl (by omega) dX0_hit_103 (fun H locs hP hD hS => ?_)
    refine lv_iload_n hx hb dX0_hit_104 rfl (lv_at hl 0 rfl) ?_
    have hW9 : (xW z a (upd lv i 0) (upd lk y (imin 99 ((lk y) + ((lk i) / 2)))) (upd (upd pu y ((pu y) + (pu i))) i 0) (upd fa i 0) he n nv du ta w mp mi k nt fu re : va_W) = xW z a (upd lv i 0) (if sp_isP n (sp_heir he (upd lv i 0) n i n (he i)) = 0 then lk else upd lk (sp_heir he (upd lv i 0) n i n (he i)).toNatClampNeg (imin 99 (lk (sp_heir he (upd lv i 0) n i n (he i)).toNatClampNeg + lk i / 2))) (upd (if sp_isP n (sp_heir he (upd lv i 0) n i n (he i)) = 0 then pu else upd pu (sp_heir he (upd lv i 0) n i n (he i)).toNatClampNeg (pu (sp_heir he (upd lv i 0) n i n (he i)).toNatClampNeg + pu i)) i 0) (upd fa i 0) he n nv du ta w mp mi k nt (if sp_isP n (sp_heir he (upd lv i 0) n i n (he i)) = 0 then fu + pu i else fu) re := (by simp [c_28, eNy])
    rw [hW9] at hP hD
    exact W.iret (v := sp_heir he (upd lv i 0) n i n (he i)) hx hb hr (fun t ht hW => ⟨⟨sp_heir he (upd lv i 0) n i n (he i), (), rfl, rfl, by rw [ht]; exact hP, va_K.moved hW.alike hK, hD⟩, hS.F ht⟩) hS.2.2 dX0_hit_105

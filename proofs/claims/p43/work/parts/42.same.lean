theorem many_step {mp g : Nat → Int32} {n j y : Nat} (hn : n ≤ 10) (hy : y < n) (ey : mp j = nI y) (h : ∀ t, t < n → g t = sp_many mp (nI t) j) : ∀ t, t < n → upd g y (g y + 1) t = sp_many mp (nI t) (j + 1) := by
  intro t ht
  simp only [sp_many]
  rw [ey]
  by_cases q : t = y
  · rw [q, pk_us, if_pos rfl, h y hy]
  · rw [pk_un q, if_neg (fun e => q (nn_eq (by omega) e).symm), h t ht]
theorem close_0 {mp mi g : Nat → Int32} {n j : Nat} (c : mi j ≤ 0) (h : ∀ t, t < n → g t = sp_close mp mi (nI t) j) : ∀ t, t < n → g t = sp_close mp mi (nI t) (j + 1) := by
  intro t ht
  simp only [sp_close]
  rw [if_pos c, h t ht]
  split <;> rfl
theorem close_k {mp mi g : Nat → Int32} {n j y : Nat} (hn : n ≤ 10) (hy : y < n) (ey : mp j = nI y) (c : ¬ mi j ≤ 0) (c1 : ¬ g y = 0) (c2 : g y ≤ mi j) (h : ∀ t, t < n → g t = sp_close mp mi (nI t) j) : ∀ t, t < n → g t = sp_close mp mi (nI t) (j + 1) := by
  intro t ht
  simp only [sp_close]
  rw [ey]
  by_cases q : t = y
  · rw [q, if_pos rfl, if_neg c, ← h y hy, if_neg c1, if_pos c2]
  · rw [if_neg (fun e => q (nn_eq (by omega) e).symm), h t ht]
theorem close_s {mp mi g : Nat → Int32} {n j y : Nat} (hn : n ≤ 10) (hy : y < n) (ey : mp j = nI y) (c : ¬ mi j ≤ 0) (c1 : g y = 0 ∨ ¬ g y ≤ mi j) (h : ∀ t, t < n → g t = sp_close mp mi (nI t) j) : ∀ t, t < n → upd g y (mi j) t = sp_close mp mi (nI t) (j + 1) := by
  intro t ht
  simp only [sp_close]
  rw [ey]
  by_cases q : t = y
  · rw [q, pk_us, if_pos rfl, if_neg c, ← h y hy]
    rcases c1 with c1 | c1
    · rw [if_pos c1]
    · rw [if_neg c1]; split <;> rfl
  · rw [pk_un q, if_neg (fun e => q (nn_eq (by omega) e).symm), h t ht]
theorem cert_0 {mi : Nat → Int32} {j : Nat} {x : Int32} (c : mi j ≤ 0) (e : x = sp_cert mi j) : x + 0 = sp_cert mi (j + 1) := by
  simp only [sp_cert]
  rw [if_pos c, ← e]
  exact Int32.add_zero _
theorem cert_1 {mi : Nat → Int32} {j : Nat} {x : Int32} (c : ¬ mi j ≤ 0) (e : x = sp_cert mi j) : x + 1 = sp_cert mi (j + 1) := by
  simp only [sp_cert]
  rw [if_neg c, ← e]
theorem cnt_step {lv : Nat → Int32} {j : Nat} {x : Int32} (h : lv j = 0 ∨ lv j = 1) (e : x = sp_cnt lv j) : x + lv j = sp_cnt lv (j + 1) := by
  simp only [sp_cnt]
  rcases h with h | h <;> rw [h, ← e]
  · rw [if_pos rfl]; exact Int32.add_zero _
  · rw [if_neg one_ne]
theorem sum_step {lv lk : Nat → Int32} {j : Nat} {x : Int32} (h : lv j = 0 ∨ lv j = 1) (e : x = sp_sum lv lk j) : x + lv j * lk j = sp_sum lv lk (j + 1) := by
  simp only [sp_sum]
  rcases h with h | h <;> rw [h, ← e]
  · rw [if_pos rfl, Int32.zero_mul]; exact Int32.add_zero _
  · rw [if_neg one_ne, Int32.one_mul]
/-- the best one: none, or the first of the greatest -/
theorem best_is {al v : Nat → Int32} {b N : Nat} (hv : bN b v N) (hb : b < 2 ^ 31) : ∀ j, j ≤ N → (sp_best al v j = (-1, -1) ∧ ∀ i, i < j → al i = 0) ∨ ∃ y, y < j ∧ ¬ al y = 0 ∧ sp_best al v j = (nI y, v y) ∧ ∀ i, i < j → ¬ al i = 0 → v i ≤ v y
  | 0, _ => Or.inl ⟨rfl, fun i h => absurd h (Nat.not_lt_zero i)⟩
  | j + 1, hj => by
    obtain ⟨yj, hyj, ej⟩ := hv j (by omega)
    simp only [sp_best]
    rcases best_is hv hb j (by omega) with ⟨h1, h2⟩ | ⟨y, hy, h2, h3, h4⟩
    · by_cases c : al j = 0
      · rw [if_pos c]
        refine Or.inl ⟨h1, fun i hi => ?_⟩
        by_cases q : i = j
        · rw [q]; exact c
        · exact h2 i (by omega)
      · rw [if_neg c, h1]
        have hn : ¬ v j ≤ (-1, -1).2 := by
          show ¬ v j ≤ (-1 : Int32)
          rw [ej, Int32.le_iff_toInt_le, nI_toInt (by omega), t_m1]
          omega
        rw [if_neg hn]
        refine Or.inr ⟨j, by omega, c, rfl, fun i hi ha => ?_⟩
        by_cases q : i = j
        · rw [q, ej]; exact (nI_leI (by omega) (by omega)).mpr (Nat.le_refl _)
        · exact absurd (h2 i (by omega)) ha
    · by_cases c : al j = 0
      · rw [if_pos c]
        refine Or.inr ⟨y, by omega, h2, h3, fun i hi ha => ?_⟩
        by_cases q : i = j
        · rw [q] at ha; exact absurd c ha
        · exact h4 i (by omega) ha
      · rw [if_neg c, h3]
        by_cases q2 : v j ≤ v y
        · rw [if_pos (show v j ≤ (nI y, v y).2 from q2)]
          refine Or.inr ⟨y, by omega, h2, rfl, fun i hi ha => ?_⟩
          by_cases q : i = j
          · rw [q]; exact q2
          · exact h4 i (by omega) ha
        · rw [if_neg (show ¬ v j ≤ (nI y, v y).2 from q2)]
          refine Or.inr ⟨j, by omega, c, rfl, fun i hi ha => ?_⟩
          obtain ⟨yy, hyy, ey⟩ := hv y (by omega)
          by_cases q : i = j
          · rw [q, ej]; exact (nI_leI (by omega) (by omega)).mpr (Nat.le_refl _)
          · have h5 := h4 i (by omega) ha
            obtain ⟨yi, hyi, ei⟩ := hv i (by omega)
            rw [ej, ey] at q2
            rw [ei, ey] at h5
            rw [ei, ej]
            have q3 := nn_nle (by omega) q2
            have h6 := nn_le (by omega) h5
            exact (nI_leI (by omega) (by omega)).mpr (by omega)
theorem best_skip {al v : Nat → Int32} {j : Nat} {x : Int32} (h : al j = 0 ∨ al j = 1) (c : ¬ al j = 1) (e : x = (sp_best al v j).1) : x = (sp_best al v (j + 1)).1 := by
  simp only [sp_best]
  rw [if_pos (h.resolve_right c), e]
theorem best_none {al v : Nat → Int32} {b N j : Nat} {x : Int32} (hv : bN b v N) (hb : b < 2 ^ 31) (hN : N ≤ 100) (hj : j < N) (c : al j = 1) (h : x < 0) (e : x = (sp_best al v j).1) : nI j = (sp_best al v (j + 1)).1 := by
  rcases best_is (al := al) hv hb j (by omega) with ⟨h1, h2⟩ | ⟨y, hy, h2, h3, h4⟩
  · simp only [sp_best]
    rw [if_neg (by rw [c]; decide), h1]
    obtain ⟨yj, hyj, ej⟩ := hv j hj
    have hn : ¬ v j ≤ (-1, -1).2 := by
      show ¬ v j ≤ (-1 : Int32)
      rw [ej, Int32.le_iff_toInt_le, nI_toInt (by omega), t_m1]
      omega
    rw [if_neg hn]
  · rw [e, h3] at h
    exfalso
    have h : nI y < 0 := h
    rcases Nat.lt_or_ge y (2 ^ 31) with q | q
    · exact nI_pos q h
    · omega
theorem best_some {al v : Nat → Int32} {b N j : Nat} {x : Int32} (hv : bN b v N) (hb : b < 2 ^ 31) (hj : j < N) (h : ¬ x < 0) (e : x = (sp_best al v j).1) : ∃ y, y < j ∧ x = nI y ∧ (sp_best al v j).2 = v y := by
  rcases best_is (al := al) hv hb j (by omega) with ⟨h1, h2⟩ | ⟨y, hy, h2, h3, h4⟩
  · rw [e, h1] at h
    exact absurd (by decide) h
  · exact ⟨y, hy, by rw [e, h3], by rw [h3]⟩
theorem best_keep {al v : Nat → Int32} {j y : Nat} {x : Int32} (c : al j = 1) (h2 : (sp_best al v j).2 = v y) (c2 : v j ≤ v y) (e : x = (sp_best al v j).1) : x = (sp_best al v (j + 1)).1 := by
  simp only [sp_best]
  rw [if_neg (by rw [c]; decide), h2, if_pos c2, e]
theorem best_new {al v : Nat → Int32} {j y : Nat} (c : al j = 1) (h2 : (sp_best al v j).2 = v y) (c2 : ¬ v j ≤ v y) : nI j = (sp_best al v (j + 1)).1 := by
  simp only [sp_best]
  rw [if_neg (by rw [c]; decide), h2, if_neg c2]
theorem w_dcmp {p : Program} {l : Launch} {e : Env} {R : Room} {s : State} {m : MethodId} {args : Array Value} {below : List Frame} {meth : Method} {c : Code} {H : Heap} {locs : List Loc} {cells slots : Nat} {Q : State → Prop} {cc : ByteArray} {pc : Nat} {ls : Array Slot} {rest : List Value} (hx : p.tables.exec = Jvm.exec) (hb : c.code = cc) {x y : UInt64} (hdg : decode cc pc = .ok (.dcmp .l, 1)) (h : FP.dcmp x y = some .eq) (kk : W p l e R s m args below meth c H locs cells slots Q (F0 m (pc + 1) ls (.int 0 :: rest))) : W p l e R s m args below meth c H locs cells slots Q (F0 m pc ls (.double y :: .double x :: rest)) := by
  refine lv_dcmp hx hb hdg ?_
  rw [h]
  exact kk

set_option maxRecDepth 100000 in
theorem k_X1_seal {p : Program} {l : Launch} {e : Env} {R : Room} {s : State} {m : MethodId} {args : Array Value} {below : List Frame} {meth : Method} {c : Code} {H : Heap} {locs : List Loc} {cells slots : Nat} {Q : State → Prop} {cc : ByteArray} {nL pc : Nat} {ls : Array Slot} {rest : List Value} {D : va_G} {z : ClassId × ClassId} {cG : ClassId} {A : Nat → Prop} {H0 : Heap} {own : String} {idx : Nat} {q9 t9 : Nat → Nat} {t8 : Nat × Nat} {Wd : va_W} {q0 a9 : Nat} {g9 : Nat → Int32} (hC : CallFix p m c cc nL s args lw_all own) (hlk : Cond.methodLink own idx yX1_seal ∈ lw_all) (hK : kK D z s) (hG : kG cG s) (hP : va_P D vwCl Wd H) (hD : va_D A Wd) (hS : va_S A H0 H locs) (hA : ∀ q : Nat, H0.size ≤ q → A q) (hE : cH q9 t9 A s H) (hJ : dH t8 A s H) (hl : ls.size = nL) (hR : 7 ≤ R.frames ∧ 158 ≤ R.locals) (hz : cells + 14 ≤ R.cells ∧ slots + 320 ≤ R.slots) (hr : (rest.map fun v => v.category).sum ≤ 8) (ha : Wd[q0]? = some (a9, .inl (z.1, 2, .inl g9))) {x y : Nat} (hx9 : x < 100) (hy9 : y < 100) (ex : g9 0 = nI x) (ey : g9 1 = nI y) (hdg : decode cc pc = .ok (.invokestatic idx, 3)) (kk : ∀ (H1 : Heap) (locs1 : List Loc), va_P D vwCl Wd H1 → va_D A Wd → va_S A H0 H1 locs1 → W p l e R s m args below meth c H1 locs1 (cells + 14) (slots + 320) Q (F0 m (pc + 3) ls (.int (sp_seal (nI x) (nI y)) :: rest))) : W p l e R s m args below meth c H locs cells slots Q (F0 m pc ls (.ref a9 :: rest)) := by
  have hF := wj_F hD hS hA
  refine va_calli (va_runS (As := [.ref a9]) (rest := rest) hC (c_X1_seal l H.size ha x y hx9 hy9 ex ey) (va_cwS 1 hC.2.2.2.2 (gi_S hlk mT_X1_seal mI_Sim mC_X1_seal) rfl rfl rfl (by decide +kernel) hR) ⟨fun a1 U g mk q => ⟨q.1, q.2.1, qI.call q.2.2.1, q.2.2.2.1, cH.same (u := U) (U := U.calling g mk a1) rfl q.2.2.2.2.1, dH.moved (u := U) (U := U.calling g mk a1) (Vm.Alike.refl U.vm) q.2.2.2.2.2⟩, fun U hU hW => ⟨rfl, by rw [hU], qI.into hK hG hP hU hW, hD.weaken (fun _ _ _ _ => trivial), by rw [hU]; exact (hE.narrow hF).warm hW, by rw [hU]; exact (hJ.narrow hF).moved hW.alike⟩⟩ rfl rfl hl rfl (lv_room hr) hdg hz) hS (fun q _ h => hF q h) hF (fun r u t H1 locs1 ht hvm hw hB hz1 hk1 hS1 => ?_)
  obtain ⟨hP1, hD1⟩ := hB
  rw [ht] at hP1
  have hw : r = sp_seal (nI x) (nI y) := hw
  rw [hw]
  exact kk H1 locs1 hP1 (hD1.weaken (fun _ q9 _ h => hF q9.1 h)) hS1
set_option maxHeartbeats 8000000 in
set_option maxRecDepth 100000 in
theorem c_X1_isSame (l : Launch) (sz : Nat) {D : va_G} {z : ClassId × ClassId} {cG : ClassId} {a : Nat → Nat} {F : va_W} {b : Nat → Nat} {rp : Nat → Nat} {rw : Nat → Nat} {rm : Nat → Nat} {lv : Nat → Int32} {lk : Nat → Int32} {pu : Nat → Int32} {fa : Nat → Int32} {he : Nat → Int32} {n : Nat} {nv : Nat → Int32} {du : Nat → Int32} {w : Nat} {mp : Nat → Int32} {mi : Nat → Int32} {k : Nat} {nt : Int32} {fu : Int32} {re : Int32} {ta : Nat → Int32} {q9 t9 : Nat → Nat} {t8 : Nat × Nat} (hIV : IV lv lk pu fa he n nv du w mp mi k fu re) : Met l yX1_isSame (ws_ yX1_isSame cX1_isSame 12 (some .boolean)) ({ frames := 7, cells := 900, slots := 19400, locals := 158 } : Room) (va_Pc [.ref (b 0), .ref (a 0)] (fun U => U.heap.size = sz ∧ qI D z cG (F ++ (qW z cG b rp rw rm lv lk pu fa he n nv du w mp mi k nt fu re ++ xW z a lv lk pu fa he n nv du ta w mp mi k nt fu re)) U ∧ va_D (fun _ => True) (F ++ (qW z cG b rp rw rm lv lk pu fa he n nv du w mp mi k nt fu re ++ xW z a lv lk pu fa he n nv du ta w mp mi k nt fu re)) ∧ cH q9 t9 (va_A (F ++ (qW z cG b rp rw rm lv lk pu fa he n nv du w mp mi k nt fu re ++ xW z a lv lk pu fa he n nv du ta w mp mi k nt fu re)) sz) U U.heap ∧ dH t8 (va_A (F ++ (qW z cG b rp rw rm lv lk pu fa he n nv du w mp mi k nt fu re ++ xW z a lv lk pu fa he n nv du ta w mp mi k nt fu re)) sz) U U.heap)) (va_Qi (fun (r : Int32) (u : Unit) => r = 1) (fun u t9 => True) (va_A (F ++ (qW z cG b rp rw rm lv lk pu fa he n nv du w mp mi k nt fu re ++ xW z a lv lk pu fa he n nv du ta w mp mi k nt fu re)) sz)) 900 19400 (va_A (F ++ (qW z cG b rp rw rm lv lk pu fa he n nv du w mp mi k nt fu re ++ xW z a lv lk pu fa he n nv du ta w mp mi k nt fu re)) sz) := by
  refine Met.ofW (cc := cX1_isSame) (maxL := 12) (ret := (some .boolean)) (by decide) rfl ?_
  intro p e s m args below meth c s₁ B hml hv
  obtain ⟨rfl, hsz, ⟨hP, hK, hG⟩, hD0, hE, hJ⟩ := hv
  have hx := B.exec
  have hb := B.bytes
  have hr := B.returns
  have hts := atoms_spec (ws := ws_ yX1_isSame cX1_isSame 12 (some .boolean)) B.pre
  have hts : ∀ w ∈ lw_all, w.before _ s = true := fun w h => hts w (List.mem_cons_of_mem _ h)
  have hown : s.vm.findClass RX1 = some m.cls := findClass_of_methodNamed B.named
  have hlocks := B.notSynchronized
  have hC : CallFix p m c cX1_isSame 12 s _ lw_all RX1 := ⟨hx, hb, hml, hown, hts⟩
  subst hsz
  have hD := hD0.self (sz := s.heap.size)
  generalize hAe : va_A (F ++ (qW z cG b rp rw rm lv lk pu fa he n nv du w mp mi k nt fu re ++ xW z a lv lk pu fa he n nv du ta w mp mi k nt fu re)) s.heap.size = A at hD hE hJ ⊢
  have hA : ∀ q : Nat, s.heap.size ≤ q → A q := fun q h => by rw [← hAe]; exact Or.inr h
  have hS : va_S A s.heap s.heap [] := va_S.rf
  have hl := lv_entry ([.ref (b 0), .ref (a 0)]) (n := 12) (Nat.le_of_ble_eq_true rfl)
  rw [lg_entry_eq]
  generalize (lg_sl ([.ref (b 0), .ref (a 0)]) ++ List.replicate (12 - (lg_sl ([.ref (b 0), .ref (a 0)])).length) Slot.unset).toArray = ls at hl ⊢
  have hl : lv_has ls 12 [(0, .ref (b 0)), (1, .ref (a 0))] := hl
  obtain ⟨H, hH9⟩ : ∃ H : Heap, H = s.heap := ⟨_, rfl⟩
  rw [← hH9] at hP
  have hS : va_S A s.heap H [] := by rw [hH9]; exact va_S.rf
  rw [← hH9]
  obtain ⟨locs, hlo9⟩ : ∃ locs : List Loc, locs = [] := ⟨_, rfl⟩
  rw [← hlo9] at hS ⊢
  obtain ⟨⟨hn, hw, hk6⟩, h01, hlk, hfa, hpu, hH, hdead, hnv, hdu, hmp, hmi, hfund, hre⟩ := id hIV
  refine lv_aload_n hx hb dX1_isSame_0 rfl (lv_at hl 0 rfl) ?_
  refine qg_ps hC hK hP mF_X1_9 dX1_isSame_1 ?_
  refine qlen_p hC hK hP hG dX1_isSame_4 ?_
  refine lv_istore_n (lv' := [(2, .int (nI n)), (0, .ref (b 0)), (1, .ref (a 0))]) hx hb dX1_isSame_5 rfl hl (by decide) rfl (fun ls hl => ?_)
  refine lv_iconst (v := 0) hx hb dX1_isSame_6 (by decide) ?_
  refine lv_istore_n (lv' := [(3, .int 0), (2, .int (nI n)), (0, .ref (b 0)), (1, .ref (a 0))]) hx hb dX1_isSame_7 rfl hl (by decide) rfl (fun ls hl => ?_)
  refine lv_iconst (v := 0) hx hb dX1_isSame_8 (by decide) ?_
  refine lv_istore (lv' := [(4, .int 0), (3, .int 0), (2, .int (nI n)), (0, .ref (b 0)), (1, .ref (a 0))]) hx hb dX1_isSame_9 hl (by decide) rfl (fun ls hl => ?_)
  refine lv_iconst (v := (-1)) hx hb dX1_isSame_11 (by decide) ?_
  refine lv_istore (lv' := [(5, .int (-1)), (4, .int 0), (3, .int 0), (2, .int (nI n)), (0, .ref (b 0)), (1, .ref (a 0))]) hx hb dX1_isSame_12 hl (by decide) rfl (fun ls hl => ?_)
  refine lv_aload_n hx hb dX1_isSame_14 rfl (lv_at hl 5 rfl) ?_
  refine kx_X0_night hC mM_X1_102 hK hP hl.1 ⟨Nat.le_of_ble_eq_true rfl, Nat.le_of_ble_eq_true rfl⟩ ⟨(Nat.zero_le _), (Nat.zero_le _)⟩ (Nat.le_of_ble_eq_true rfl)   dX1_isSame_15 ?_
  refine lv_aload_n hx hb dX1_isSame_18 rfl (lv_at hl 4 rfl) ?_
  refine qg_nt hC hK hP mF_X1_59 dX1_isSame_19 ?_
  refine lv_icmp_ne (tgt := 90) hx hb dX1_isSame_22 (by decide) (fun c_22 => ?_) (fun c_22 => ?_)
  · exact absurd rfl c_22
  · refine lv_aload_n hx hb dX1_isSame_25 rfl (lv_at hl 5 rfl) ?_
    refine kx_X0_persons hC mM_X1_106 hK hP hl.1 ⟨Nat.le_of_ble_eq_true rfl, Nat.le_of_ble_eq_true rfl⟩ ⟨(Nat.zero_le _), (Nat.zero_le _)⟩ (Nat.le_of_ble_eq_true rfl)   dX1_isSame_26 ?_
    refine lv_iload_n hx hb dX1_isSame_29 rfl (lv_at hl 3 rfl) ?_
    refine lv_icmp_ne (tgt := 90) hx hb dX1_isSame_30 (by decide) (fun c_30 => ?_) (fun c_30 => ?_)
    · exact absurd rfl c_30
    · have nc_30 : n = n := nn_eq (by omega) c_30
      refine lv_aload_n hx hb dX1_isSame_33 rfl (lv_at hl 5 rfl) ?_
      refine kx_X0_witnesses hC mM_X1_108 hK hP hl.1 ⟨Nat.le_of_ble_eq_true rfl, Nat.le_of_ble_eq_true rfl⟩ ⟨(Nat.zero_le _), (Nat.zero_le _)⟩ (Nat.le_of_ble_eq_true rfl)   dX1_isSame_34 ?_
      refine lv_aload_n hx hb dX1_isSame_37 rfl (lv_at hl 4 rfl) ?_
      refine qg_ws hC hK hP mF_X1_15 dX1_isSame_38 ?_
      refine qlen_w hC hK hP hG dX1_isSame_41 ?_
      refine lv_icmp_ne (tgt := 90) hx hb dX1_isSame_42 (by decide) (fun c_42 => ?_) (fun c_42 => ?_)
      · exact absurd rfl c_42
      · have nc_42 : w = w := nn_eq (by omega) c_42
        refine lv_aload_n hx hb dX1_isSame_45 rfl (lv_at hl 5 rfl) ?_
        refine kx_X0_shaken hC mM_X1_110 hK hP hl.1 ⟨Nat.le_of_ble_eq_true rfl, Nat.le_of_ble_eq_true rfl⟩ ⟨(Nat.zero_le _), (Nat.zero_le _)⟩ (Nat.le_of_ble_eq_true rfl)  (by first | assumption | omega) dX1_isSame_46 ?_
        refine lv_aload_n hx hb dX1_isSame_49 rfl (lv_at hl 4 rfl) ?_
        refine k_X1_shaken hC mM_X1_62 hK hG hP (by first | assumption | omega) hl.1 ⟨Nat.le_of_ble_eq_true rfl, Nat.le_of_ble_eq_true rfl⟩ ⟨Nat.zero_le _, Nat.zero_le _⟩ (Nat.le_of_ble_eq_true rfl) dX1_isSame_50 ?_
        refine lv_icmp_ne (tgt := 90) hx hb dX1_isSame_53 (by decide) (fun c_53 => ?_) (fun c_53 => ?_)
        · exact absurd rfl c_53
        · refine lv_aload_n hx hb dX1_isSame_56 rfl (lv_at hl 5 rfl) ?_
          refine kx_X0_fund hC mM_X1_111 hK hP hl.1 ⟨Nat.le_of_ble_eq_true rfl, Nat.le_of_ble_eq_true rfl⟩ ⟨(Nat.zero_le _), (Nat.zero_le _)⟩ (Nat.le_of_ble_eq_true rfl)   dX1_isSame_57 ?_
          refine lv_aload_n hx hb dX1_isSame_60 rfl (lv_at hl 4 rfl) ?_
          refine qg_fu hC hK hP mF_X1_29 dX1_isSame_61 ?_
          refine lv_icmp_ne (tgt := 90) hx hb dX1_isSame_64 (by decide) (fun c_64 => ?_) (fun c_64 => ?_)
          · exact absurd rfl c_64
          · refine lv_aload_n hx hb dX1_isSame_67 rfl (lv_at hl 5 rfl) ?_
            refine kx_X0_refunded hC mM_X1_113 hK hP hl.1 ⟨Nat.le_of_ble_eq_true rfl, Nat.le_of_ble_eq_true rfl⟩ ⟨(Nat.zero_le _), (Nat.zero_le _)⟩ (Nat.le_of_ble_eq_true rfl)   dX1_isSame_68 ?_
            refine lv_aload_n hx hb dX1_isSame_71 rfl (lv_at hl 4 rfl) ?_
            refine qg_re hC hK hP mF_X1_40 dX1_isSame_72 ?_
            refine lv_icmp_ne (tgt := 90) hx hb dX1_isSame_75 (by decide) (fun c_75 => ?_) (fun c_75 => ?_)
            · exact absurd rfl c_75
            · refine lv_aload_n hx hb dX1_isSame_78 rfl (lv_at hl 5 rfl) ?_
              refine kx_X0_misses hC mM_X1_115 hK hP hl.1 ⟨Nat.le_of_ble_eq_true rfl, Nat.le_of_ble_eq_true rfl⟩ ⟨(Nat.zero_le _), (Nat.zero_le _)⟩ (Nat.le_of_ble_eq_true rfl)   dX1_isSame_79 ?_
              refine lv_aload_n hx hb dX1_isSame_82 rfl (lv_at hl 4 rfl) ?_
              refine qg_ms hC hK hP mF_X1_18 dX1_isSame_83 ?_
              refine qlen_m hC hK hP hG dX1_isSame_86 ?_
              refine lv_icmp_eq (tgt := 92) hx hb dX1_isSame_87 (by decide) (fun c_87 => ?_) (fun c_87 => ?_)
              · have nc_87 : k = k := nn_eq (by omega) c_87
                refine lv_iload_n hx hb dX1_isSame_92 rfl (lv_at hl 3 rfl) ?_
                refine qn_i hC hK hP hD hS hA (N := n) rfl (by omega) (by show _ ≤ 900; omega) (by show _ ≤ 19400; omega) dX1_isSame_93 (fun q93 H hP hD hS => ?_)
                have hP : va_P D vwCl (((q93, .inl (z.1, n, .inl (fun _ => 0))) :: F) ++ (qW z cG b rp rw rm lv lk pu fa he n nv du w mp mi k nt fu re ++ xW z a lv lk pu fa he n nv du ta w mp mi k nt fu re)) H := hP
                have hD : va_D A (((q93, .inl (z.1, n, .inl (fun _ => 0))) :: F) ++ (qW z cG b rp rw rm lv lk pu fa he n nv du w mp mi k nt fu re ++ xW z a lv lk pu fa he n nv du ta w mp mi k nt fu re)) := hD
                refine lv_astore (lv' := [(6, .ref q93), (5, .int (-1)), (4, .int 0), (3, .int 0), (2, .int (nI n)), (0, .ref (b 0)), (1, .ref (a 0))]) hx hb dX1_isSame_95 hl (by decide) rfl (fun ls hl => ?_)
                refine lv_iload_n hx hb dX1_isSame_97 rfl (lv_at hl 4 rfl) ?_
                refine qn_i hC hK hP hD hS hA (N := n) rfl (by omega) (by show _ ≤ 900; omega) (by show _ ≤ 19400; omega) dX1_isSame_98 (fun q98 H hP hD hS => ?_)
                have hP : va_P D vwCl (((q98, .inl (z.1, n, .inl (fun _ => 0))) :: (q93, .inl (z.1, n, .inl (fun _ => 0))) :: F) ++ (qW z cG b rp rw rm lv lk pu fa he n nv du w mp mi k nt fu re ++ xW z a lv lk pu fa he n nv du ta w mp mi k nt fu re)) H := hP
                have hD : va_D A (((q98, .inl (z.1, n, .inl (fun _ => 0))) :: (q93, .inl (z.1, n, .inl (fun _ => 0))) :: F) ++ (qW z cG b rp rw rm lv lk pu fa he n nv du w mp mi k nt fu re ++ xW z a lv lk pu fa he n nv du ta w mp mi k nt fu re)) := hD
                refine lv_astore (lv' := [(7, .ref q98), (6, .ref q93), (5, .int (-1)), (4, .int 0), (3, .int 0), (2, .int (nI n)), (0, .ref (b 0)), (1, .ref (a 0))]) hx hb dX1_isSame_100 hl (by decide) rfl (fun ls hl => ?_)
                refine lv_iconst (v := 0) hx hb dX1_isSame_102 (by decide) ?_
                refine lv_istore (lv' := [(8, .int 0), (7, .ref q98), (6, .ref q93), (5, .int (-1)), (4, .int 0), (3, .int 0), (2, .int (nI n)), (0, .ref (b 0)), (1, .ref (a 0))]) hx hb dX1_isSame_103 hl (by decide) rfl (fun ls hl => ?_)
                refine lv_iconst (v := 0) hx hb dX1_isSame_105 (by decide) ?_
                refine lv_istore (lv' := [(9, .int 0), (8, .int 0), (7, .ref q98), (6, .ref q93), (5, .int (-1)), (4, .int 0), (3, .int 0), (2, .int (nI n)), (0, .ref (b 0)), (1, .ref (a 0))]) hx hb dX1_isSame_106 hl (by decide) rfl (fun ls hl => ?_)
                have loop_108 : ∀ (f : Nat) (j : Nat) (g1 : Nat → Int32) (g2 : Nat → Int32) (x8 : Int32), j ≤ k → k + 1 ≤ j + f → (∀ t, t < n → g1 t = sp_many mp (nI t) j) → (∀ t, t < n → g2 t = sp_close mp mi (nI t) j) → x8 = sp_cert mi j → ∀ (cells slots : Nat) (H : Heap) (locs : List Loc), va_P D vwCl (((q98, .inl (z.1, n, .inl g2)) :: (q93, .inl (z.1, n, .inl g1)) :: F) ++ (qW z cG b rp rw rm lv lk pu fa he n nv du w mp mi k nt fu re ++ xW z a lv lk pu fa he n nv du ta w mp mi k nt fu re)) H → va_D A (((q98, .inl (z.1, n, .inl g2)) :: (q93, .inl (z.1, n, .inl g1)) :: F) ++ (qW z cG b rp rw rm lv lk pu fa he n nv du w mp mi k nt fu re ++ xW z a lv lk pu fa he n nv du ta w mp mi k nt fu re)) → va_S A s.heap H locs → cells ≤ 2 + 14 * j → slots ≤ 20 + 320 * j → ∀ ls : Array Slot, lv_has ls 12 [(0, .ref (b 0)), (1, .ref (a 0)), (2, .int (nI n)), (3, .int 0), (4, .int 0), (5, .int (-1)), (6, .ref q93), (7, .ref q98), (8, .int x8), (9, .int (nI j))] → W p l e ({ frames := 7, cells := 900, slots := 19400, locals := 158 } : Room) s m ([.ref (b 0), .ref (a 0)] : List Value).toArray below meth c H locs (cells) (slots) (MQ below (va_Qi (fun (r : Int32) (u : Unit) => r = 1) (fun u t9 => True) A) ([.ref (b 0), .ref (a 0)] : List Value).toArray s 900 19400 A) (F0 m 108 ls []) := by
                  intro f
                  induction f with
                  | zero =>
                    intro j g1 g2 x8 hj hf hg1 hg2 ex8
                    exact absurd hf (by omega)
                  | succ f ih108 =>
                    intro j g1 g2 x8 hj hf hg1 hg2 ex8 cells slots H locs hP hD hS hcl hsl ls hl
                    refine lv_iload hx hb dX1_isSame_108 (lv_at hl 9 rfl) ?_
                    refine lv_aload_n hx hb dX1_isSame_110 rfl (lv_at hl 0 rfl) ?_
                    refine qg_ms hC hK hP mF_X1_18 dX1_isSame_111 ?_
                    refine qlen_m hC hK hP hG dX1_isSame_114 ?_
                    refine lv_icmp_ge (tgt := 258) hx hb dX1_isSame_115 (by decide) (fun c_115 => ?_) (fun c_115 => ?_)
                    · have nc_115 : k ≤ j := nn_le (by omega) c_115
                      have ejk : j = k := by omega
                      rw [ejk] at hg1 hg2 ex8
                      have hclA : cells ≤ 842 := by omega
                      have hslA : slots ≤ 19220 := by omega
                      refine lv_iconst (v := 0) hx hb dX1_isSame_258 (by decide) ?_
                      refine lv_istore (lv' := [(9, .int 0), (0, .ref (b 0)), (1, .ref (a 0)), (2, .int (nI n)), (3, .int 0), (4, .int 0), (5, .int (-1)), (6, .ref q93), (7, .ref q98), (8, .int x8)]) hx hb dX1_isSame_259 hl (by decide) rfl (fun ls hl => ?_)
                      have loop_261 : ∀ (f : Nat) (i : Nat) (x3 : Int32) (x4 : Int32) (x5 : Int32), i ≤ n → n + 1 ≤ i + f → x3 = sp_cnt lv i → x4 = sp_sum lv lk i → x5 = (sp_best lv lk i).1 → ∀ (cells slots : Nat) (H : Heap) (locs : List Loc), va_P D vwCl (((q98, .inl (z.1, n, .inl g2)) :: (q93, .inl (z.1, n, .inl g1)) :: F) ++ (qW z cG b rp rw rm lv lk pu fa he n nv du w mp mi k nt fu re ++ xW z a lv lk pu fa he n nv du ta w mp mi k nt fu re)) H → va_D A (((q98, .inl (z.1, n, .inl g2)) :: (q93, .inl (z.1, n, .inl g1)) :: F) ++ (qW z cG b rp rw rm lv lk pu fa he n nv du w mp mi k nt fu re ++ xW z a lv lk pu fa he n nv du ta w mp mi k nt fu re)) → va_S A s.heap H locs → cells ≤ 842 + i → slots ≤ 19220 + 10 * i → ∀ ls : Array Slot, lv_has ls 12 [(0, .ref (b 0)), (1, .ref (a 0)), (2, .int (nI n)), (3, .int x3), (4, .int x4), (5, .int x5), (6, .ref q93), (7, .ref q98), (8, .int x8), (9, .int (nI i))] → W p l e ({ frames := 7, cells := 900, slots := 19400, locals := 158 } : Room) s m ([.ref (b 0), .ref (a 0)] : List Value).toArray below meth c H locs (cells) (slots) (MQ below (va_Qi (fun (r : Int32) (u : Unit) => r = 1) (fun u t9 => True) A) ([.ref (b 0), .ref (a 0)] : List Value).toArray s 900 19400 A) (F0 m 261 ls []) := by
                        intro f
                        induction f with
                        | zero =>
                          intro i x3 x4 x5 hi9 hf ex3 ex4 ex5
                          exact absurd hf (by omega)
                        | succ f ih261 =>
                          intro i x3 x4 x5 hi9 hf ex3 ex4 ex5 cells slots H locs hP hD hS hcl hsl ls hl
                          refine lv_iload hx hb dX1_isSame_261 (lv_at hl 9 rfl) ?_
                          refine lv_iload_n hx hb dX1_isSame_263 rfl (lv_at hl 2 rfl) ?_
                          refine lv_icmp_ge (tgt := 469) hx hb dX1_isSame_264 (by decide) (fun c_264 => ?_) (fun c_264 => ?_)
                          · have nc_264 : n ≤ i := nn_le (by omega) c_264
                            have ein : i = n := by omega
                            rw [ein] at ex3 ex4 ex5
                            have hclB : cells ≤ 852 := by omega
                            have hslB : slots ≤ 19320 := by omega
                            refine lv_iconst (v := (-1)) hx hb dX1_isSame_469 (by decide) ?_
                            refine lv_istore (lv' := [(9, .int (-1)), (0, .ref (b 0)), (1, .ref (a 0)), (2, .int (nI n)), (3, .int x3), (4, .int x4), (5, .int x5), (6, .ref q93), (7, .ref q98), (8, .int x8)]) hx hb dX1_isSame_470 hl (by decide) rfl (fun ls hl => ?_)
                            refine lv_iconst (v := 0) hx hb dX1_isSame_472 (by decide) ?_
                            refine lv_istore (lv' := [(10, .int 0), (9, .int (-1)), (0, .ref (b 0)), (1, .ref (a 0)), (2, .int (nI n)), (3, .int x3), (4, .int x4), (5, .int x5), (6, .ref q93), (7, .ref q98), (8, .int x8)]) hx hb dX1_isSame_473 hl (by decide) rfl (fun ls hl => ?_)
                            have loop_475 : ∀ (f : Nat) (v : Nat) (x9 : Int32), v ≤ w → w + 1 ≤ v + f → x9 = (sp_best du nv v).1 → ∀ (H : Heap) (locs : List Loc), va_P D vwCl (((q98, .inl (z.1, n, .inl g2)) :: (q93, .inl (z.1, n, .inl g1)) :: F) ++ (qW z cG b rp rw rm lv lk pu fa he n nv du w mp mi k nt fu re ++ xW z a lv lk pu fa he n nv du ta w mp mi k nt fu re)) H → va_D A (((q98, .inl (z.1, n, .inl g2)) :: (q93, .inl (z.1, n, .inl g1)) :: F) ++ (qW z cG b rp rw rm lv lk pu fa he n nv du w mp mi k nt fu re ++ xW z a lv lk pu fa he n nv du ta w mp mi k nt fu re)) → va_S A s.heap H locs → ∀ ls : Array Slot, lv_has ls 12 [(0, .ref (b 0)), (1, .ref (a 0)), (3, .int x3), (4, .int x4), (5, .int x5), (8, .int x8), (9, .int x9), (10, .int (nI v))] → W p l e ({ frames := 7, cells := 900, slots := 19400, locals := 158 } : Room) s m ([.ref (b 0), .ref (a 0)] : List Value).toArray below meth c H locs (cells) (slots) (MQ below (va_Qi (fun (r : Int32) (u : Unit) => r = 1) (fun u t9 => True) A) ([.ref (b 0), .ref (a 0)] : List Value).toArray s 900 19400 A) (F0 m 475 ls []) := by
                              intro f
                              induction f with
                              | zero =>
                                intro v x9 hv9 hf ex9
                                exact absurd hf (by omega)
                              | succ f ih475 =>
                                intro v x9 hv9 hf ex9 H locs hP hD hS ls hl
                                refine lv_iload hx hb dX1_isSame_475 (lv_at hl 7 rfl) ?_
                                refine lv_aload_n hx hb dX1_isSame_477 rfl (lv_at hl 0 rfl) ?_
                                refine qg_ws hC hK hP mF_X1_15 dX1_isSame_478 ?_
                                refine qlen_w hC hK hP hG dX1_isSame_481 ?_
                                refine lv_icmp_ge (tgt := 570) hx hb dX1_isSame_482 (by decide) (fun c_482 => ?_) (fun c_482 => ?_)
                                · have nc_482 : w ≤ v := nn_le (by omega) c_482
                                  have evw : v = w := by omega
                                  rw [evw] at ex9
                                  refine lv_aload_n hx hb dX1_isSame_570 rfl (lv_at hl 1 rfl) ?_
                                  refine kx_X0_alive hC mM_X1_163 hK hP hl.1 ⟨Nat.le_of_ble_eq_true rfl, Nat.le_of_ble_eq_true rfl⟩ ⟨(by show _ ≤ 900; omega), (by show _ ≤ 19400; omega)⟩ (Nat.le_of_ble_eq_true rfl)  (by first | assumption | omega) dX1_isSame_571 ?_
                                  refine lv_iload_n hx hb dX1_isSame_574 rfl (lv_at hl 2 rfl) ?_
                                  refine lv_icmp_ne (tgt := 631) hx hb dX1_isSame_575 (by decide) (fun c_575 => ?_) (fun c_575 => ?_)
                                  · exact absurd ex3.symm c_575
                                  · refine lv_aload_n hx hb dX1_isSame_578 rfl (lv_at hl 1 rfl) ?_
                                    refine kx_X0_certified hC mM_X1_166 hK hP hl.1 ⟨Nat.le_of_ble_eq_true rfl, Nat.le_of_ble_eq_true rfl⟩ ⟨(by show _ ≤ 900; omega), (by show _ ≤ 19400; omega)⟩ (Nat.le_of_ble_eq_true rfl)  (by first | assumption | omega) dX1_isSame_579 ?_
                                    refine lv_iload hx hb dX1_isSame_582 (lv_at hl 5 rfl) ?_
                                    refine lv_icmp_ne (tgt := 631) hx hb dX1_isSame_584 (by decide) (fun c_584 => ?_) (fun c_584 => ?_)
                                    · exact absurd ex8.symm c_584
                                    · refine lv_aload_n hx hb dX1_isSame_587 rfl (lv_at hl 1 rfl) ?_
                                      refine kx_X0_steadiest hC mM_X1_169 hK hP hl.1 ⟨Nat.le_of_ble_eq_true rfl, Nat.le_of_ble_eq_true rfl⟩ ⟨(by show _ ≤ 900; omega), (by show _ ≤ 19400; omega)⟩ (Nat.le_of_ble_eq_true rfl)  (by first | assumption | omega) dX1_isSame_588 ?_
                                      refine lv_iload hx hb dX1_isSame_591 (lv_at hl 6 rfl) ?_
                                      refine lv_icmp_ne (tgt := 631) hx hb dX1_isSame_593 (by decide) (fun c_593 => ?_) (fun c_593 => ?_)
                                      · exact absurd ex9.symm c_593
                                      · refine lv_aload_n hx hb dX1_isSame_596 rfl (lv_at hl 1 rfl) ?_
                                        refine kx_X0_luckiest hC mM_X1_172 hK hP hl.1 ⟨Nat.le_of_ble_eq_true rfl, Nat.le_of_ble_eq_true rfl⟩ ⟨(by show _ ≤ 900; omega), (by show _ ≤ 19400; omega)⟩ (Nat.le_of_ble_eq_true rfl)  (by first | assumption | omega) dX1_isSame_597 ?_
                                        refine lv_iload hx hb dX1_isSame_600 (lv_at hl 4 rfl) ?_
                                        refine lv_icmp_ne (tgt := 631) hx hb dX1_isSame_602 (by decide) (fun c_602 => ?_) (fun c_602 => ?_)
                                        · exact absurd ex5.symm c_602
                                        · refine lv_aload_n hx hb dX1_isSame_605 rfl (lv_at hl 1 rfl) ?_
                                          refine kx_X0_meanLuck hC mM_X1_175 hK hP hl.1 ⟨Nat.le_of_ble_eq_true rfl, Nat.le_of_ble_eq_true rfl⟩ ⟨(by show _ ≤ 900; omega), (by show _ ≤ 19400; omega)⟩ (Nat.le_of_ble_eq_true rfl)  (by first | assumption | omega) dX1_isSame_606 ?_
                                          refine lv_iload_n hx hb dX1_isSame_609 rfl (lv_at hl 2 rfl) ?_
                                          refine lv_if_ne (tgt := 617) hx hb dX1_isSame_610 (by decide) (fun c_610 => ?_) (fun c_610 => ?_)
                                          · refine lv_iload hx hb dX1_isSame_617 (lv_at hl 3 rfl) ?_
                                            refine lv_i2d hx hb dX1_isSame_619 ?_
                                            refine lv_iload_n hx hb dX1_isSame_620 rfl (lv_at hl 2 rfl) ?_
                                            refine lv_i2d hx hb dX1_isSame_621 ?_
                                            refine lv_ddiv hx hb dX1_isSame_622 (mean_num c_610) ?_
                                            have hmean : FP.ddiv (FP.i2d x4) (FP.i2d x3) = sp_mean lv lk n := by
                                              unfold sp_mean
                                              rw [if_neg (by rw [← ex3]; exact c_610), ex3, ex4]
                                            rw [hmean]
                                            refine w_dcmp hx hb dX1_isSame_623 (mean_cmp lv lk n) ?_
                                            refine lv_if_ne (tgt := 631) hx hb dX1_isSame_624 (by decide) (fun c_624 => ?_) (fun c_624 => ?_)
                                            · exact absurd rfl c_624
                                            · refine lv_iconst (v := 1) hx hb dX1_isSame_627 (by decide) ?_
                                              refine lv_goto (tgt := 632) hx hb dX1_isSame_628 (by decide) ?_
                                              refine W.widen (k := 900) (n := 19400) (by omega) (by omega) ?_
                                              exact W.zret (v := 1) hx hb hr (by decide) (fun t ht hW => ⟨⟨1, (), rfl, rfl, trivial⟩, hS.F ht⟩) hS.2.2 dX1_isSame_632
                                          · refine lv_dconst0 hx hb dX1_isSame_613 ?_
                                            refine lv_goto (tgt := 623) hx hb dX1_isSame_614 (by decide) ?_
                                            have hmean : FP.dconst0 = sp_mean lv lk n := by
                                              unfold sp_mean
                                              rw [if_pos (by rw [← ex3]; exact c_610)]
                                            rw [hmean]
                                            refine w_dcmp hx hb dX1_isSame_623 (mean_cmp lv lk n) ?_
                                            refine lv_if_ne (tgt := 631) hx hb dX1_isSame_624 (by decide) (fun c_624 => ?_) (fun c_624 => ?_)
                                            · exact absurd rfl c_624
                                            · refine lv_iconst (v := 1) hx hb dX1_isSame_627 (by decide) ?_
                                              refine lv_goto (tgt := 632) hx hb dX1_isSame_628 (by decide) ?_
                                              refine W.widen (k := 900) (n := 19400) (by omega) (by omega) ?_
                                              exact W.zret (v := 1) hx hb hr (by decide) (fun t ht hW => ⟨⟨1, (), rfl, rfl, trivial⟩, hS.F ht⟩) hS.2.2 dX1_isSame_632
                                · have nc_482 : v < w := nn_nle (by omega) c_482
                                  refine lv_aload_n hx hb dX1_isSame_485 rfl (lv_at hl 0 rfl) ?_
                                  refine qg_ws hC hK hP mF_X1_15 dX1_isSame_486 ?_
                                  refine lv_iload hx hb dX1_isSame_489 (lv_at hl 7 rfl) ?_
                                  refine qr_w v hC hK hP hG rfl (by first | assumption | omega) (by omega) dX1_isSame_491 ?_
                                  refine lv_astore (lv' := [(11, .ref (rw v)), (0, .ref (b 0)), (1, .ref (a 0)), (3, .int x3), (4, .int x4), (5, .int x5), (8, .int x8), (9, .int x9), (10, .int (nI v))]) hx hb dX1_isSame_492 hl (by decide) rfl (fun ls hl => ?_)
                                  have tail_527 : ∀ (y9 : Int32), y9 = (sp_best du nv (v + 1)).1 → ∀ ls : Array Slot, lv_has ls 12 [(0, .ref (b 0)), (1, .ref (a 0)), (3, .int x3), (4, .int x4), (5, .int x5), (8, .int x8), (9, .int y9), (10, .int (nI v)), (11, .ref (rw v))] → W p l e ({ frames := 7, cells := 900, slots := 19400, locals := 158 } : Room) s m ([.ref (b 0), .ref (a 0)] : List Value).toArray below meth c H locs (cells) (slots) (MQ below (va_Qi (fun (r : Int32) (u : Unit) => r = 1) (fun u t9 => True) A) ([.ref (b 0), .ref (a 0)] : List Value).toArray s 900 19400 A) (F0 m 527 ls []) := by
                                    intro y9 ey9 ls hl
                                    refine lv_aload_n hx hb dX1_isSame_527 rfl (lv_at hl 1 rfl) ?_
                                    refine lv_iload hx hb dX1_isSame_528 (lv_at hl 7 rfl) ?_
                                    refine kx_X0_nerveOf hC mM_X1_157 hK hP hl.1 ⟨Nat.le_of_ble_eq_true rfl, Nat.le_of_ble_eq_true rfl⟩ ⟨(by show _ ≤ 900; omega), (by show _ ≤ 19400; omega)⟩ (Nat.le_of_ble_eq_true rfl) rfl (by first | assumption | omega) (by first | assumption | omega) dX1_isSame_530 ?_
                                    refine lv_aload hx hb dX1_isSame_533 (lv_at hl 8 rfl) ?_
                                    refine lv_iconst (v := 0) hx hb dX1_isSame_535 (by decide) ?_
                                    refine ql_nv v hC hK hP (by first | assumption | omega) nI_0.symm dX1_isSame_536 ?_
                                    refine lv_icmp_ne (tgt := 562) hx hb dX1_isSame_537 (by decide) (fun c_537 => ?_) (fun c_537 => ?_)
                                    · exact absurd rfl c_537
                                    · refine lv_aload_n hx hb dX1_isSame_540 rfl (lv_at hl 1 rfl) ?_
                                      refine lv_iload hx hb dX1_isSame_541 (lv_at hl 7 rfl) ?_
                                      refine kx_X0_isOnDuty hC mM_X1_160 hK hP hl.1 ⟨Nat.le_of_ble_eq_true rfl, Nat.le_of_ble_eq_true rfl⟩ ⟨(by show _ ≤ 900; omega), (by show _ ≤ 19400; omega)⟩ (Nat.le_of_ble_eq_true rfl) rfl (by first | assumption | omega) (by first | assumption | omega) (hdu v nc_482) dX1_isSame_543 ?_
                                      refine lv_aload hx hb dX1_isSame_546 (lv_at hl 8 rfl) ?_
                                      refine lv_iconst (v := 1) hx hb dX1_isSame_548 (by decide) ?_
                                      refine ql_du v hC hK hP (by first | assumption | omega) rfl dX1_isSame_549 ?_
                                      refine lv_iconst (v := 1) hx hb dX1_isSame_550 (by decide) ?_
                                      refine lv_icmp_ne (tgt := 558) hx hb dX1_isSame_551 (by decide) (fun c_551 => ?_) (fun c_551 => ?_)
                                      · refine lv_iconst (v := 0) hx hb dX1_isSame_558 (by decide) ?_
                                        refine lv_icmp_eq (tgt := 564) hx hb dX1_isSame_559 (by decide) (fun c_559 => ?_) (fun c_559 => ?_)
                                        · refine lv_iinc (v := nI (v + 1)) (lv' := [(10, .int (nI (v + 1))), (0, .ref (b 0)), (1, .ref (a 0)), (3, .int x3), (4, .int x4), (5, .int x5), (8, .int x8), (9, .int y9), (11, .ref (rw v))]) hx hb dX1_isSame_564 hl (k := 7) rfl (nI_1 _) (by decide) rfl (fun ls hl => ?_)
                                          refine lv_goto (tgt := 475) hx hb dX1_isSame_567 (by decide) ?_
                                          exact ih475 (v + 1) y9 (by omega) (by omega) ey9 _ _ hP hD hS  _ (lv_sub hl [1, 2, 3, 4, 5, 6, 7, 0] rfl)
                                        · exact absurd ((hdu v nc_482).resolve_right c_551) c_559
                                      · refine lv_iconst (v := 1) hx hb dX1_isSame_554 (by decide) ?_
                                        refine lv_goto (tgt := 559) hx hb dX1_isSame_555 (by decide) ?_
                                        refine lv_icmp_eq (tgt := 564) hx hb dX1_isSame_559 (by decide) (fun c_559 => ?_) (fun c_559 => ?_)
                                        · refine lv_iinc (v := nI (v + 1)) (lv' := [(10, .int (nI (v + 1))), (0, .ref (b 0)), (1, .ref (a 0)), (3, .int x3), (4, .int x4), (5, .int x5), (8, .int x8), (9, .int y9), (11, .ref (rw v))]) hx hb dX1_isSame_564 hl (k := 7) rfl (nI_1 _) (by decide) rfl (fun ls hl => ?_)
                                          refine lv_goto (tgt := 475) hx hb dX1_isSame_567 (by decide) ?_
                                          exact ih475 (v + 1) y9 (by omega) (by omega) ey9 _ _ hP hD hS  _ (lv_sub hl [1, 2, 3, 4, 5, 6, 7, 0] rfl)
                                        · exact absurd c_551 c_559
                                  refine lv_aload hx hb dX1_isSame_494 (lv_at hl 0 rfl) ?_
                                  refine lv_iconst (v := 1) hx hb dX1_isSame_496 (by decide) ?_
                                  refine ql_du v hC hK hP (by first | assumption | omega) rfl dX1_isSame_497 ?_
                                  refine lv_iconst (v := 1) hx hb dX1_isSame_498 (by decide) ?_
                                  refine lv_icmp_ne (tgt := 527) hx hb dX1_isSame_499 (by decide) (fun c_499 => ?_) (fun c_499 => ?_)
                                  · exact tail_527 x9 (best_skip (hdu v nc_482) c_499 ex9) _ (lv_sub hl [1, 2, 3, 4, 5, 6, 7, 8, 0] rfl)
                                  · refine lv_iload hx hb dX1_isSame_502 (lv_at hl 7 rfl) ?_
                                    refine lv_if_lt (tgt := 523) hx hb dX1_isSame_504 (by decide) (fun c_504 => ?_) (fun c_504 => ?_)
                                    · refine lv_iload hx hb dX1_isSame_523 (lv_at hl 8 rfl) ?_
                                      refine lv_istore (lv' := [(9, .int (nI v)), (11, .ref (rw v)), (0, .ref (b 0)), (1, .ref (a 0)), (3, .int x3), (4, .int x4), (5, .int x5), (8, .int x8), (10, .int (nI v))]) hx hb dX1_isSame_525 hl (by decide) rfl (fun ls hl => ?_)
                                      exact tail_527 (nI v) (best_none hnv (by decide) (by omega) nc_482 c_499 c_504 ex9) _ (lv_sub hl [2, 3, 4, 5, 6, 7, 0, 8, 1] rfl)
                                    · obtain ⟨yb, hyb, eb5, hb2⟩ := best_some hnv (by decide) nc_482 c_504 ex9
                                      have hybn : yb < w := by omega
                                      refine lv_aload hx hb dX1_isSame_507 (lv_at hl 0 rfl) ?_
                                      refine lv_iconst (v := 0) hx hb dX1_isSame_509 (by decide) ?_
                                      refine ql_nv v hC hK hP (by first | assumption | omega) nI_0.symm dX1_isSame_510 ?_
                                      refine lv_aload_n hx hb dX1_isSame_511 rfl (lv_at hl 1 rfl) ?_
                                      refine qg_ws hC hK hP mF_X1_15 dX1_isSame_512 ?_
                                      refine lv_iload hx hb dX1_isSame_515 (lv_at hl 7 rfl) ?_
                                      refine qr_w yb hC hK hP hG eb5 (by first | assumption | omega) (by omega) dX1_isSame_517 ?_
                                      refine lv_iconst (v := 0) hx hb dX1_isSame_518 (by decide) ?_
                                      refine ql_nv yb hC hK hP (by first | assumption | omega) nI_0.symm dX1_isSame_519 ?_
                                      refine lv_icmp_le (tgt := 527) hx hb dX1_isSame_520 (by decide) (fun c_520 => ?_) (fun c_520 => ?_)
                                      · exact tail_527 x9 (best_keep c_499 hb2 c_520 ex9) _ (lv_sub hl [1, 2, 3, 4, 5, 6, 7, 8, 0] rfl)
                                      · refine lv_iload hx hb dX1_isSame_523 (lv_at hl 8 rfl) ?_
                                        refine lv_istore (lv' := [(9, .int (nI v)), (11, .ref (rw v)), (0, .ref (b 0)), (1, .ref (a 0)), (3, .int x3), (4, .int x4), (5, .int x5), (8, .int x8), (10, .int (nI v))]) hx hb dX1_isSame_525 hl (by decide) rfl (fun ls hl => ?_)
                                        exact tail_527 (nI v) (best_new c_499 hb2 c_520) _ (lv_sub hl [2, 3, 4, 5, 6, 7, 0, 8, 1] rfl)
                            exact loop_475 (w + 1) 0 (-1) (Nat.zero_le _) (by omega) rfl _ _ hP hD hS  _ (lv_sub hl [2, 3, 5, 6, 7, 10, 1, 0] rfl)
                          · have nc_264 : i < n := nn_nle (by omega) c_264
                            refine lv_aload_n hx hb dX1_isSame_267 rfl (lv_at hl 0 rfl) ?_
                            refine qg_ps hC hK hP mF_X1_9 dX1_isSame_268 ?_
                            refine lv_iload hx hb dX1_isSame_271 (lv_at hl 9 rfl) ?_
                            refine qr_p i hC hK hP hG rfl (by first | assumption | omega) (by omega) dX1_isSame_273 ?_
                            refine lv_astore (lv' := [(10, .ref (rp i)), (0, .ref (b 0)), (1, .ref (a 0)), (2, .int (nI n)), (3, .int x3), (4, .int x4), (5, .int x5), (6, .ref q93), (7, .ref q98), (8, .int x8), (9, .int (nI i))]) hx hb dX1_isSame_274 hl (by decide) rfl (fun ls hl => ?_)
                            refine lv_iload_n hx hb dX1_isSame_276 rfl (lv_at hl 4 rfl) ?_
                            refine lv_aload hx hb dX1_isSame_277 (lv_at hl 0 rfl) ?_
                            refine lv_iconst (v := 0) hx hb dX1_isSame_279 (by decide) ?_
                            refine ql_lv i hC hK hP (by first | assumption | omega) nI_0.symm dX1_isSame_280 ?_
                            refine lv_iadd hx hb dX1_isSame_281 ?_
                            refine lv_istore_n (lv' := [(3, .int (x3 + (lv i))), (10, .ref (rp i)), (0, .ref (b 0)), (1, .ref (a 0)), (2, .int (nI n)), (4, .int x4), (5, .int x5), (6, .ref q93), (7, .ref q98), (8, .int x8), (9, .int (nI i))]) hx hb dX1_isSame_282 rfl hl (by decide) rfl (fun ls hl => ?_)
                            refine lv_iload hx hb dX1_isSame_283 (lv_at hl 5 rfl) ?_
                            refine lv_aload hx hb dX1_isSame_285 (lv_at hl 1 rfl) ?_
                            refine lv_iconst (v := 0) hx hb dX1_isSame_287 (by decide) ?_
                            refine ql_lv i hC hK hP (by first | assumption | omega) nI_0.symm dX1_isSame_288 ?_
                            refine lv_aload hx hb dX1_isSame_289 (lv_at hl 1 rfl) ?_
                            refine lv_iconst (v := 1) hx hb dX1_isSame_291 (by decide) ?_
                            refine ql_lk i hC hK hP (by first | assumption | omega) rfl dX1_isSame_292 ?_
                            refine lv_imul hx hb dX1_isSame_293 ?_
                            refine lv_iadd hx hb dX1_isSame_294 ?_
                            refine lv_istore (lv' := [(4, .int (x4 + ((lv i) * (lk i)))), (3, .int (x3 + (lv i))), (10, .ref (rp i)), (0, .ref (b 0)), (1, .ref (a 0)), (2, .int (nI n)), (5, .int x5), (6, .ref q93), (7, .ref q98), (8, .int x8), (9, .int (nI i))]) hx hb dX1_isSame_295 hl (by decide) rfl (fun ls hl => ?_)
                            have tail_330 : ∀ (y5 : Int32), y5 = (sp_best lv lk (i + 1)).1 → ∀ ls : Array Slot, lv_has ls 12 [(0, .ref (b 0)), (1, .ref (a 0)), (2, .int (nI n)), (3, .int (x3 + (lv i))), (4, .int (x4 + ((lv i) * (lk i)))), (5, .int y5), (6, .ref q93), (7, .ref q98), (8, .int x8), (9, .int (nI i)), (10, .ref (rp i))] → W p l e ({ frames := 7, cells := 900, slots := 19400, locals := 158 } : Room) s m ([.ref (b 0), .ref (a 0)] : List Value).toArray below meth c H locs (cells) (slots) (MQ below (va_Qi (fun (r : Int32) (u : Unit) => r = 1) (fun u t9 => True) A) ([.ref (b 0), .ref (a 0)] : List Value).toArray s 900 19400 A) (F0 m 330 ls []) := by
                              intro y5 ey5 ls hl
                              refine lv_aload_n hx hb dX1_isSame_330 rfl (lv_at hl 1 rfl) ?_
                              refine lv_iload hx hb dX1_isSame_331 (lv_at hl 9 rfl) ?_
                              refine kx_X0_isAlive hC mM_X1_129 hK hP hl.1 ⟨Nat.le_of_ble_eq_true rfl, Nat.le_of_ble_eq_true rfl⟩ ⟨(by show _ ≤ 900; omega), (by show _ ≤ 19400; omega)⟩ (Nat.le_of_ble_eq_true rfl) rfl (by first | assumption | omega) (by first | assumption | omega) (h01 i nc_264) dX1_isSame_333 ?_
                              refine lv_aload hx hb dX1_isSame_336 (lv_at hl 10 rfl) ?_
                              refine lv_iconst (v := 0) hx hb dX1_isSame_338 (by decide) ?_
                              refine ql_lv i hC hK hP (by first | assumption | omega) nI_0.symm dX1_isSame_339 ?_
                              refine lv_iconst (v := 1) hx hb dX1_isSame_340 (by decide) ?_
                              refine lv_icmp_ne (tgt := 348) hx hb dX1_isSame_341 (by decide) (fun c_341 => ?_) (fun c_341 => ?_)
                              · refine lv_iconst (v := 0) hx hb dX1_isSame_348 (by decide) ?_
                                refine lv_icmp_ne (tgt := 461) hx hb dX1_isSame_349 (by decide) (fun c_349 => ?_) (fun c_349 => ?_)
                                · exact absurd ((h01 i nc_264).resolve_right c_341) c_349
                                · refine lv_aload_n hx hb dX1_isSame_352 rfl (lv_at hl 1 rfl) ?_
                                  refine lv_iload hx hb dX1_isSame_353 (lv_at hl 9 rfl) ?_
                                  refine kx_X0_luckOf hC mM_X1_133 hK hP hl.1 ⟨Nat.le_of_ble_eq_true rfl, Nat.le_of_ble_eq_true rfl⟩ ⟨(by show _ ≤ 900; omega), (by show _ ≤ 19400; omega)⟩ (Nat.le_of_ble_eq_true rfl) rfl (by first | assumption | omega) (by first | assumption | omega) dX1_isSame_355 ?_
                                  refine lv_aload hx hb dX1_isSame_358 (lv_at hl 10 rfl) ?_
                                  refine lv_iconst (v := 1) hx hb dX1_isSame_360 (by decide) ?_
                                  refine ql_lk i hC hK hP (by first | assumption | omega) rfl dX1_isSame_361 ?_
                                  refine lv_icmp_ne (tgt := 461) hx hb dX1_isSame_362 (by decide) (fun c_362 => ?_) (fun c_362 => ?_)
                                  · exact absurd rfl c_362
                                  · refine lv_aload_n hx hb dX1_isSame_365 rfl (lv_at hl 1 rfl) ?_
                                    refine lv_iload hx hb dX1_isSame_366 (lv_at hl 9 rfl) ?_
                                    refine kx_X0_purseOf hC mM_X1_136 hK hP hl.1 ⟨Nat.le_of_ble_eq_true rfl, Nat.le_of_ble_eq_true rfl⟩ ⟨(by show _ ≤ 900; omega), (by show _ ≤ 19400; omega)⟩ (Nat.le_of_ble_eq_true rfl) rfl (by first | assumption | omega) (by first | assumption | omega) dX1_isSame_368 ?_
                                    refine lv_aload hx hb dX1_isSame_371 (lv_at hl 10 rfl) ?_
                                    refine lv_iconst (v := 2) hx hb dX1_isSame_373 (by decide) ?_
                                    refine ql_pu i hC hK hP (by first | assumption | omega) rfl dX1_isSame_374 ?_
                                    refine lv_icmp_ne (tgt := 461) hx hb dX1_isSame_375 (by decide) (fun c_375 => ?_) (fun c_375 => ?_)
                                    · exact absurd rfl c_375
                                    · refine lv_aload_n hx hb dX1_isSame_378 rfl (lv_at hl 1 rfl) ?_
                                      refine lv_iload hx hb dX1_isSame_379 (lv_at hl 9 rfl) ?_
                                      refine kx_X0_fatesOf hC mM_X1_139 hK hP hl.1 ⟨Nat.le_of_ble_eq_true rfl, Nat.le_of_ble_eq_true rfl⟩ ⟨(by show _ ≤ 900; omega), (by show _ ≤ 19400; omega)⟩ (Nat.le_of_ble_eq_true rfl) rfl (by first | assumption | omega) (by first | assumption | omega) dX1_isSame_381 ?_
                                      refine lv_aload hx hb dX1_isSame_384 (lv_at hl 10 rfl) ?_
                                      refine lv_iconst (v := 3) hx hb dX1_isSame_386 (by decide) ?_
                                      refine ql_fa i hC hK hP (by first | assumption | omega) rfl dX1_isSame_387 ?_
                                      refine lv_icmp_ne (tgt := 461) hx hb dX1_isSame_388 (by decide) (fun c_388 => ?_) (fun c_388 => ?_)
                                      · exact absurd rfl c_388
                                      · refine lv_aload_n hx hb dX1_isSame_391 rfl (lv_at hl 1 rfl) ?_
                                        refine lv_iload hx hb dX1_isSame_392 (lv_at hl 9 rfl) ?_
                                        refine kx_X0_heirOf hC mM_X1_142 hK hP hl.1 ⟨Nat.le_of_ble_eq_true rfl, Nat.le_of_ble_eq_true rfl⟩ ⟨(by show _ ≤ 900; omega), (by show _ ≤ 19400; omega)⟩ (Nat.le_of_ble_eq_true rfl) rfl (by first | assumption | omega) (by first | assumption | omega) dX1_isSame_394 ?_
                                        refine lv_aload hx hb dX1_isSame_397 (lv_at hl 10 rfl) ?_
                                        refine lv_iconst (v := 4) hx hb dX1_isSame_399 (by decide) ?_
                                        refine ql_he i hC hK hP (by first | assumption | omega) rfl dX1_isSame_400 ?_
                                        refine lv_icmp_ne (tgt := 461) hx hb dX1_isSame_401 (by decide) (fun c_401 => ?_) (fun c_401 => ?_)
                                        · exact absurd rfl c_401
                                        · refine lv_aload_n hx hb dX1_isSame_404 rfl (lv_at hl 1 rfl) ?_
                                          refine lv_iload hx hb dX1_isSame_405 (lv_at hl 9 rfl) ?_
                                          refine kx_X0_lastHeirOf hC mM_X1_145 hK hP hl.1 ⟨Nat.le_of_ble_eq_true rfl, Nat.le_of_ble_eq_true rfl⟩ ⟨(by show _ ≤ 900; omega), (by show _ ≤ 19400; omega)⟩ (Nat.le_of_ble_eq_true rfl) rfl (by first | assumption | omega) (by first | assumption | omega) dX1_isSame_407 ?_
                                          refine lv_aload_n hx hb dX1_isSame_410 rfl (lv_at hl 0 rfl) ?_
                                          refine lv_iload hx hb dX1_isSame_411 (lv_at hl 9 rfl) ?_
                                          refine k_X1_lastHeir (i := i) hC mM_X1_53 hK hG hP hD hS hA hl.1 ⟨Nat.le_of_ble_eq_true rfl, Nat.le_of_ble_eq_true rfl⟩ ⟨(by show _ ≤ 900; omega), (by show _ ≤ 19400; omega)⟩ (Nat.le_of_ble_eq_true rfl) nc_264 hn hH h01 dX1_isSame_413 (fun H locs hP hD hS => ?_)
                                          refine lv_icmp_ne (tgt := 461) hx hb dX1_isSame_416 (by decide) (fun c_416 => ?_) (fun c_416 => ?_)
                                          · exact absurd rfl c_416
                                          · refine lv_aload_n hx hb dX1_isSame_419 rfl (lv_at hl 1 rfl) ?_
                                            refine lv_iload hx hb dX1_isSame_420 (lv_at hl 9 rfl) ?_
                                            refine kx_X0_priceFor hC mM_X1_148 hK hP hl.1 ⟨Nat.le_of_ble_eq_true rfl, Nat.le_of_ble_eq_true rfl⟩ ⟨(by show _ ≤ 900; omega), (by show _ ≤ 19400; omega)⟩ (Nat.le_of_ble_eq_true rfl) rfl (by first | assumption | omega) (by first | assumption | omega) dX1_isSame_422 ?_
                                            refine lv_aload hx hb dX1_isSame_425 (lv_at hl 10 rfl) ?_
                                            refine k_X1_price hC mM_X1_25 hK hG hP (wj_rt (X := ((q98, .inl (z.1, n, .inl g2)) :: (q93, .inl (z.1, n, .inl g1)) :: F)) (qW_p (by first | assumption | omega))) hl.1 ⟨Nat.le_of_ble_eq_true rfl, Nat.le_of_ble_eq_true rfl⟩ ⟨(by show _ ≤ 900; omega), (by show _ ≤ 19400; omega)⟩ (Nat.le_of_ble_eq_true rfl) dX1_isSame_427 ?_
                                            refine lv_icmp_ne (tgt := 461) hx hb dX1_isSame_430 (by decide) (fun c_430 => ?_) (fun c_430 => ?_)
                                            · exact absurd rfl c_430
                                            · refine lv_aload_n hx hb dX1_isSame_433 rfl (lv_at hl 1 rfl) ?_
                                              refine lv_iload hx hb dX1_isSame_434 (lv_at hl 9 rfl) ?_
                                              refine kx_X0_missesOf hC mM_X1_151 hK hP hl.1 ⟨Nat.le_of_ble_eq_true rfl, Nat.le_of_ble_eq_true rfl⟩ ⟨(by show _ ≤ 900; omega), (by show _ ≤ 19400; omega)⟩ (Nat.le_of_ble_eq_true rfl) rfl (by first | assumption | omega) (by first | assumption | omega) (by first | assumption | omega) dX1_isSame_436 ?_
                                              refine lv_aload hx hb dX1_isSame_439 (lv_at hl 6 rfl) ?_
                                              refine lv_iload hx hb dX1_isSame_441 (lv_at hl 9 rfl) ?_
                                              refine qi_ld (q0 := 1) (L := n) (g := g1) i hC hK hP rfl rfl (by omega) (by omega) dX1_isSame_443 ?_
                                              refine lv_icmp_ne (tgt := 461) hx hb dX1_isSame_444 (by decide) (fun c_444 => ?_) (fun c_444 => ?_)
                                              · exact absurd (hg1 i nc_264).symm c_444
                                              · refine lv_aload_n hx hb dX1_isSame_447 rfl (lv_at hl 1 rfl) ?_
                                                refine lv_iload hx hb dX1_isSame_448 (lv_at hl 9 rfl) ?_
                                                refine kx_X0_closestOf hC mM_X1_154 hK hP hl.1 ⟨Nat.le_of_ble_eq_true rfl, Nat.le_of_ble_eq_true rfl⟩ ⟨(by show _ ≤ 900; omega), (by show _ ≤ 19400; omega)⟩ (Nat.le_of_ble_eq_true rfl) rfl (by first | assumption | omega) (by first | assumption | omega) (by first | assumption | omega) dX1_isSame_450 ?_
                                                refine lv_aload hx hb dX1_isSame_453 (lv_at hl 7 rfl) ?_
                                                refine lv_iload hx hb dX1_isSame_455 (lv_at hl 9 rfl) ?_
                                                refine qi_ld (q0 := 0) (L := n) (g := g2) i hC hK hP rfl rfl (by omega) (by omega) dX1_isSame_457 ?_
                                                refine lv_icmp_eq (tgt := 463) hx hb dX1_isSame_458 (by decide) (fun c_458 => ?_) (fun c_458 => ?_)
                                                · refine lv_iinc (v := nI (i + 1)) (lv' := [(9, .int (nI (i + 1))), (0, .ref (b 0)), (1, .ref (a 0)), (2, .int (nI n)), (3, .int (x3 + (lv i))), (4, .int (x4 + ((lv i) * (lk i)))), (5, .int y5), (6, .ref q93), (7, .ref q98), (8, .int x8), (10, .ref (rp i))]) hx hb dX1_isSame_463 hl (k := 9) rfl (nI_1 _) (by decide) rfl (fun ls hl => ?_)
                                                  refine lv_goto (tgt := 261) hx hb dX1_isSame_466 (by decide) ?_
                                                  exact ih261 (i + 1) (x3 + lv i) (x4 + lv i * lk i) y5 (by omega) (by omega) (cnt_step (h01 i nc_264) ex3) (sum_step (h01 i nc_264) ex4) ey5 _ _ _ _ hP hD hS (by omega) (by omega) _ (lv_sub hl [1, 2, 3, 4, 5, 6, 7, 8, 9, 0] rfl)
                                                · exact absurd (hg2 i nc_264).symm c_458
                              · refine lv_iconst (v := 1) hx hb dX1_isSame_344 (by decide) ?_
                                refine lv_goto (tgt := 349) hx hb dX1_isSame_345 (by decide) ?_
                                refine lv_icmp_ne (tgt := 461) hx hb dX1_isSame_349 (by decide) (fun c_349 => ?_) (fun c_349 => ?_)
                                · exact absurd c_341 c_349
                                · refine lv_aload_n hx hb dX1_isSame_352 rfl (lv_at hl 1 rfl) ?_
                                  refine lv_iload hx hb dX1_isSame_353 (lv_at hl 9 rfl) ?_
                                  refine kx_X0_luckOf hC mM_X1_133 hK hP hl.1 ⟨Nat.le_of_ble_eq_true rfl, Nat.le_of_ble_eq_true rfl⟩ ⟨(by show _ ≤ 900; omega), (by show _ ≤ 19400; omega)⟩ (Nat.le_of_ble_eq_true rfl) rfl (by first | assumption | omega) (by first | assumption | omega) dX1_isSame_355 ?_
                                  refine lv_aload hx hb dX1_isSame_358 (lv_at hl 10 rfl) ?_
                                  refine lv_iconst (v := 1) hx hb dX1_isSame_360 (by decide) ?_
                                  refine ql_lk i hC hK hP (by first | assumption | omega) rfl dX1_isSame_361 ?_
                                  refine lv_icmp_ne (tgt := 461) hx hb dX1_isSame_362 (by decide) (fun c_362 => ?_) (fun c_362 => ?_)
                                  · exact absurd rfl c_362
                                  · refine lv_aload_n hx hb dX1_isSame_365 rfl (lv_at hl 1 rfl) ?_
                                    refine lv_iload hx hb dX1_isSame_366 (lv_at hl 9 rfl) ?_
                                    refine kx_X0_purseOf hC mM_X1_136 hK hP hl.1 ⟨Nat.le_of_ble_eq_true rfl, Nat.le_of_ble_eq_true rfl⟩ ⟨(by show _ ≤ 900; omega), (by show _ ≤ 19400; omega)⟩ (Nat.le_of_ble_eq_true rfl) rfl (by first | assumption | omega) (by first | assumption | omega) dX1_isSame_368 ?_
                                    refine lv_aload hx hb dX1_isSame_371 (lv_at hl 10 rfl) ?_
                                    refine lv_iconst (v := 2) hx hb dX1_isSame_373 (by decide) ?_
                                    refine ql_pu i hC hK hP (by first | assumption | omega) rfl dX1_isSame_374 ?_
                                    refine lv_icmp_ne (tgt := 461) hx hb dX1_isSame_375 (by decide) (fun c_375 => ?_) (fun c_375 => ?_)
                                    · exact absurd rfl c_375
                                    · refine lv_aload_n hx hb dX1_isSame_378 rfl (lv_at hl 1 rfl) ?_
                                      refine lv_iload hx hb dX1_isSame_379 (lv_at hl 9 rfl) ?_
                                      refine kx_X0_fatesOf hC mM_X1_139 hK hP hl.1 ⟨Nat.le_of_ble_eq_true rfl, Nat.le_of_ble_eq_true rfl⟩ ⟨(by show _ ≤ 900; omega), (by show _ ≤ 19400; omega)⟩ (Nat.le_of_ble_eq_true rfl) rfl (by first | assumption | omega) (by first | assumption | omega) dX1_isSame_381 ?_
                                      refine lv_aload hx hb dX1_isSame_384 (lv_at hl 10 rfl) ?_
                                      refine lv_iconst (v := 3) hx hb dX1_isSame_386 (by decide) ?_
                                      refine ql_fa i hC hK hP (by first | assumption | omega) rfl dX1_isSame_387 ?_
                                      refine lv_icmp_ne (tgt := 461) hx hb dX1_isSame_388 (by decide) (fun c_388 => ?_) (fun c_388 => ?_)
                                      · exact absurd rfl c_388
                                      · refine lv_aload_n hx hb dX1_isSame_391 rfl (lv_at hl 1 rfl) ?_
                                        refine lv_iload hx hb dX1_isSame_392 (lv_at hl 9 rfl) ?_
                                        refine kx_X0_heirOf hC mM_X1_142 hK hP hl.1 ⟨Nat.le_of_ble_eq_true rfl, Nat.le_of_ble_eq_true rfl⟩ ⟨(by show _ ≤ 900; omega), (by show _ ≤ 19400; omega)⟩ (Nat.le_of_ble_eq_true rfl) rfl (by first | assumption | omega) (by first | assumption | omega) dX1_isSame_394 ?_
                                        refine lv_aload hx hb dX1_isSame_397 (lv_at hl 10 rfl) ?_
                                        refine lv_iconst (v := 4) hx hb dX1_isSame_399 (by decide) ?_
                                        refine ql_he i hC hK hP (by first | assumption | omega) rfl dX1_isSame_400 ?_
                                        refine lv_icmp_ne (tgt := 461) hx hb dX1_isSame_401 (by decide) (fun c_401 => ?_) (fun c_401 => ?_)
                                        · exact absurd rfl c_401
                                        · refine lv_aload_n hx hb dX1_isSame_404 rfl (lv_at hl 1 rfl) ?_
                                          refine lv_iload hx hb dX1_isSame_405 (lv_at hl 9 rfl) ?_
                                          refine kx_X0_lastHeirOf hC mM_X1_145 hK hP hl.1 ⟨Nat.le_of_ble_eq_true rfl, Nat.le_of_ble_eq_true rfl⟩ ⟨(by show _ ≤ 900; omega), (by show _ ≤ 19400; omega)⟩ (Nat.le_of_ble_eq_true rfl) rfl (by first | assumption | omega) (by first | assumption | omega) dX1_isSame_407 ?_
                                          refine lv_aload_n hx hb dX1_isSame_410 rfl (lv_at hl 0 rfl) ?_
                                          refine lv_iload hx hb dX1_isSame_411 (lv_at hl 9 rfl) ?_
                                          refine k_X1_lastHeir (i := i) hC mM_X1_53 hK hG hP hD hS hA hl.1 ⟨Nat.le_of_ble_eq_true rfl, Nat.le_of_ble_eq_true rfl⟩ ⟨(by show _ ≤ 900; omega), (by show _ ≤ 19400; omega)⟩ (Nat.le_of_ble_eq_true rfl) nc_264 hn hH h01 dX1_isSame_413 (fun H locs hP hD hS => ?_)
                                          refine lv_icmp_ne (tgt := 461) hx hb dX1_isSame_416 (by decide) (fun c_416 => ?_) (fun c_416 => ?_)
                                          · exact absurd rfl c_416
                                          · refine lv_aload_n hx hb dX1_isSame_419 rfl (lv_at hl 1 rfl) ?_
                                            refine lv_iload hx hb dX1_isSame_420 (lv_at hl 9 rfl) ?_
                                            refine kx_X0_priceFor hC mM_X1_148 hK hP hl.1 ⟨Nat.le_of_ble_eq_true rfl, Nat.le_of_ble_eq_true rfl⟩ ⟨(by show _ ≤ 900; omega), (by show _ ≤ 19400; omega)⟩ (Nat.le_of_ble_eq_true rfl) rfl (by first | assumption | omega) (by first | assumption | omega) dX1_isSame_422 ?_
                                            refine lv_aload hx hb dX1_isSame_425 (lv_at hl 10 rfl) ?_
                                            refine k_X1_price hC mM_X1_25 hK hG hP (wj_rt (X := ((q98, .inl (z.1, n, .inl g2)) :: (q93, .inl (z.1, n, .inl g1)) :: F)) (qW_p (by first | assumption | omega))) hl.1 ⟨Nat.le_of_ble_eq_true rfl, Nat.le_of_ble_eq_true rfl⟩ ⟨(by show _ ≤ 900; omega), (by show _ ≤ 19400; omega)⟩ (Nat.le_of_ble_eq_true rfl) dX1_isSame_427 ?_
                                            refine lv_icmp_ne (tgt := 461) hx hb dX1_isSame_430 (by decide) (fun c_430 => ?_) (fun c_430 => ?_)
                                            · exact absurd rfl c_430
                                            · refine lv_aload_n hx hb dX1_isSame_433 rfl (lv_at hl 1 rfl) ?_
                                              refine lv_iload hx hb dX1_isSame_434 (lv_at hl 9 rfl) ?_
                                              refine kx_X0_missesOf hC mM_X1_151 hK hP hl.1 ⟨Nat.le_of_ble_eq_true rfl, Nat.le_of_ble_eq_true rfl⟩ ⟨(by show _ ≤ 900; omega), (by show _ ≤ 19400; omega)⟩ (Nat.le_of_ble_eq_true rfl) rfl (by first | assumption | omega) (by first | assumption | omega) (by first | assumption | omega) dX1_isSame_436 ?_
                                              refine lv_aload hx hb dX1_isSame_439 (lv_at hl 6 rfl) ?_
                                              refine lv_iload hx hb dX1_isSame_441 (lv_at hl 9 rfl) ?_
                                              refine qi_ld (q0 := 1) (L := n) (g := g1) i hC hK hP rfl rfl (by omega) (by omega) dX1_isSame_443 ?_
                                              refine lv_icmp_ne (tgt := 461) hx hb dX1_isSame_444 (by decide) (fun c_444 => ?_) (fun c_444 => ?_)
                                              · exact absurd (hg1 i nc_264).symm c_444
                                              · refine lv_aload_n hx hb dX1_isSame_447 rfl (lv_at hl 1 rfl) ?_
                                                refine lv_iload hx hb dX1_isSame_448 (lv_at hl 9 rfl) ?_
                                                refine kx_X0_closestOf hC mM_X1_154 hK hP hl.1 ⟨Nat.le_of_ble_eq_true rfl, Nat.le_of_ble_eq_true rfl⟩ ⟨(by show _ ≤ 900; omega), (by show _ ≤ 19400; omega)⟩ (Nat.le_of_ble_eq_true rfl) rfl (by first | assumption | omega) (by first | assumption | omega) (by first | assumption | omega) dX1_isSame_450 ?_
                                                refine lv_aload hx hb dX1_isSame_453 (lv_at hl 7 rfl) ?_
                                                refine lv_iload hx hb dX1_isSame_455 (lv_at hl 9 rfl) ?_
                                                refine qi_ld (q0 := 0) (L := n) (g := g2) i hC hK hP rfl rfl (by omega) (by omega) dX1_isSame_457 ?_
                                                refine lv_icmp_eq (tgt := 463) hx hb dX1_isSame_458 (by decide) (fun c_458 => ?_) (fun c_458 => ?_)
                                                · refine lv_iinc (v := nI (i + 1)) (lv' := [(9, .int (nI (i + 1))), (0, .ref (b 0)), (1, .ref (a 0)), (2, .int (nI n)), (3, .int (x3 + (lv i))), (4, .int (x4 + ((lv i) * (lk i)))), (5, .int y5), (6, .ref q93), (7, .ref q98), (8, .int x8), (10, .ref (rp i))]) hx hb dX1_isSame_463 hl (k := 9) rfl (nI_1 _) (by decide) rfl (fun ls hl => ?_)
                                                  refine lv_goto (tgt := 261) hx hb dX1_isSame_466 (by decide) ?_
                                                  exact ih261 (i + 1) (x3 + lv i) (x4 + lv i * lk i) y5 (by omega) (by omega) (cnt_step (h01 i nc_264) ex3) (sum_step (h01 i nc_264) ex4) ey5 _ _ _ _ hP hD hS (by omega) (by omega) _ (lv_sub hl [1, 2, 3, 4, 5, 6, 7, 8, 9, 0] rfl)
                                                · exact absurd (hg2 i nc_264).symm c_458
                            refine lv_aload hx hb dX1_isSame_297 (lv_at hl 2 rfl) ?_
                            refine lv_iconst (v := 0) hx hb dX1_isSame_299 (by decide) ?_
                            refine ql_lv i hC hK hP (by first | assumption | omega) nI_0.symm dX1_isSame_300 ?_
                            refine lv_iconst (v := 1) hx hb dX1_isSame_301 (by decide) ?_
                            refine lv_icmp_ne (tgt := 330) hx hb dX1_isSame_302 (by decide) (fun c_302 => ?_) (fun c_302 => ?_)
                            · exact tail_330 x5 (best_skip (h01 i nc_264) c_302 ex5) _ (lv_sub hl [3, 4, 5, 1, 0, 6, 7, 8, 9, 10, 2] rfl)
                            · refine lv_iload hx hb dX1_isSame_305 (lv_at hl 6 rfl) ?_
                              refine lv_if_lt (tgt := 326) hx hb dX1_isSame_307 (by decide) (fun c_307 => ?_) (fun c_307 => ?_)
                              · refine lv_iload hx hb dX1_isSame_326 (lv_at hl 10 rfl) ?_
                                refine lv_istore (lv' := [(5, .int (nI i)), (4, .int (x4 + ((lv i) * (lk i)))), (3, .int (x3 + (lv i))), (10, .ref (rp i)), (0, .ref (b 0)), (1, .ref (a 0)), (2, .int (nI n)), (6, .ref q93), (7, .ref q98), (8, .int x8), (9, .int (nI i))]) hx hb dX1_isSame_328 hl (by decide) rfl (fun ls hl => ?_)
                                exact tail_330 (nI i) (best_none hlk (by decide) (by omega) nc_264 c_302 c_307 ex5) _ (lv_sub hl [4, 5, 6, 2, 1, 0, 7, 8, 9, 10, 3] rfl)
                              · obtain ⟨yb, hyb, eb5, hb2⟩ := best_some hlk (by decide) nc_264 c_307 ex5
                                have hybn : yb < n := by omega
                                refine lv_aload hx hb dX1_isSame_310 (lv_at hl 2 rfl) ?_
                                refine lv_iconst (v := 1) hx hb dX1_isSame_312 (by decide) ?_
                                refine ql_lk i hC hK hP (by first | assumption | omega) rfl dX1_isSame_313 ?_
                                refine lv_aload_n hx hb dX1_isSame_314 rfl (lv_at hl 3 rfl) ?_
                                refine qg_ps hC hK hP mF_X1_9 dX1_isSame_315 ?_
                                refine lv_iload hx hb dX1_isSame_318 (lv_at hl 6 rfl) ?_
                                refine qr_p yb hC hK hP hG eb5 (by first | assumption | omega) (by omega) dX1_isSame_320 ?_
                                refine lv_iconst (v := 1) hx hb dX1_isSame_321 (by decide) ?_
                                refine ql_lk yb hC hK hP (by first | assumption | omega) rfl dX1_isSame_322 ?_
                                refine lv_icmp_le (tgt := 330) hx hb dX1_isSame_323 (by decide) (fun c_323 => ?_) (fun c_323 => ?_)
                                · exact tail_330 x5 (best_keep c_302 hb2 c_323 ex5) _ (lv_sub hl [3, 4, 5, 1, 0, 6, 7, 8, 9, 10, 2] rfl)
                                · refine lv_iload hx hb dX1_isSame_326 (lv_at hl 10 rfl) ?_
                                  refine lv_istore (lv' := [(5, .int (nI i)), (4, .int (x4 + ((lv i) * (lk i)))), (3, .int (x3 + (lv i))), (10, .ref (rp i)), (0, .ref (b 0)), (1, .ref (a 0)), (2, .int (nI n)), (6, .ref q93), (7, .ref q98), (8, .int x8), (9, .int (nI i))]) hx hb dX1_isSame_328 hl (by decide) rfl (fun ls hl => ?_)
                                  exact tail_330 (nI i) (best_new c_302 hb2 c_323) _ (lv_sub hl [4, 5, 6, 2, 1, 0, 7, 8, 9, 10, 3] rfl)
                      exact loop_261 (n + 1) 0 0 0 (-1) (Nat.zero_le _) (by omega) rfl rfl rfl _ _ _ _ hP hD hS (by omega) (by omega) _ (lv_sub hl [1, 2, 3, 4, 5, 6, 7, 8, 9, 0] rfl)
                    · have nc_115 : j < k := nn_nle (by omega) c_115
                      obtain ⟨y, hy, ey⟩ := hmp j (by omega)
                      obtain ⟨zi, hzi, ezi⟩ := hmi j (by omega)
                      refine lv_aload_n hx hb dX1_isSame_118 rfl (lv_at hl 0 rfl) ?_
                      refine qg_ms hC hK hP mF_X1_18 dX1_isSame_119 ?_
                      refine lv_iload hx hb dX1_isSame_122 (lv_at hl 9 rfl) ?_
                      refine qr_m j hC hK hP hG rfl (by first | assumption | omega) (by omega) dX1_isSame_124 ?_
                      refine lv_astore (lv' := [(10, .ref (rm j)), (0, .ref (b 0)), (1, .ref (a 0)), (2, .int (nI n)), (3, .int 0), (4, .int 0), (5, .int (-1)), (6, .ref q93), (7, .ref q98), (8, .int x8), (9, .int (nI j))]) hx hb dX1_isSame_125 hl (by decide) rfl (fun ls hl => ?_)
                      refine lv_aload hx hb dX1_isSame_127 (lv_at hl 7 rfl) ?_
                      refine lv_aload hx hb dX1_isSame_129 (lv_at hl 0 rfl) ?_
                      refine lv_iconst (v := 0) hx hb dX1_isSame_131 (by decide) ?_
                      refine ql_mp j hC hK hP (by first | assumption | omega) nI_0.symm dX1_isSame_132 ?_
                      refine lv_dup2_11 hx hb dX1_isSame_133 rfl rfl ?_
                      refine qi_ld (q0 := 1) (L := n) (g := g1) y hC hK hP rfl ey (by omega) (by omega) dX1_isSame_134 ?_
                      refine lv_iconst (v := 1) hx hb dX1_isSame_135 (by decide) ?_
                      refine lv_iadd hx hb dX1_isSame_136 ?_
                      refine qi_st (q0 := 1) (L := n) (g := g1) y hC hK hP hD hS rfl ey (by omega) (by omega) dX1_isSame_137 (fun H locs hP hD hS => ?_)
                      have hP : va_P D vwCl (((q98, .inl (z.1, n, .inl g2)) :: (q93, .inl (z.1, n, .inl (upd g1 y ((g1 y) + 1)))) :: F) ++ (qW z cG b rp rw rm lv lk pu fa he n nv du w mp mi k nt fu re ++ xW z a lv lk pu fa he n nv du ta w mp mi k nt fu re)) H := hP
                      have hD : va_D A (((q98, .inl (z.1, n, .inl g2)) :: (q93, .inl (z.1, n, .inl (upd g1 y ((g1 y) + 1)))) :: F) ++ (qW z cG b rp rw rm lv lk pu fa he n nv du w mp mi k nt fu re ++ xW z a lv lk pu fa he n nv du ta w mp mi k nt fu re)) := hD
                      have hg1n := many_step hn hy ey hg1
                      have tail_197 : ∀ (g3 : Nat → Int32) (y8 : Int32), (∀ t, t < n → g3 t = sp_close mp mi (nI t) (j + 1)) → y8 = sp_cert mi (j + 1) → ∀ (H : Heap) (locs : List Loc), va_P D vwCl (((q98, .inl (z.1, n, .inl g3)) :: (q93, .inl (z.1, n, .inl (upd g1 y ((g1 y) + 1)))) :: F) ++ (qW z cG b rp rw rm lv lk pu fa he n nv du w mp mi k nt fu re ++ xW z a lv lk pu fa he n nv du ta w mp mi k nt fu re)) H → va_D A (((q98, .inl (z.1, n, .inl g3)) :: (q93, .inl (z.1, n, .inl (upd g1 y ((g1 y) + 1)))) :: F) ++ (qW z cG b rp rw rm lv lk pu fa he n nv du w mp mi k nt fu re ++ xW z a lv lk pu fa he n nv du ta w mp mi k nt fu re)) → va_S A s.heap H locs → ∀ ls : Array Slot, lv_has ls 12 [(0, .ref (b 0)), (1, .ref (a 0)), (2, .int (nI n)), (3, .int 0), (4, .int 0), (5, .int (-1)), (6, .ref q93), (7, .ref q98), (8, .int y8), (9, .int (nI j)), (10, .ref (rm j))] → W p l e ({ frames := 7, cells := 900, slots := 19400, locals := 158 } : Room) s m ([.ref (b 0), .ref (a 0)] : List Value).toArray below meth c H locs (cells) (slots) (MQ below (va_Qi (fun (r : Int32) (u : Unit) => r = 1) (fun u t9 => True) A) ([.ref (b 0), .ref (a 0)] : List Value).toArray s 900 19400 A) (F0 m 197 ls []) := by
                        intro g3 y8 hg3 ey8 H locs hP hD hS ls hl
                        refine lv_aload_n hx hb dX1_isSame_197 rfl (lv_at hl 1 rfl) ?_
                        refine lv_iload hx hb dX1_isSame_198 (lv_at hl 9 rfl) ?_
                        refine kx_X0_personOf hC mM_X1_117 hK hP hl.1 ⟨Nat.le_of_ble_eq_true rfl, Nat.le_of_ble_eq_true rfl⟩ ⟨(by show _ ≤ 900; omega), (by show _ ≤ 19400; omega)⟩ (Nat.le_of_ble_eq_true rfl) rfl (by first | assumption | omega) (by first | assumption | omega) dX1_isSame_200 ?_
                        refine lv_aload hx hb dX1_isSame_203 (lv_at hl 10 rfl) ?_
                        refine lv_iconst (v := 0) hx hb dX1_isSame_205 (by decide) ?_
                        refine ql_mp j hC hK hP (by first | assumption | omega) nI_0.symm dX1_isSame_206 ?_
                        refine lv_icmp_ne (tgt := 250) hx hb dX1_isSame_207 (by decide) (fun c_207 => ?_) (fun c_207 => ?_)
                        · exact absurd rfl c_207
                        · refine lv_aload_n hx hb dX1_isSame_210 rfl (lv_at hl 1 rfl) ?_
                          refine lv_iload hx hb dX1_isSame_211 (lv_at hl 9 rfl) ?_
                          refine kx_X0_inchesOf hC mM_X1_120 hK hP hl.1 ⟨Nat.le_of_ble_eq_true rfl, Nat.le_of_ble_eq_true rfl⟩ ⟨(by show _ ≤ 900; omega), (by show _ ≤ 19400; omega)⟩ (Nat.le_of_ble_eq_true rfl) rfl (by first | assumption | omega) (by first | assumption | omega) dX1_isSame_213 ?_
                          refine lv_aload hx hb dX1_isSame_216 (lv_at hl 10 rfl) ?_
                          refine lv_iconst (v := 1) hx hb dX1_isSame_218 (by decide) ?_
                          refine ql_mi j hC hK hP (by first | assumption | omega) rfl dX1_isSame_219 ?_
                          refine lv_icmp_ne (tgt := 250) hx hb dX1_isSame_220 (by decide) (fun c_220 => ?_) (fun c_220 => ?_)
                          · exact absurd rfl c_220
                          · refine lv_iload hx hb dX1_isSame_223 (lv_at hl 9 rfl) ?_
                            refine lv_iconst (v := 4) hx hb dX1_isSame_225 (by decide) ?_
                            refine lv_irem hx hb dX1_isSame_226 (by decide) ?_
                            refine lv_aload_n hx hb dX1_isSame_227 rfl (lv_at hl 0 rfl) ?_
                            refine qg_nt hC hK hP mF_X1_59 dX1_isSame_228 ?_
                            refine lv_iconst (v := 4) hx hb dX1_isSame_231 (by decide) ?_
                            refine lv_irem hx hb dX1_isSame_232 (by decide) ?_
                            refine lv_icmp_ne (tgt := 252) hx hb dX1_isSame_233 (by decide) (fun c_233 => ?_) (fun c_233 => ?_)
                            · refine lv_iinc (v := nI (j + 1)) (lv' := [(9, .int (nI (j + 1))), (0, .ref (b 0)), (1, .ref (a 0)), (2, .int (nI n)), (3, .int 0), (4, .int 0), (5, .int (-1)), (6, .ref q93), (7, .ref q98), (8, .int y8), (10, .ref (rm j))]) hx hb dX1_isSame_252 hl (k := 9) rfl (nI_1 _) (by decide) rfl (fun ls hl => ?_)
                              refine lv_goto (tgt := 108) hx hb dX1_isSame_255 (by decide) ?_
                              exact ih108 (j + 1) (upd g1 y (g1 y + 1)) g3 y8 (by omega) (by omega) hg1n hg3 ey8 _ _ _ _ hP hD hS (by omega) (by omega) _ (lv_sub hl [1, 2, 3, 4, 5, 6, 7, 8, 9, 0] rfl)
                            · refine lv_aload_n hx hb dX1_isSame_236 rfl (lv_at hl 1 rfl) ?_
                              refine lv_iload hx hb dX1_isSame_237 (lv_at hl 9 rfl) ?_
                              refine kx_X0_sealOf hC mM_X1_123 hK hP (hE.at hS) hl.1 ⟨Nat.le_of_ble_eq_true rfl, Nat.le_of_ble_eq_true rfl⟩ ⟨(by show _ ≤ 900; omega), (by show _ ≤ 19400; omega)⟩ (Nat.le_of_ble_eq_true rfl) rfl (by first | assumption | omega) (by first | assumption | omega) dX1_isSame_239 ?_
                              refine lv_aload hx hb dX1_isSame_242 (lv_at hl 10 rfl) ?_
                              refine k_X1_seal hC mM_X1_126 hK hG hP hD hS hA (hE.kept hS.2.1) (hJ.kept hS.2.1) hl.1 ⟨Nat.le_of_ble_eq_true rfl, Nat.le_of_ble_eq_true rfl⟩ ⟨(by show _ ≤ 900; omega), (by show _ ≤ 19400; omega)⟩ (Nat.le_of_ble_eq_true rfl) (wj_rt (X := ((q98, .inl (z.1, n, .inl g3)) :: (q93, .inl (z.1, n, .inl (upd g1 y ((g1 y) + 1)))) :: F)) (qW_m (show j < k by omega))) (x := y) (y := zi) (by omega) (by omega) (show wrow mp mi j 0 = nI y from ey) (show wrow mp mi j 1 = nI zi from ezi) dX1_isSame_244 (fun H locs hP hD hS => ?_)
                              have hP : va_P D vwCl (((q98, .inl (z.1, n, .inl g3)) :: (q93, .inl (z.1, n, .inl (upd g1 y ((g1 y) + 1)))) :: F) ++ (qW z cG b rp rw rm lv lk pu fa he n nv du w mp mi k nt fu re ++ xW z a lv lk pu fa he n nv du ta w mp mi k nt fu re)) H := hP
                              have hD : va_D A (((q98, .inl (z.1, n, .inl g3)) :: (q93, .inl (z.1, n, .inl (upd g1 y ((g1 y) + 1)))) :: F) ++ (qW z cG b rp rw rm lv lk pu fa he n nv du w mp mi k nt fu re ++ xW z a lv lk pu fa he n nv du ta w mp mi k nt fu re)) := hD
                              refine lv_icmp_eq (tgt := 252) hx hb dX1_isSame_247 (by decide) (fun c_247 => ?_) (fun c_247 => ?_)
                              · refine lv_iinc (v := nI (j + 1)) (lv' := [(9, .int (nI (j + 1))), (0, .ref (b 0)), (1, .ref (a 0)), (2, .int (nI n)), (3, .int 0), (4, .int 0), (5, .int (-1)), (6, .ref q93), (7, .ref q98), (8, .int y8), (10, .ref (rm j))]) hx hb dX1_isSame_252 hl (k := 9) rfl (nI_1 _) (by decide) rfl (fun ls hl => ?_)
                                refine lv_goto (tgt := 108) hx hb dX1_isSame_255 (by decide) ?_
                                exact ih108 (j + 1) (upd g1 y (g1 y + 1)) g3 y8 (by omega) (by omega) hg1n hg3 ey8 _ _ _ _ hP hD hS (by omega) (by omega) _ (lv_sub hl [1, 2, 3, 4, 5, 6, 7, 8, 9, 0] rfl)
                              · exact absurd (by rw [ey, ezi]) c_247
                      refine lv_iload hx hb dX1_isSame_138 (lv_at hl 9 rfl) ?_
                      refine lv_aload hx hb dX1_isSame_140 (lv_at hl 0 rfl) ?_
                      refine lv_iconst (v := 1) hx hb dX1_isSame_142 (by decide) ?_
                      refine ql_mi j hC hK hP (by first | assumption | omega) rfl dX1_isSame_143 ?_
                      refine lv_if_le (tgt := 151) hx hb dX1_isSame_144 (by decide) (fun c_144 => ?_) (fun c_144 => ?_)
                      · refine lv_iconst (v := 0) hx hb dX1_isSame_151 (by decide) ?_
                        refine lv_iadd hx hb dX1_isSame_152 ?_
                        refine lv_istore (lv' := [(8, .int (x8 + 0)), (10, .ref (rm j)), (0, .ref (b 0)), (1, .ref (a 0)), (2, .int (nI n)), (3, .int 0), (4, .int 0), (5, .int (-1)), (6, .ref q93), (7, .ref q98), (9, .int (nI j))]) hx hb dX1_isSame_153 hl (by decide) rfl (fun ls hl => ?_)
                        refine lv_aload hx hb dX1_isSame_155 (lv_at hl 1 rfl) ?_
                        refine lv_iconst (v := 1) hx hb dX1_isSame_157 (by decide) ?_
                        refine ql_mi j hC hK hP (by first | assumption | omega) rfl dX1_isSame_158 ?_
                        refine lv_if_le (tgt := 197) hx hb dX1_isSame_159 (by decide) (fun c_159 => ?_) (fun c_159 => ?_)
                        · exact tail_197 g2 (x8 + 0) (close_0 c_159 hg2) (cert_0 c_144 ex8) _ _ hP hD hS _ (lv_sub hl [2, 3, 4, 5, 6, 7, 8, 9, 0, 10, 1] rfl)
                        · exact absurd c_144 c_159
                      · refine lv_iconst (v := 1) hx hb dX1_isSame_147 (by decide) ?_
                        refine lv_goto (tgt := 152) hx hb dX1_isSame_148 (by decide) ?_
                        refine lv_iadd hx hb dX1_isSame_152 ?_
                        refine lv_istore (lv' := [(8, .int (x8 + 1)), (10, .ref (rm j)), (0, .ref (b 0)), (1, .ref (a 0)), (2, .int (nI n)), (3, .int 0), (4, .int 0), (5, .int (-1)), (6, .ref q93), (7, .ref q98), (9, .int (nI j))]) hx hb dX1_isSame_153 hl (by decide) rfl (fun ls hl => ?_)
                        refine lv_aload hx hb dX1_isSame_155 (lv_at hl 1 rfl) ?_
                        refine lv_iconst (v := 1) hx hb dX1_isSame_157 (by decide) ?_
                        refine ql_mi j hC hK hP (by first | assumption | omega) rfl dX1_isSame_158 ?_
                        refine lv_if_le (tgt := 197) hx hb dX1_isSame_159 (by decide) (fun c_159 => ?_) (fun c_159 => ?_)
                        · exact absurd c_159 c_144
                        · refine lv_aload hx hb dX1_isSame_162 (lv_at hl 9 rfl) ?_
                          refine lv_aload hx hb dX1_isSame_164 (lv_at hl 1 rfl) ?_
                          refine lv_iconst (v := 0) hx hb dX1_isSame_166 (by decide) ?_
                          refine ql_mp j hC hK hP (by first | assumption | omega) nI_0.symm dX1_isSame_167 ?_
                          refine qi_ld (q0 := 0) (L := n) (g := g2) y hC hK hP rfl ey (by omega) (by omega) dX1_isSame_168 ?_
                          refine lv_if_eq (tgt := 186) hx hb dX1_isSame_169 (by decide) (fun c_169 => ?_) (fun c_169 => ?_)
                          · refine lv_aload hx hb dX1_isSame_186 (lv_at hl 9 rfl) ?_
                            refine lv_aload hx hb dX1_isSame_188 (lv_at hl 1 rfl) ?_
                            refine lv_iconst (v := 0) hx hb dX1_isSame_190 (by decide) ?_
                            refine ql_mp j hC hK hP (by first | assumption | omega) nI_0.symm dX1_isSame_191 ?_
                            refine lv_aload hx hb dX1_isSame_192 (lv_at hl 1 rfl) ?_
                            refine lv_iconst (v := 1) hx hb dX1_isSame_194 (by decide) ?_
                            refine ql_mi j hC hK hP (by first | assumption | omega) rfl dX1_isSame_195 ?_
                            refine qi_st (q0 := 0) (L := n) (g := g2) y hC hK hP hD hS rfl ey (by omega) (by omega) dX1_isSame_196 (fun H locs hP hD hS => ?_)
                            have hP : va_P D vwCl (((q98, .inl (z.1, n, .inl (upd g2 y (mi j)))) :: (q93, .inl (z.1, n, .inl (upd g1 y ((g1 y) + 1)))) :: F) ++ (qW z cG b rp rw rm lv lk pu fa he n nv du w mp mi k nt fu re ++ xW z a lv lk pu fa he n nv du ta w mp mi k nt fu re)) H := hP
                            have hD : va_D A (((q98, .inl (z.1, n, .inl (upd g2 y (mi j)))) :: (q93, .inl (z.1, n, .inl (upd g1 y ((g1 y) + 1)))) :: F) ++ (qW z cG b rp rw rm lv lk pu fa he n nv du w mp mi k nt fu re ++ xW z a lv lk pu fa he n nv du ta w mp mi k nt fu re)) := hD
                            exact tail_197 (upd g2 y (mi j)) (x8 + 1) (close_s hn hy ey c_159 (Or.inl c_169) hg2) (cert_1 c_144 ex8) _ _ hP hD hS _ (lv_sub hl [2, 3, 4, 5, 6, 7, 8, 9, 0, 10, 1] rfl)
                          · refine lv_aload hx hb dX1_isSame_172 (lv_at hl 1 rfl) ?_
                            refine lv_iconst (v := 1) hx hb dX1_isSame_174 (by decide) ?_
                            refine ql_mi j hC hK hP (by first | assumption | omega) rfl dX1_isSame_175 ?_
                            refine lv_aload hx hb dX1_isSame_176 (lv_at hl 9 rfl) ?_
                            refine lv_aload hx hb dX1_isSame_178 (lv_at hl 1 rfl) ?_
                            refine lv_iconst (v := 0) hx hb dX1_isSame_180 (by decide) ?_
                            refine ql_mp j hC hK hP (by first | assumption | omega) nI_0.symm dX1_isSame_181 ?_
                            refine qi_ld (q0 := 0) (L := n) (g := g2) y hC hK hP rfl ey (by omega) (by omega) dX1_isSame_182 ?_
                            refine lv_icmp_ge (tgt := 197) hx hb dX1_isSame_183 (by decide) (fun c_183 => ?_) (fun c_183 => ?_)
                            · exact tail_197 g2 (x8 + 1) (close_k hn hy ey c_159 c_169 c_183 hg2) (cert_1 c_144 ex8) _ _ hP hD hS _ (lv_sub hl [2, 3, 4, 5, 6, 7, 8, 9, 0, 10, 1] rfl)
                            · refine lv_aload hx hb dX1_isSame_186 (lv_at hl 9 rfl) ?_
                              refine lv_aload hx hb dX1_isSame_188 (lv_at hl 1 rfl) ?_
                              refine lv_iconst (v := 0) hx hb dX1_isSame_190 (by decide) ?_
                              refine ql_mp j hC hK hP (by first | assumption | omega) nI_0.symm dX1_isSame_191 ?_
                              refine lv_aload hx hb dX1_isSame_192 (lv_at hl 1 rfl) ?_
                              refine lv_iconst (v := 1) hx hb dX1_isSame_194 (by decide) ?_
                              refine ql_mi j hC hK hP (by first | assumption | omega) rfl dX1_isSame_195 ?_
                              refine qi_st (q0 := 0) (L := n) (g := g2) y hC hK hP hD hS rfl ey (by omega) (by omega) dX1_isSame_196 (fun H locs hP hD hS => ?_)
                              have hP : va_P D vwCl (((q98, .inl (z.1, n, .inl (upd g2 y (mi j)))) :: (q93, .inl (z.1, n, .inl (upd g1 y ((g1 y) + 1)))) :: F) ++ (qW z cG b rp rw rm lv lk pu fa he n nv du w mp mi k nt fu re ++ xW z a lv lk pu fa he n nv du ta w mp mi k nt fu re)) H := hP
                              have hD : va_D A (((q98, .inl (z.1, n, .inl (upd g2 y (mi j)))) :: (q93, .inl (z.1, n, .inl (upd g1 y ((g1 y) + 1)))) :: F) ++ (qW z cG b rp rw rm lv lk pu fa he n nv du w mp mi k nt fu re ++ xW z a lv lk pu fa he n nv du ta w mp mi k nt fu re)) := hD
                              exact tail_197 (upd g2 y (mi j)) (x8 + 1) (close_s hn hy ey c_159 (Or.inr c_183) hg2) (cert_1 c_144 ex8) _ _ hP hD hS _ (lv_sub hl [2, 3, 4, 5, 6, 7, 8, 9, 0, 10, 1] rfl)
                exact loop_108 (k + 1) 0 (fun _ => 0) (fun _ => 0) 0 (Nat.zero_le _) (by omega) (fun _ _ => rfl) (fun _ _ => rfl) rfl _ _ _ _ hP hD hS (by omega) (by omega) _ (lv_sub hl [8, 9, 7, 6, 5, 4, 3, 2, 1, 0] rfl)
              · exact absurd rfl c_87

abbrev nw (s : State) : Nat → Prop := fun q => s.heap.size ≤ q
theorem cnt_0 {lv : Nat → Int32} {j : Nat} {x : Int32} (c : lv j = 0) (e : x = sp_cnt lv j) : x + 0 = sp_cnt lv (j + 1) := by
  simp only [sp_cnt]
  rw [if_pos c, ← e]
  exact Int32.add_zero _
theorem cnt_1 {lv : Nat → Int32} {j : Nat} {x : Int32} (c : ¬ lv j = 0) (e : x = sp_cnt lv j) : x + 1 = sp_cnt lv (j + 1) := by
  simp only [sp_cnt]
  rw [if_neg c, ← e]
theorem gn_st {gj lv : Nat → Int32} {n j : Nat} {v : Int32} (h : ∀ y, y < 10 → gj y = 0 ∨ (y < n ∧ lv y = 0)) (hj : j < n) (hv : v = 0 ∨ lv j = 0) : ∀ y, y < 10 → upd gj j v y = 0 ∨ (y < n ∧ lv y = 0) := by
  intro y hy
  by_cases q : y = j
  · rw [q, pk_us]
    exact hv.imp_right (fun h => ⟨hj, h⟩)
  · rw [pk_un q]; exact h y hy
theorem best_on {lv lk : Nat → Int32} {n j : Nat} (hlk : bN 99 lk n) (hn : n ≤ 10) (hj : j < n) (h : ¬ lv j = 0) : ∃ y, y < n ∧ (sp_best lv lk n).1 = nI y ∧ ∀ i, i < n → ¬ lv i = 0 → lk i ≤ lk y := by
  rcases best_is (al := lv) hlk (by decide) n (Nat.le_refl _) with ⟨g1, g2⟩ | ⟨y, hy, g2, g3, g4⟩
  · exact absurd (g2 j hj) h
  · exact ⟨y, hy, by rw [g3], g4⟩
theorem best_pos0 {lv lk : Nat → Int32} {n : Nat} (hlk : bN 99 lk n) (hn : n ≤ 10) (h : 0 ≤ (sp_best lv lk n).1) : ¬ sp_cnt lv n = 0 := by
  rcases best_cnt (lv := lv) hlk hn with ⟨h1, h2⟩ | ⟨y, -, h1, h2, -⟩
  · exact absurd h1 (Int32.not_lt.mpr h)
  · exact h2
theorem best_neg0 {lv lk : Nat → Int32} {n : Nat} (hlk : bN 99 lk n) (hn : n ≤ 10) (h : ¬ 0 ≤ (sp_best lv lk n).1) : sp_cnt lv n = 0 := by
  rcases best_cnt (lv := lv) hlk hn with ⟨h1, h2⟩ | ⟨y, hy, h1, h2, -⟩
  · exact h2
  · rw [h1] at h
    exact absurd (nI_le (a := 0) (b := y) (Nat.zero_le _) (by omega)) h
set_option maxHeartbeats 8000000 in
set_option maxRecDepth 100000 in
theorem lt_1 {p : Program} {l : Launch} {e : Env} {s : State} {m : MethodId} {below : List Frame} {meth : Method} {c : Code} {H : Heap} {locs : List Loc} {cells slots : Nat} {Q : State → Prop} {ls : Array Slot} {xb : Nat} {D : va_G} {z : ClassId × ClassId} {cG : ClassId} {q9 t9 : Nat → Nat} {a : Nat → Nat} {h q22 : Nat} {A : Nat → Prop} {g : Nat → Int32} {i : Nat} {v5 : Int32} {b : Nat → Nat} {rp : Nat → Nat} {rw : Nat → Nat} {rm : Nat → Nat} {lv : Nat → Int32} {lk : Nat → Int32} {pu : Nat → Int32} {fa : Nat → Int32} {he : Nat → Int32} {n : Nat} {nv : Nat → Int32} {du : Nat → Int32} {w : Nat} {mp : Nat → Int32} {mi : Nat → Int32} {k : Nat} {nt : Int32} {fu : Int32} {re : Int32} {ta : Nat → Int32} (hC : CallFix p m c cL_law 19 s #[.ref xb] lw_all RL) (hK : kK D z s) (hE : cH q9 t9 A s s.heap) (hA : ∀ q : Nat, s.heap.size ≤ q → A q) (hIV : IV lv lk pu fa he n nv du w mp mi k fu re) (hP : va_P D vwCl (((q22, .inl (z.2, 10, .inl g)) :: []) ++ (qW z cG b rp rw rm lv lk pu fa he n nv du w mp mi k nt fu re ++ xW z a lv lk pu fa he n nv du ta w mp mi k nt fu re)) H) (hD : va_D A (((q22, .inl (z.2, 10, .inl g)) :: []) ++ (qW z cG b rp rw rm lv lk pu fa he n nv du w mp mi k nt fu re ++ xW z a lv lk pu fa he n nv du ta w mp mi k nt fu re))) (hS : va_S A s.heap H locs) (hcl : cells ≤ 3000) (hsl : slots ≤ 100000) (hg : ∀ y, y < 10 → g y = 0 ∨ (y < n ∧ lv y = 0)) (hl : lv_has ls 19 [(0, .ref xb), (1, .ref (a 0)), (2, .ref h), (3, .ref q22), (4, .int (nI i)), (5, .int v5)]) (kk : ∀ (g1 : Nat → Int32) (H1 : Heap) (locs1 : List Loc) (ls1 : Array Slot), (∀ y, y < 10 → g1 y = 0 ∨ (y < n ∧ lv y = 0)) → va_P D vwCl (((q22, .inl (z.2, 10, .inl g1)) :: []) ++ (qW z cG b rp rw rm lv lk pu fa he n nv du w mp mi k nt fu re ++ xW z a lv lk pu fa he n nv du ta w mp mi k nt fu re)) H1 → va_D A (((q22, .inl (z.2, 10, .inl g1)) :: []) ++ (qW z cG b rp rw rm lv lk pu fa he n nv du w mp mi k nt fu re ++ xW z a lv lk pu fa he n nv du ta w mp mi k nt fu re)) → va_S A s.heap H1 locs1 → lv_has ls1 19 [(0, .ref xb), (1, .ref (a 0)), (2, .ref h), (3, .ref q22), (4, .int (nI i)), (5, .int v5), (6, .int (nI n)), (7, .int (nI w))] → W p l e room_1 s m #[.ref xb] below meth c H1 locs1 cells slots Q (F0 m 424 ls1 [])) : W p l e room_1 s m #[.ref xb] below meth c H locs cells slots Q (F0 m 73 ls []) := by
  have hx := hC.1
  have hb := hC.2.1
  have hml := hC.2.2.1
  have hown := hC.2.2.2.1
  have hts := hC.2.2.2.2
  obtain ⟨⟨hn, hw, hk6⟩, h01, hlk, hfa, hpu, hH, hdead, hnv, hdu, hmp, hmi, ⟨FF, hfu, hFF⟩, ⟨rr, hre, hrr⟩⟩ := id hIV
  refine lv_aload_n hx hb dL_law_73 rfl (lv_at hl 1 rfl) ?_
  refine kx_X0_persons hC mM_L_84 hK hP hl.1 ⟨Nat.le_of_ble_eq_true rfl, Nat.le_of_ble_eq_true rfl⟩ ⟨(by show _ ≤ 600172; omega), (by show _ ≤ 7300668; omega)⟩ (Nat.le_of_ble_eq_true rfl)   dL_law_74 ?_
  refine lv_istore (lv' := [(6, .int (nI n)), (0, .ref xb), (1, .ref (a 0)), (2, .ref h), (3, .ref q22), (4, .int (nI i)), (5, .int v5)]) hx hb dL_law_77 hl (by decide) rfl (fun ls hl => ?_)
  refine lv_aload_n hx hb dL_law_79 rfl (lv_at hl 2 rfl) ?_
  refine kx_X0_witnesses hC mM_L_87 hK hP hl.1 ⟨Nat.le_of_ble_eq_true rfl, Nat.le_of_ble_eq_true rfl⟩ ⟨(by show _ ≤ 600172; omega), (by show _ ≤ 7300668; omega)⟩ (Nat.le_of_ble_eq_true rfl)   dL_law_80 ?_
  refine lv_istore (lv' := [(7, .int (nI w)), (6, .int (nI n)), (0, .ref xb), (1, .ref (a 0)), (2, .ref h), (3, .ref q22), (4, .int (nI i)), (5, .int v5)]) hx hb dL_law_83 hl (by decide) rfl (fun ls hl => ?_)
  refine lv_aload_n hx hb dL_law_85 rfl (lv_at hl 3 rfl) ?_
  refine kx_X0_fund hC mM_L_89 hK hP hl.1 ⟨Nat.le_of_ble_eq_true rfl, Nat.le_of_ble_eq_true rfl⟩ ⟨(by show _ ≤ 600172; omega), (by show _ ≤ 7300668; omega)⟩ (Nat.le_of_ble_eq_true rfl)   dL_law_86 ?_
  refine lv_istore (lv' := [(8, .int fu), (7, .int (nI w)), (6, .int (nI n)), (0, .ref xb), (1, .ref (a 0)), (2, .ref h), (3, .ref q22), (4, .int (nI i)), (5, .int v5)]) hx hb dL_law_89 hl (by decide) rfl (fun ls hl => ?_)
  refine lv_iconst (v := 0) hx hb dL_law_91 (by decide) ?_
  refine lv_istore (lv' := [(9, .int 0), (8, .int fu), (7, .int (nI w)), (6, .int (nI n)), (0, .ref xb), (1, .ref (a 0)), (2, .ref h), (3, .ref q22), (4, .int (nI i)), (5, .int v5)]) hx hb dL_law_92 hl (by decide) rfl (fun ls hl => ?_)
  refine lv_iconst (v := 0) hx hb dL_law_94 (by decide) ?_
  refine lv_istore (lv' := [(10, .int 0), (9, .int 0), (8, .int fu), (7, .int (nI w)), (6, .int (nI n)), (0, .ref xb), (1, .ref (a 0)), (2, .ref h), (3, .ref q22), (4, .int (nI i)), (5, .int v5)]) hx hb dL_law_95 hl (by decide) rfl (fun ls hl => ?_)
  refine lv_iconst (v := 0) hx hb dL_law_97 (by decide) ?_
  refine lv_istore (lv' := [(11, .int 0), (10, .int 0), (9, .int 0), (8, .int fu), (7, .int (nI w)), (6, .int (nI n)), (0, .ref xb), (1, .ref (a 0)), (2, .ref h), (3, .ref q22), (4, .int (nI i)), (5, .int v5)]) hx hb dL_law_98 hl (by decide) rfl (fun ls hl => ?_)
  have loop_100 : ∀ (f : Nat) (j : Nat) (x8 : Int32) (x9 : Int32) (x10 : Int32) (gj : Nat → Int32), j ≤ n → n + 1 ≤ j + f → x8 = nI (FF + sn pu j) → x9 = sp_cnt lv j → x10 = sM mp k j → (∀ y, y < 10 → gj y = 0 ∨ (y < n ∧ lv y = 0)) → ∀ (H : Heap) (locs : List Loc), va_P D vwCl (((q22, .inl (z.2, 10, .inl gj)) :: []) ++ (qW z cG b rp rw rm lv lk pu fa he n nv du w mp mi k nt fu re ++ xW z a lv lk pu fa he n nv du ta w mp mi k nt fu re)) H → va_D A (((q22, .inl (z.2, 10, .inl gj)) :: []) ++ (qW z cG b rp rw rm lv lk pu fa he n nv du w mp mi k nt fu re ++ xW z a lv lk pu fa he n nv du ta w mp mi k nt fu re)) → va_S A s.heap H locs → ∀ ls : Array Slot, lv_has ls 19 [(0, .ref xb), (1, .ref (a 0)), (2, .ref h), (3, .ref q22), (4, .int (nI i)), (5, .int v5), (6, .int (nI n)), (7, .int (nI w)), (8, .int x8), (9, .int x9), (10, .int x10), (11, .int (nI j))] → W p l e room_1 s m #[.ref xb] below meth c H locs (cells) (slots) Q (F0 m 100 ls []) := by
    intro f
    induction f with
    | zero =>
      intro j x8 x9 x10 gj hj hf hx8 hx9 hx10 hgj
      exact absurd hf (by omega)
    | succ f ih100 =>
      intro j x8 x9 x10 gj hj hf hx8 hx9 hx10 hgj H locs hP hD hS ls hl
      refine lv_iload hx hb dL_law_100 (lv_at hl 11 rfl) ?_
      refine lv_iload hx hb dL_law_102 (lv_at hl 6 rfl) ?_
      refine lv_icmp_ge (tgt := 344) hx hb dL_law_104 (by decide) (fun c_104 => ?_) (fun c_104 => ?_)
      · have nc_104 : n ≤ j := nn_le (by omega) c_104
        have ej : j = n := by omega
        rw [ej] at hx8 hx9 hx10
        have e8 : x8 = nI (100 * n) := by rw [hx8, hFF]
        have e10 : x10 = nI k := by rw [hx10]; exact sM_all hn k hmp
        refine lv_iload hx hb dL_law_344 (lv_at hl 8 rfl) ?_
        refine lv_bipush (v := 100) hx hb dL_law_346 (by decide) ?_
        refine lv_iload hx hb dL_law_348 (lv_at hl 6 rfl) ?_
        refine lv_imul hx hb dL_law_350 ?_
        refine lv_icmp_ne (tgt := 422) hx hb dL_law_351 (by decide) (fun c_351 => ?_) (fun c_351 => ?_)
        · exact absurd (by rw [e8]; exact (pk_mul 100 n).symm) c_351
        · refine lv_iload hx hb dL_law_354 (lv_at hl 9 rfl) ?_
          refine lv_aload_n hx hb dL_law_356 rfl (lv_at hl 1 rfl) ?_
          refine kx_X0_alive hC mM_L_118 hK hP hl.1 ⟨Nat.le_of_ble_eq_true rfl, Nat.le_of_ble_eq_true rfl⟩ ⟨(by show _ ≤ 600172; omega), (by show _ ≤ 7300668; omega)⟩ (Nat.le_of_ble_eq_true rfl)  (by first | assumption | omega) dL_law_357 ?_
          refine lv_icmp_ne (tgt := 422) hx hb dL_law_360 (by decide) (fun c_360 => ?_) (fun c_360 => ?_)
          · exact absurd hx9 c_360
          · refine lv_iload hx hb dL_law_363 (lv_at hl 10 rfl) ?_
            refine lv_aload_n hx hb dL_law_365 rfl (lv_at hl 1 rfl) ?_
            refine kx_X0_misses hC mM_L_121 hK hP hl.1 ⟨Nat.le_of_ble_eq_true rfl, Nat.le_of_ble_eq_true rfl⟩ ⟨(by show _ ≤ 600172; omega), (by show _ ≤ 7300668; omega)⟩ (Nat.le_of_ble_eq_true rfl)   dL_law_366 ?_
            refine lv_icmp_ne (tgt := 422) hx hb dL_law_369 (by decide) (fun c_369 => ?_) (fun c_369 => ?_)
            · exact absurd e10 c_369
            · refine lv_aload_n hx hb dL_law_372 rfl (lv_at hl 1 rfl) ?_
              refine kx_X0_fund hC mM_L_89 hK hP hl.1 ⟨Nat.le_of_ble_eq_true rfl, Nat.le_of_ble_eq_true rfl⟩ ⟨(by show _ ≤ 600172; omega), (by show _ ≤ 7300668; omega)⟩ (Nat.le_of_ble_eq_true rfl)   dL_law_373 ?_
              refine lv_if_lt (tgt := 422) hx hb dL_law_376 (by decide) (fun c_376 => ?_) (fun c_376 => ?_)
              · exact absurd c_376 (by rw [hfu]; exact nI_pos (by omega))
              · refine lv_aload_n hx hb dL_law_379 rfl (lv_at hl 1 rfl) ?_
                refine kx_X0_refunded hC mM_L_123 hK hP hl.1 ⟨Nat.le_of_ble_eq_true rfl, Nat.le_of_ble_eq_true rfl⟩ ⟨(by show _ ≤ 600172; omega), (by show _ ≤ 7300668; omega)⟩ (Nat.le_of_ble_eq_true rfl)   dL_law_380 ?_
                refine lv_if_lt (tgt := 422) hx hb dL_law_383 (by decide) (fun c_383 => ?_) (fun c_383 => ?_)
                · exact absurd c_383 (by rw [hre]; exact nI_pos (by omega))
                · refine lv_aload_n hx hb dL_law_386 rfl (lv_at hl 1 rfl) ?_
                  refine kx_X0_certified hC mM_L_126 hK hP hl.1 ⟨Nat.le_of_ble_eq_true rfl, Nat.le_of_ble_eq_true rfl⟩ ⟨(by show _ ≤ 600172; omega), (by show _ ≤ 7300668; omega)⟩ (Nat.le_of_ble_eq_true rfl)  (by first | assumption | omega) dL_law_387 ?_
                  refine lv_aload_n hx hb dL_law_390 rfl (lv_at hl 1 rfl) ?_
                  refine kx_X0_misses hC mM_L_121 hK hP hl.1 ⟨Nat.le_of_ble_eq_true rfl, Nat.le_of_ble_eq_true rfl⟩ ⟨(by show _ ≤ 600172; omega), (by show _ ≤ 7300668; omega)⟩ (Nat.le_of_ble_eq_true rfl)   dL_law_391 ?_
                  refine lv_icmp_gt (tgt := 422) hx hb dL_law_394 (by decide) (fun c_394 => ?_) (fun c_394 => ?_)
                  · exact absurd c_394 (by obtain ⟨c9, q1, q2⟩ := cert_is (mi := mi) k; rw [q2]; exact nI_nlt (by omega) (by omega))
                  · refine lv_aload_n hx hb dL_law_397 rfl (lv_at hl 1 rfl) ?_
                    refine kx_X0_luckiest hC mM_L_115 hK hP hl.1 ⟨Nat.le_of_ble_eq_true rfl, Nat.le_of_ble_eq_true rfl⟩ ⟨(by show _ ≤ 600172; omega), (by show _ ≤ 7300668; omega)⟩ (Nat.le_of_ble_eq_true rfl)  (by first | assumption | omega) dL_law_398 ?_
                    refine lv_if_ge (tgt := 408) hx hb dL_law_401 (by decide) (fun c_401 => ?_) (fun c_401 => ?_)
                    · have h9 : ¬ x9 = 0 := by rw [hx9]; exact best_pos0 hlk hn c_401
                      refine lv_iconst (v := 0) hx hb dL_law_408 (by decide) ?_
                      refine lv_iload hx hb dL_law_409 (lv_at hl 9 rfl) ?_
                      refine lv_if_ne (tgt := 418) hx hb dL_law_411 (by decide) (fun c_411 => ?_) (fun c_411 => ?_)
                      · refine lv_iconst (v := 0) hx hb dL_law_418 (by decide) ?_
                        refine lv_icmp_eq (tgt := 424) hx hb dL_law_419 (by decide) (fun c_419 => ?_) (fun c_419 => ?_)
                        · exact kk gj _ _ _ hgj hP hD hS (lv_sub hl [0, 1, 2, 3, 4, 5, 6, 7] rfl)
                        · exact absurd rfl c_419
                      · exact absurd c_411 h9
                    · have h9 : x9 = 0 := by rw [hx9]; exact best_neg0 hlk hn c_401
                      refine lv_iconst (v := 1) hx hb dL_law_404 (by decide) ?_
                      refine lv_goto (tgt := 409) hx hb dL_law_405 (by decide) ?_
                      refine lv_iload hx hb dL_law_409 (lv_at hl 9 rfl) ?_
                      refine lv_if_ne (tgt := 418) hx hb dL_law_411 (by decide) (fun c_411 => ?_) (fun c_411 => ?_)
                      · exact absurd h9 c_411
                      · refine lv_iconst (v := 1) hx hb dL_law_414 (by decide) ?_
                        refine lv_goto (tgt := 419) hx hb dL_law_415 (by decide) ?_
                        refine lv_icmp_eq (tgt := 424) hx hb dL_law_419 (by decide) (fun c_419 => ?_) (fun c_419 => ?_)
                        · exact kk gj _ _ _ hgj hP hD hS (lv_sub hl [0, 1, 2, 3, 4, 5, 6, 7] rfl)
                        · exact absurd rfl c_419
      · have nc_104 : j < n := nn_nle (by omega) c_104
        obtain ⟨yk, hyk, eyk⟩ := hlk j nc_104
        obtain ⟨yf, hyf, eyf⟩ := hfa j nc_104
        obtain ⟨yp, hyp, eyp⟩ := hpu j nc_104
        refine lv_aload_n hx hb dL_law_107 rfl (lv_at hl 1 rfl) ?_
        refine lv_iload hx hb dL_law_108 (lv_at hl 11 rfl) ?_
        refine kx_X0_isAlive hC mM_L_91 hK hP hl.1 ⟨Nat.le_of_ble_eq_true rfl, Nat.le_of_ble_eq_true rfl⟩ ⟨(by show _ ≤ 600172; omega), (by show _ ≤ 7300668; omega)⟩ (Nat.le_of_ble_eq_true rfl) rfl (by first | assumption | omega) (by first | assumption | omega) (h01 j (by omega)) dL_law_110 ?_
        refine lv_istore (lv' := [(12, .int (lv j)), (0, .ref xb), (1, .ref (a 0)), (2, .ref h), (3, .ref q22), (4, .int (nI i)), (5, .int v5), (6, .int (nI n)), (7, .int (nI w)), (8, .int x8), (9, .int x9), (10, .int x10), (11, .int (nI j))]) hx hb dL_law_113 hl (by decide) rfl (fun ls hl => ?_)
        refine lv_aload_n hx hb dL_law_115 rfl (lv_at hl 2 rfl) ?_
        refine lv_iload hx hb dL_law_116 (lv_at hl 12 rfl) ?_
        refine kx_X0_lastHeirOf hC mM_L_94 hK hP hl.1 ⟨Nat.le_of_ble_eq_true rfl, Nat.le_of_ble_eq_true rfl⟩ ⟨(by show _ ≤ 600172; omega), (by show _ ≤ 7300668; omega)⟩ (Nat.le_of_ble_eq_true rfl) rfl (by first | assumption | omega) (by first | assumption | omega) dL_law_118 ?_
        refine lv_istore (lv' := [(13, .int (sp_heir he lv n j n (he j))), (12, .int (lv j)), (0, .ref xb), (1, .ref (a 0)), (2, .ref h), (3, .ref q22), (4, .int (nI i)), (5, .int v5), (6, .int (nI n)), (7, .int (nI w)), (8, .int x8), (9, .int x9), (10, .int x10), (11, .int (nI j))]) hx hb dL_law_121 hl (by decide) rfl (fun ls hl => ?_)
        have hheir := heir_ofi (lv := lv) hn nc_104 hH
        have tail_138 : ∀ (y9 : Int32), y9 = sp_cnt lv (j + 1) → ∀ ls : Array Slot, lv_has ls 19 [(0, .ref xb), (1, .ref (a 0)), (2, .ref h), (3, .ref q22), (4, .int (nI i)), (5, .int v5), (6, .int (nI n)), (7, .int (nI w)), (8, .int x8), (9, .int y9), (10, .int x10), (11, .int (nI j)), (12, .int (lv j)), (13, .int (sp_heir he lv n j n (he j)))] → W p l e room_1 s m #[.ref xb] below meth c H locs (cells) (slots) Q (F0 m 138 ls []) := by
          intro y9 hy9 ls hl
          refine lv_iload hx hb dL_law_138 (lv_at hl 8 rfl) ?_
          refine lv_aload_n hx hb dL_law_140 rfl (lv_at hl 1 rfl) ?_
          refine lv_iload hx hb dL_law_141 (lv_at hl 11 rfl) ?_
          refine kx_X0_purseOf hC mM_L_97 hK hP hl.1 ⟨Nat.le_of_ble_eq_true rfl, Nat.le_of_ble_eq_true rfl⟩ ⟨(by show _ ≤ 600172; omega), (by show _ ≤ 7300668; omega)⟩ (Nat.le_of_ble_eq_true rfl) rfl (by first | assumption | omega) (by first | assumption | omega) dL_law_143 ?_
          refine lv_iadd hx hb dL_law_146 ?_
          refine lv_istore (lv' := [(8, .int (x8 + (pu j))), (0, .ref xb), (1, .ref (a 0)), (2, .ref h), (3, .ref q22), (4, .int (nI i)), (5, .int v5), (6, .int (nI n)), (7, .int (nI w)), (9, .int y9), (10, .int x10), (11, .int (nI j)), (12, .int (lv j)), (13, .int (sp_heir he lv n j n (he j)))]) hx hb dL_law_147 hl (by decide) rfl (fun ls hl => ?_)
          refine lv_iload hx hb dL_law_149 (lv_at hl 10 rfl) ?_
          refine lv_aload_n hx hb dL_law_151 rfl (lv_at hl 2 rfl) ?_
          refine lv_iload hx hb dL_law_152 (lv_at hl 11 rfl) ?_
          refine kx_X0_missesOf hC mM_L_100 hK hP hl.1 ⟨Nat.le_of_ble_eq_true rfl, Nat.le_of_ble_eq_true rfl⟩ ⟨(by show _ ≤ 600172; omega), (by show _ ≤ 7300668; omega)⟩ (Nat.le_of_ble_eq_true rfl) rfl (by first | assumption | omega) (by first | assumption | omega) (by first | assumption | omega) dL_law_154 ?_
          refine lv_iadd hx hb dL_law_157 ?_
          refine lv_istore (lv' := [(10, .int (x10 + (sp_many mp (nI j) k))), (8, .int (x8 + (pu j))), (0, .ref xb), (1, .ref (a 0)), (2, .ref h), (3, .ref q22), (4, .int (nI i)), (5, .int v5), (6, .int (nI n)), (7, .int (nI w)), (9, .int y9), (11, .int (nI j)), (12, .int (lv j)), (13, .int (sp_heir he lv n j n (he j)))]) hx hb dL_law_158 hl (by decide) rfl (fun ls hl => ?_)
          obtain ⟨y8, ey8⟩ : ∃ y8 : Int32, x8 + (pu j) = y8 := ⟨_, rfl⟩
          obtain ⟨y10, ey10⟩ : ∃ y10 : Int32, x10 + (sp_many mp (nI j) k) = y10 := ⟨_, rfl⟩
          rw [ey8, ey10] at hl
          have hy8 : y8 = nI (FF + sn pu (j + 1)) := by rw [← ey8, hx8]; exact sn_step eyp hyp
          have hy10 : y10 = sM mp k (j + 1) := by rw [← ey10, hx10]; rfl
          refine lv_aload_n hx hb dL_law_160 rfl (lv_at hl 3 rfl) ?_
          refine lv_iload hx hb dL_law_161 (lv_at hl 11 rfl) ?_
          refine kx_X0_luckOf hC mM_L_103 hK hP hl.1 ⟨Nat.le_of_ble_eq_true rfl, Nat.le_of_ble_eq_true rfl⟩ ⟨(by show _ ≤ 600172; omega), (by show _ ≤ 7300668; omega)⟩ (Nat.le_of_ble_eq_true rfl) rfl (by first | assumption | omega) (by first | assumption | omega) dL_law_163 ?_
          refine lv_if_lt (tgt := 322) hx hb dL_law_166 (by decide) (fun c_166 => ?_) (fun c_166 => ?_)
          · exact absurd c_166 (by rw [eyk]; exact nI_pos (by omega))
          · refine lv_aload_n hx hb dL_law_169 rfl (lv_at hl 3 rfl) ?_
            refine lv_iload hx hb dL_law_170 (lv_at hl 11 rfl) ?_
            refine kx_X0_luckOf hC mM_L_103 hK hP hl.1 ⟨Nat.le_of_ble_eq_true rfl, Nat.le_of_ble_eq_true rfl⟩ ⟨(by show _ ≤ 600172; omega), (by show _ ≤ 7300668; omega)⟩ (Nat.le_of_ble_eq_true rfl) rfl (by first | assumption | omega) (by first | assumption | omega) dL_law_172 ?_
            refine lv_bipush (v := 99) hx hb dL_law_175 (by decide) ?_
            refine lv_icmp_gt (tgt := 322) hx hb dL_law_177 (by decide) (fun c_177 => ?_) (fun c_177 => ?_)
            · exact absurd c_177 (by rw [eyk]; exact nI_nlt (a := 99) (b := yk) (by omega) (by omega))
            · refine lv_aload_n hx hb dL_law_180 rfl (lv_at hl 3 rfl) ?_
              refine lv_iload hx hb dL_law_181 (lv_at hl 11 rfl) ?_
              refine kx_X0_fatesOf hC mM_L_106 hK hP hl.1 ⟨Nat.le_of_ble_eq_true rfl, Nat.le_of_ble_eq_true rfl⟩ ⟨(by show _ ≤ 600172; omega), (by show _ ≤ 7300668; omega)⟩ (Nat.le_of_ble_eq_true rfl) rfl (by first | assumption | omega) (by first | assumption | omega) dL_law_183 ?_
              refine lv_if_lt (tgt := 322) hx hb dL_law_186 (by decide) (fun c_186 => ?_) (fun c_186 => ?_)
              · exact absurd c_186 (by rw [eyf]; exact nI_pos (by omega))
              · refine lv_aload_n hx hb dL_law_189 rfl (lv_at hl 3 rfl) ?_
                refine lv_iload hx hb dL_law_190 (lv_at hl 11 rfl) ?_
                refine kx_X0_fatesOf hC mM_L_106 hK hP hl.1 ⟨Nat.le_of_ble_eq_true rfl, Nat.le_of_ble_eq_true rfl⟩ ⟨(by show _ ≤ 600172; omega), (by show _ ≤ 7300668; omega)⟩ (Nat.le_of_ble_eq_true rfl) rfl (by first | assumption | omega) (by first | assumption | omega) dL_law_192 ?_
                refine lv_bipush (v := 9) hx hb dL_law_195 (by decide) ?_
                refine lv_icmp_gt (tgt := 322) hx hb dL_law_197 (by decide) (fun c_197 => ?_) (fun c_197 => ?_)
                · exact absurd c_197 (by rw [eyf]; exact nI_nlt (a := 9) (b := yf) (by omega) (by omega))
                · refine lv_aload_n hx hb dL_law_200 rfl (lv_at hl 3 rfl) ?_
                  refine lv_iload hx hb dL_law_201 (lv_at hl 11 rfl) ?_
                  refine kx_X0_purseOf hC mM_L_97 hK hP hl.1 ⟨Nat.le_of_ble_eq_true rfl, Nat.le_of_ble_eq_true rfl⟩ ⟨(by show _ ≤ 600172; omega), (by show _ ≤ 7300668; omega)⟩ (Nat.le_of_ble_eq_true rfl) rfl (by first | assumption | omega) (by first | assumption | omega) dL_law_203 ?_
                  refine lv_if_lt (tgt := 322) hx hb dL_law_206 (by decide) (fun c_206 => ?_) (fun c_206 => ?_)
                  · exact absurd c_206 (by rw [eyp]; exact nI_pos (by omega))
                  · refine lv_aload_n hx hb dL_law_209 rfl (lv_at hl 3 rfl) ?_
                    refine lv_iload hx hb dL_law_210 (lv_at hl 11 rfl) ?_
                    refine kx_X0_priceFor hC mM_L_109 hK hP hl.1 ⟨Nat.le_of_ble_eq_true rfl, Nat.le_of_ble_eq_true rfl⟩ ⟨(by show _ ≤ 600172; omega), (by show _ ≤ 7300668; omega)⟩ (Nat.le_of_ble_eq_true rfl) rfl (by first | assumption | omega) (by first | assumption | omega) dL_law_212 ?_
                    refine lv_iconst (v := 5) hx hb dL_law_215 (by decide) ?_
                    refine lv_icmp_lt (tgt := 322) hx hb dL_law_216 (by decide) (fun c_216 => ?_) (fun c_216 => ?_)
                    · exact absurd c_216 (by rw [eyk, price_is hyk]; exact nI_nlt (b := 5) (by omega) (by omega))
                    · refine lv_aload_n hx hb dL_law_219 rfl (lv_at hl 3 rfl) ?_
                      refine lv_iload hx hb dL_law_220 (lv_at hl 11 rfl) ?_
                      refine kx_X0_priceFor hC mM_L_109 hK hP hl.1 ⟨Nat.le_of_ble_eq_true rfl, Nat.le_of_ble_eq_true rfl⟩ ⟨(by show _ ≤ 600172; omega), (by show _ ≤ 7300668; omega)⟩ (Nat.le_of_ble_eq_true rfl) rfl (by first | assumption | omega) (by first | assumption | omega) dL_law_222 ?_
                      refine lv_bipush (v := 14) hx hb dL_law_225 (by decide) ?_
                      refine lv_icmp_gt (tgt := 322) hx hb dL_law_227 (by decide) (fun c_227 => ?_) (fun c_227 => ?_)
                      · exact absurd c_227 (by rw [eyk, price_is hyk]; exact nI_nlt (a := 14) (by omega) (by omega))
                      · have tail_251 : ∀ ls : Array Slot, lv_has ls 19 [(0, .ref xb), (1, .ref (a 0)), (2, .ref h), (3, .ref q22), (4, .int (nI i)), (5, .int v5), (6, .int (nI n)), (7, .int (nI w)), (8, .int y8), (9, .int y9), (10, .int y10), (11, .int (nI j)), (12, .int (lv j)), (13, .int (sp_heir he lv n j n (he j)))] → W p l e room_1 s m #[.ref xb] below meth c H locs (cells) (slots) Q (F0 m 251 ls []) := by
                          intro ls hl
                          refine lv_aload_n hx hb dL_law_251 rfl (lv_at hl 1 rfl) ?_
                          have tail_265 : ∀ ls : Array Slot, lv_has ls 19 [(0, .ref xb), (1, .ref (a 0)), (2, .ref h), (3, .ref q22), (4, .int (nI i)), (5, .int v5), (6, .int (nI n)), (7, .int (nI w)), (8, .int y8), (9, .int y9), (10, .int y10), (11, .int (nI j)), (12, .int (lv j)), (13, .int (sp_heir he lv n j n (he j)))] → W p l e room_1 s m #[.ref xb] below meth c H locs (cells) (slots) Q (F0 m 265 ls []) := by
                            intro ls hl
                            refine lv_iload hx hb dL_law_265 (lv_at hl 12 rfl) ?_
                            have tail_288 : ∀ ls : Array Slot, lv_has ls 19 [(0, .ref xb), (1, .ref (a 0)), (2, .ref h), (3, .ref q22), (4, .int (nI i)), (5, .int v5), (6, .int (nI n)), (7, .int (nI w)), (8, .int y8), (9, .int y9), (10, .int y10), (11, .int (nI j)), (12, .int (lv j)), (13, .int (sp_heir he lv n j n (he j)))] → W p l e room_1 s m #[.ref xb] below meth c H locs (cells) (slots) Q (F0 m 288 ls []) := by
                              intro ls hl
                              refine lv_aload_n hx hb dL_law_288 rfl (lv_at hl 3 rfl) ?_
                              have tail_300 : ∀ ls : Array Slot, lv_has ls 19 [(0, .ref xb), (1, .ref (a 0)), (2, .ref h), (3, .ref q22), (4, .int (nI i)), (5, .int v5), (6, .int (nI n)), (7, .int (nI w)), (8, .int y8), (9, .int y9), (10, .int y10), (11, .int (nI j)), (12, .int (lv j)), (13, .int (sp_heir he lv n j n (he j)))] → W p l e room_1 s m #[.ref xb] below meth c H locs (cells) (slots) Q (F0 m 300 ls []) := by
                                intro ls hl
                                refine lv_iload hx hb dL_law_300 (lv_at hl 12 rfl) ?_
                                have tail_324 : ∀ ls : Array Slot, lv_has ls 19 [(0, .ref xb), (1, .ref (a 0)), (2, .ref h), (3, .ref q22), (4, .int (nI i)), (5, .int v5), (6, .int (nI n)), (7, .int (nI w)), (8, .int y8), (9, .int y9), (10, .int y10), (11, .int (nI j)), (12, .int (lv j)), (13, .int (sp_heir he lv n j n (he j)))] → W p l e room_1 s m #[.ref xb] below meth c H locs (cells) (slots) Q (F0 m 324 ls []) := by
                                  intro ls hl
                                  refine lv_aload_n hx hb dL_law_324 rfl (lv_at hl 3 rfl) ?_
                                  refine lv_iload hx hb dL_law_325 (lv_at hl 11 rfl) ?_
                                  refine lv_iload hx hb dL_law_327 (lv_at hl 12 rfl) ?_
                                  refine lv_if_ne (tgt := 336) hx hb dL_law_329 (by decide) (fun c_329 => ?_) (fun c_329 => ?_)
                                  · refine lv_iconst (v := 0) hx hb dL_law_336 (by decide) ?_
                                    refine qz_st (q0 := 0) (L := 10) (g := gj) j hC hK hP hD hS rfl rfl (by omega) (by omega) (by decide) dL_law_337 (fun H locs hP hD hS => ?_)
                                    have hP : va_P D vwCl (((q22, .inl (z.2, 10, .inl (upd gj j 0))) :: []) ++ (qW z cG b rp rw rm lv lk pu fa he n nv du w mp mi k nt fu re ++ xW z a lv lk pu fa he n nv du ta w mp mi k nt fu re)) H := hP
                                    have hD : va_D A (((q22, .inl (z.2, 10, .inl (upd gj j 0))) :: []) ++ (qW z cG b rp rw rm lv lk pu fa he n nv du w mp mi k nt fu re ++ xW z a lv lk pu fa he n nv du ta w mp mi k nt fu re)) := hD
                                    refine lv_iinc (v := nI (j + 1)) (lv' := [(11, .int (nI (j + 1))), (0, .ref xb), (1, .ref (a 0)), (2, .ref h), (3, .ref q22), (4, .int (nI i)), (5, .int v5), (6, .int (nI n)), (7, .int (nI w)), (8, .int y8), (9, .int y9), (10, .int y10), (12, .int (lv j)), (13, .int (sp_heir he lv n j n (he j)))]) hx hb dL_law_338 hl (k := 11) rfl (nI_1 _) (by decide) rfl (fun ls hl => ?_)
                                    refine lv_goto (tgt := 100) hx hb dL_law_341 (by decide) ?_
                                    exact ih100 (j + 1) y8 y9 y10 (upd gj j 0) (by omega) (by omega) hy8 hy9 hy10 (gn_st hgj nc_104 (Or.inl rfl)) _ _ hP hD hS  _ (lv_sub hl [1, 2, 3, 4, 5, 6, 7, 8, 9, 10, 11, 0] rfl)
                                  · refine lv_iconst (v := 1) hx hb dL_law_332 (by decide) ?_
                                    refine lv_goto (tgt := 337) hx hb dL_law_333 (by decide) ?_
                                    refine qz_st (q0 := 0) (L := 10) (g := gj) j hC hK hP hD hS rfl rfl (by omega) (by omega) (by decide) dL_law_337 (fun H locs hP hD hS => ?_)
                                    have hP : va_P D vwCl (((q22, .inl (z.2, 10, .inl (upd gj j 1))) :: []) ++ (qW z cG b rp rw rm lv lk pu fa he n nv du w mp mi k nt fu re ++ xW z a lv lk pu fa he n nv du ta w mp mi k nt fu re)) H := hP
                                    have hD : va_D A (((q22, .inl (z.2, 10, .inl (upd gj j 1))) :: []) ++ (qW z cG b rp rw rm lv lk pu fa he n nv du w mp mi k nt fu re ++ xW z a lv lk pu fa he n nv du ta w mp mi k nt fu re)) := hD
                                    refine lv_iinc (v := nI (j + 1)) (lv' := [(11, .int (nI (j + 1))), (0, .ref xb), (1, .ref (a 0)), (2, .ref h), (3, .ref q22), (4, .int (nI i)), (5, .int v5), (6, .int (nI n)), (7, .int (nI w)), (8, .int y8), (9, .int y9), (10, .int y10), (12, .int (lv j)), (13, .int (sp_heir he lv n j n (he j)))]) hx hb dL_law_338 hl (k := 11) rfl (nI_1 _) (by decide) rfl (fun ls hl => ?_)
                                    refine lv_goto (tgt := 100) hx hb dL_law_341 (by decide) ?_
                                    exact ih100 (j + 1) y8 y9 y10 (upd gj j 1) (by omega) (by omega) hy8 hy9 hy10 (gn_st hgj nc_104 (Or.inr c_329)) _ _ hP hD hS  _ (lv_sub hl [1, 2, 3, 4, 5, 6, 7, 8, 9, 10, 11, 0] rfl)
                                refine lv_if_eq (tgt := 324) hx hb dL_law_302 (by decide) (fun c_302 => ?_) (fun c_302 => ?_)
                                · exact tail_324 _ (lv_sub hl [0, 1, 2, 3, 4, 5, 6, 7, 8, 9, 10, 11, 12, 13] rfl)
                                · obtain ⟨yb, hyb, eyb, hmax⟩ := best_on hlk hn nc_104 c_302
                                  refine lv_aload_n hx hb dL_law_305 rfl (lv_at hl 1 rfl) ?_
                                  refine lv_iload hx hb dL_law_306 (lv_at hl 11 rfl) ?_
                                  refine kx_X0_luckOf hC mM_L_103 hK hP hl.1 ⟨Nat.le_of_ble_eq_true rfl, Nat.le_of_ble_eq_true rfl⟩ ⟨(by show _ ≤ 600172; omega), (by show _ ≤ 7300668; omega)⟩ (Nat.le_of_ble_eq_true rfl) rfl (by first | assumption | omega) (by first | assumption | omega) dL_law_308 ?_
                                  refine lv_aload_n hx hb dL_law_311 rfl (lv_at hl 1 rfl) ?_
                                  refine lv_aload_n hx hb dL_law_312 rfl (lv_at hl 1 rfl) ?_
                                  refine kx_X0_luckiest hC mM_L_115 hK hP hl.1 ⟨Nat.le_of_ble_eq_true rfl, Nat.le_of_ble_eq_true rfl⟩ ⟨(by show _ ≤ 600172; omega), (by show _ ≤ 7300668; omega)⟩ (Nat.le_of_ble_eq_true rfl)  (by first | assumption | omega) dL_law_313 ?_
                                  refine kx_X0_luckOf hC mM_L_103 hK hP hl.1 ⟨Nat.le_of_ble_eq_true rfl, Nat.le_of_ble_eq_true rfl⟩ ⟨(by show _ ≤ 600172; omega), (by show _ ≤ 7300668; omega)⟩ (Nat.le_of_ble_eq_true rfl) eyb (by first | assumption | omega) (by first | assumption | omega) dL_law_316 ?_
                                  refine lv_icmp_le (tgt := 324) hx hb dL_law_319 (by decide) (fun c_319 => ?_) (fun c_319 => ?_)
                                  · exact tail_324 _ (lv_sub hl [0, 1, 2, 3, 4, 5, 6, 7, 8, 9, 10, 11, 12, 13] rfl)
                                  · exact absurd (hmax j nc_104 c_302) c_319
                              refine lv_iload hx hb dL_law_289 (lv_at hl 11 rfl) ?_
                              refine qz_ld (q0 := 0) (L := 10) (g := gj) j hC hK hP rfl rfl (by omega) (by omega) dL_law_291 ?_
                              refine lv_if_eq (tgt := 300) hx hb dL_law_292 (by decide) (fun c_292 => ?_) (fun c_292 => ?_)
                              · exact tail_300 _ (lv_sub hl [0, 1, 2, 3, 4, 5, 6, 7, 8, 9, 10, 11, 12, 13] rfl)
                              · refine lv_iload hx hb dL_law_295 (lv_at hl 12 rfl) ?_
                                refine lv_if_ne (tgt := 322) hx hb dL_law_297 (by decide) (fun c_297 => ?_) (fun c_297 => ?_)
                                · exact absurd ((hgj j (by omega)).resolve_left c_292).2 c_297
                                · exact tail_300 _ (lv_sub hl [0, 1, 2, 3, 4, 5, 6, 7, 8, 9, 10, 11, 12, 13] rfl)
                            refine lv_if_ne (tgt := 288) hx hb dL_law_267 (by decide) (fun c_267 => ?_) (fun c_267 => ?_)
                            · exact tail_288 _ (lv_sub hl [0, 1, 2, 3, 4, 5, 6, 7, 8, 9, 10, 11, 12, 13] rfl)
                            · refine lv_aload_n hx hb dL_law_270 rfl (lv_at hl 1 rfl) ?_
                              refine lv_iload hx hb dL_law_271 (lv_at hl 11 rfl) ?_
                              refine kx_X0_purseOf hC mM_L_97 hK hP hl.1 ⟨Nat.le_of_ble_eq_true rfl, Nat.le_of_ble_eq_true rfl⟩ ⟨(by show _ ≤ 600172; omega), (by show _ ≤ 7300668; omega)⟩ (Nat.le_of_ble_eq_true rfl) rfl (by first | assumption | omega) (by first | assumption | omega) dL_law_273 ?_
                              refine lv_if_gt (tgt := 322) hx hb dL_law_276 (by decide) (fun c_276 => ?_) (fun c_276 => ?_)
                              · exact absurd c_276 (by rw [(hdead j nc_104 c_267).1]; decide)
                              · refine lv_aload_n hx hb dL_law_279 rfl (lv_at hl 1 rfl) ?_
                                refine lv_iload hx hb dL_law_280 (lv_at hl 11 rfl) ?_
                                refine kx_X0_fatesOf hC mM_L_106 hK hP hl.1 ⟨Nat.le_of_ble_eq_true rfl, Nat.le_of_ble_eq_true rfl⟩ ⟨(by show _ ≤ 600172; omega), (by show _ ≤ 7300668; omega)⟩ (Nat.le_of_ble_eq_true rfl) rfl (by first | assumption | omega) (by first | assumption | omega) dL_law_282 ?_
                                refine lv_if_gt (tgt := 322) hx hb dL_law_285 (by decide) (fun c_285 => ?_) (fun c_285 => ?_)
                                · exact absurd c_285 (by rw [(hdead j nc_104 c_267).2]; decide)
                                · exact tail_288 _ (lv_sub hl [0, 1, 2, 3, 4, 5, 6, 7, 8, 9, 10, 11, 12, 13] rfl)
                          refine lv_iload hx hb dL_law_252 (lv_at hl 11 rfl) ?_
                          refine kx_X0_heirOf hC mM_L_112 hK hP hl.1 ⟨Nat.le_of_ble_eq_true rfl, Nat.le_of_ble_eq_true rfl⟩ ⟨(by show _ ≤ 600172; omega), (by show _ ≤ 7300668; omega)⟩ (Nat.le_of_ble_eq_true rfl) rfl (by first | assumption | omega) (by first | assumption | omega) dL_law_254 ?_
                          refine lv_if_ge (tgt := 265) hx hb dL_law_257 (by decide) (fun c_257 => ?_) (fun c_257 => ?_)
                          · exact tail_265 _ (lv_sub hl [0, 1, 2, 3, 4, 5, 6, 7, 8, 9, 10, 11, 12, 13] rfl)
                          · refine lv_iload hx hb dL_law_260 (lv_at hl 13 rfl) ?_
                            refine lv_if_ge (tgt := 322) hx hb dL_law_262 (by decide) (fun c_262 => ?_) (fun c_262 => ?_)
                            · exact absurd c_262 (by rw [hR_neg hn (hH j nc_104) (Int32.not_le.mp c_257), heir_m1]; decide)
                            · exact tail_265 _ (lv_sub hl [0, 1, 2, 3, 4, 5, 6, 7, 8, 9, 10, 11, 12, 13] rfl)
                        refine lv_iload hx hb dL_law_230 (lv_at hl 13 rfl) ?_
                        refine lv_if_lt (tgt := 251) hx hb dL_law_232 (by decide) (fun c_232 => ?_) (fun c_232 => ?_)
                        · exact tail_251 _ (lv_sub hl [2, 3, 4, 5, 6, 7, 8, 9, 1, 10, 0, 11, 12, 13] rfl)
                        · obtain ⟨yh, hyh, hyj, hyl, eyh⟩ := hheir.resolve_left (fun q => c_232 (by rw [q]; decide))
                          refine lv_iload hx hb dL_law_235 (lv_at hl 13 rfl) ?_
                          refine lv_iload hx hb dL_law_237 (lv_at hl 11 rfl) ?_
                          refine lv_icmp_eq (tgt := 322) hx hb dL_law_239 (by decide) (fun c_239 => ?_) (fun c_239 => ?_)
                          · exact absurd c_239 (by rw [eyh]; exact fun q => hyj (nn_eq (by omega) q))
                          · refine lv_aload_n hx hb dL_law_242 rfl (lv_at hl 3 rfl) ?_
                            refine lv_iload hx hb dL_law_243 (lv_at hl 13 rfl) ?_
                            refine kx_X0_isAlive hC mM_L_91 hK hP hl.1 ⟨Nat.le_of_ble_eq_true rfl, Nat.le_of_ble_eq_true rfl⟩ ⟨(by show _ ≤ 600172; omega), (by show _ ≤ 7300668; omega)⟩ (Nat.le_of_ble_eq_true rfl) eyh (by first | assumption | omega) (by first | assumption | omega) (h01 yh (by omega)) dL_law_245 ?_
                            refine lv_if_eq (tgt := 322) hx hb dL_law_248 (by decide) (fun c_248 => ?_) (fun c_248 => ?_)
                            · exact absurd c_248 hyl
                            · exact tail_251 _ (lv_sub hl [2, 3, 4, 5, 6, 7, 8, 9, 1, 10, 0, 11, 12, 13] rfl)
        refine lv_iload hx hb dL_law_123 (lv_at hl 11 rfl) ?_
        refine lv_iload hx hb dL_law_125 (lv_at hl 1 rfl) ?_
        refine lv_if_eq (tgt := 134) hx hb dL_law_127 (by decide) (fun c_127 => ?_) (fun c_127 => ?_)
        · refine lv_iconst (v := 0) hx hb dL_law_134 (by decide) ?_
          refine lv_iadd hx hb dL_law_135 ?_
          refine lv_istore (lv' := [(9, .int (x9 + 0)), (13, .int (sp_heir he lv n j n (he j))), (12, .int (lv j)), (0, .ref xb), (1, .ref (a 0)), (2, .ref h), (3, .ref q22), (4, .int (nI i)), (5, .int v5), (6, .int (nI n)), (7, .int (nI w)), (8, .int x8), (10, .int x10), (11, .int (nI j))]) hx hb dL_law_136 hl (by decide) rfl (fun ls hl => ?_)
          exact tail_138 (x9 + 0) (cnt_0 c_127 hx9) _ (lv_sub hl [3, 4, 5, 6, 7, 8, 9, 10, 11, 0, 12, 13, 2, 1] rfl)
        · refine lv_iconst (v := 1) hx hb dL_law_130 (by decide) ?_
          refine lv_goto (tgt := 135) hx hb dL_law_131 (by decide) ?_
          refine lv_iadd hx hb dL_law_135 ?_
          refine lv_istore (lv' := [(9, .int (x9 + 1)), (13, .int (sp_heir he lv n j n (he j))), (12, .int (lv j)), (0, .ref xb), (1, .ref (a 0)), (2, .ref h), (3, .ref q22), (4, .int (nI i)), (5, .int v5), (6, .int (nI n)), (7, .int (nI w)), (8, .int x8), (10, .int x10), (11, .int (nI j))]) hx hb dL_law_136 hl (by decide) rfl (fun ls hl => ?_)
          exact tail_138 (x9 + 1) (cnt_1 c_127 hx9) _ (lv_sub hl [3, 4, 5, 6, 7, 8, 9, 10, 11, 0, 12, 13, 2, 1] rfl)
  exact loop_100 (n + 1) 0 fu 0 0 g (Nat.zero_le _) (by omega) hfu rfl rfl hg _ _ hP hD hS  _ (lv_sub hl [6, 7, 8, 9, 10, 11, 5, 4, 3, 2, 1, 0] rfl)

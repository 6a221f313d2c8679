theorem one_ne : ¬ (1 : Int32) = 0 := by decide
theorem heir_upd {he lv : Nat → Int32} {n i : Nat} (hn : n ≤ 10) : ∀ (f : Nat) (x : Int32), sp_heir he (upd lv i 0) n i f x = sp_heir he lv n i f x
  | 0, _ => rfl
  | f + 1, x => by
    simp only [sp_heir]
    by_cases h1 : sp_isP n x = 0
    · rw [if_pos h1, if_pos h1]
    · rw [if_neg h1, if_neg h1]
      by_cases h2 : x = nI i
      · rw [if_pos h2, if_pos h2]
      · rw [if_neg h2, if_neg h2]
        obtain ⟨y, hy, e⟩ := isP_ex (by omega) h1
        have h3 : ¬ x.toNatClampNeg = i := fun q => h2 (by rw [e] at q ⊢; rw [nI_clamp (by omega)] at q; rw [q])
        rw [pk_un h3, heir_upd hn f]
/-- the last heir is none, or somebody else who is alive -/
theorem heir_is {he lv : Nat → Int32} {n i : Nat} (hn : n ≤ 10) (hi : i < n) (hH : heirR he n) : ∀ (f : Nat) (x : Int32), (x = -1 ∨ ∃ y : Nat, y < n ∧ x = nI y) → sp_heir he lv n i f x = -1 ∨ ∃ y : Nat, y < n ∧ ¬ y = i ∧ ¬ lv y = 0 ∧ sp_heir he lv n i f x = nI y
  | 0, _, _ => Or.inl rfl
  | f + 1, x, h => by
    rcases h with h | ⟨y, hy, h⟩
    · rw [h]; exact Or.inl (heir_m1 _)
    · by_cases c : y = i
      · rw [h, c]; exact Or.inl (heir_p _)
      · by_cases q : lv y = 0
        · rw [h, heir_go hn hy c hi q]
          exact heir_is hn hi hH f (he y) (hH y hy)
        · rw [h, heir_at hn hy c hi q]
          exact Or.inr ⟨y, hy, c, q, rfl⟩
theorem heir_ofi {he lv : Nat → Int32} {n i : Nat} (hn : n ≤ 10) (hi : i < n) (hH : heirR he n) : sp_heir he lv n i n (he i) = -1 ∨ ∃ y : Nat, y < n ∧ ¬ y = i ∧ ¬ lv y = 0 ∧ sp_heir he lv n i n (he i) = nI y := heir_is hn hi hH n (he i) (hH i hi)
theorem nI_0le {y : Nat} (hy : y < 2 ^ 31) : 0 ≤ nI y := nI_pos' hy
theorem gain_eq {x d : Int32} (h : d = 0 ∨ d = 1) : x + 2 - d = x + sp_gain d := by
  unfold sp_gain
  rcases h with h | h <;> rw [h]
  · rw [if_pos rfl]; grind
  · rw [if_neg one_ne]; grind
theorem im99 {y : Nat} (h : y < 99) : imin 99 (nI (y + 1)) = nI (y + 1) := by
  show (if nI (y + 1) < nI 99 then nI (y + 1) else nI 99) = _
  by_cases c : y + 1 < 99
  · rw [if_pos (nI_lt c (by omega))]
  · rw [if_neg (nI_nlt (by omega) (by omega)), show y + 1 = 99 by omega]
theorem bN_nl {lv lk : Nat → Int32} {n : Nat} (h : bN 99 lk n) : ∀ m : Nat, bN 99 (sp_nl lv lk m) n
  | 0 => h
  | j + 1 => by
    have ih := bN_nl (lv := lv) h j
    simp only [sp_nl]
    split
    · exact ih
    · intro t ht
      by_cases c : t = j
      · subst c
        obtain ⟨y, hy, e⟩ := ih t ht
        rw [pk_us, e]
        by_cases c2 : y < 99
        · exact ⟨y + 1, by omega, by rw [nI_1]; exact im99 c2⟩
        · refine ⟨99, Nat.le_refl _, ?_⟩
          rw [show y = 99 by omega]
          decide
      · rw [pk_un c]; exact ih t ht
theorem bN_pl {lv lk : Nat → Int32} {n : Nat} (h : bN 99 lk n) : ∀ t : Nat, bN 99 (sp_pl lv n lk t) n
  | 0 => h
  | t + 1 => bN_nl (bN_pl h t) n
theorem upd_id {f : Nat → Int32} {k : Nat} {x : Int32} (h : f k = x) : upd f k x = f := by
  funext j
  unfold upd
  by_cases c : j = k
  · subst c; rw [if_pos rfl, h]
  · rw [if_neg c]
theorem nl_0 {lv lk : Nat → Int32} {j : Nat} (h : lv j = 0) : sp_nl lv lk j = sp_nl lv lk (j + 1) := by simp only [sp_nl]; rw [if_pos h]
theorem nl_9 {lv lk : Nat → Int32} {n j : Nat} (hb : bN 99 (sp_nl lv lk j) n) (hj : j < n) (h : lv j = 1) (h9 : 99 ≤ sp_nl lv lk j j) : sp_nl lv lk j = sp_nl lv lk (j + 1) := by
  simp only [sp_nl]
  rw [if_neg (by rw [h]; decide)]
  obtain ⟨y, hy, e⟩ := hb j hj
  have e9 : y = 99 := by
    rw [e] at h9
    have := nn_le (a := 99) (b := y) (by omega) h9
    omega
  refine (upd_id ?_).symm
  rw [e, e9]
  decide
theorem nl_1 {lv lk : Nat → Int32} {n j : Nat} (hb : bN 99 (sp_nl lv lk j) n) (hj : j < n) (h : lv j = 1) (h9 : ¬ 99 ≤ sp_nl lv lk j j) : upd (sp_nl lv lk j) j (sp_nl lv lk j j + 1) = sp_nl lv lk (j + 1) := by
  simp only [sp_nl]
  rw [if_neg (by rw [h]; decide)]
  congr 1
  obtain ⟨y, hy, e⟩ := hb j hj
  rw [e] at h9 ⊢
  have := nn_nle (b := 99) (a := y) (by omega) h9
  rw [nI_1]
  exact (im99 this).symm
theorem fr_0 {du nv : Nat → Int32} {q : Int32} {j : Nat} (h : du j = 0) : sp_fr du q nv j = sp_fr du q nv (j + 1) := by simp only [sp_fr]; rw [if_pos h]
theorem fr_1 {du nv : Nat → Int32} {q : Int32} {j : Nat} (h : du j = 1) : upd (sp_fr du q nv j) j (imax 0 (sp_fr du q nv j j - q)) = sp_fr du q nv (j + 1) := by simp only [sp_fr]; rw [if_neg (by rw [h]; decide)]
theorem loss_3 {b : Int32} (h : ¬ 6 ≤ b) : 3 = sp_loss b := by
  unfold sp_loss
  rw [if_neg]
  intro q
  rw [Int32.le_iff_toInt_le, t_6] at h
  rw [Int32.lt_iff_toInt_lt, t_5] at q
  omega
theorem loss_2 {b : Int32} (h : 6 ≤ b) (h2 : ¬ 13 ≤ b) : 2 = sp_loss b := by
  unfold sp_loss
  rw [Int32.le_iff_toInt_le, t_6] at h
  rw [Int32.le_iff_toInt_le, t_13] at h2
  rw [if_pos (by rw [Int32.lt_iff_toInt_lt, t_5]; omega), if_neg (by rw [Int32.lt_iff_toInt_lt, t_12]; omega)]
theorem loss_1 {b : Int32} (h2 : 13 ≤ b) : 1 = sp_loss b := by
  unfold sp_loss
  rw [Int32.le_iff_toInt_le, t_13] at h2
  rw [if_pos (by rw [Int32.lt_iff_toInt_lt, t_5]; omega), if_pos (by rw [Int32.lt_iff_toInt_lt, t_12]; omega)]
theorem uses_n {al fv ce : Int32} (h : ce ≤ 0 ∨ 25 ≤ ce ∨ fv ≤ 0) : sp_uses al fv ce = 0 := by
  unfold sp_uses
  split
  · rfl
  · split
    · rfl
    · rename_i h2
      split
      · rfl
      · rename_i h3
        rcases h with h | h | h
        · exact absurd h h3
        · rw [if_pos]
          rw [Int32.le_iff_toInt_le, t_25] at h
          rw [Int32.lt_iff_toInt_lt, t_24]
          omega
        · exact absurd h h2
theorem uses_y {al fv ce : Int32} (h0 : ¬ al = 0) (h1 : ¬ ce ≤ 0) (h2 : ¬ 25 ≤ ce) (h3 : ¬ fv ≤ 0) : sp_uses al fv ce = 1 := by
  unfold sp_uses
  rw [if_neg h0, if_neg h3, if_neg h1, if_neg]
  rw [Int32.le_iff_toInt_le, t_25] at h2
  rw [Int32.lt_iff_toInt_lt, t_24]
  omega
theorem le_nlt0 {x : Int32} (h : ¬ x ≤ 0) : ¬ x < 0 := fun q => h (by rw [Int32.le_iff_toInt_le]; rw [Int32.lt_iff_toInt_lt] at q; omega)

set_option maxHeartbeats 4000000 in
set_option maxRecDepth 100000 in
theorem c_X1_hit (l : Launch) (sz : Nat) {D : va_G} {z : ClassId × ClassId} {cG : ClassId} {F M : va_W} {b : Nat → Nat} {rp : Nat → Nat} {rw : Nat → Nat} {rm : Nat → Nat} {lv : Nat → Int32} {lk : Nat → Int32} {pu : Nat → Int32} {fa : Nat → Int32} {he : Nat → Int32} {n : Nat} {nv : Nat → Int32} {du : Nat → Int32} {w : Nat} {mp : Nat → Int32} {mi : Nat → Int32} {k : Nat} {nt : Int32} {fu : Int32} {re : Int32} (i : Nat) (hi : i < n) (hn : n ≤ 10) (hH : heirR he n) (h01 : bZ lv n) : Met l yX1_hit (ws_ yX1_hit cX1_hit 4 (some .int)) ({ frames := 1, cells := 1, slots := 10, locals := 23 } : Room) (va_Pc [.ref (b 0), .int (nI i)] (fun U => U.heap.size = sz ∧ qI D z cG (F ++ (qW z cG b rp rw rm lv lk pu fa he n nv du w mp mi k nt fu re ++ M)) U ∧ va_D (fun _ => True) (F ++ (qW z cG b rp rw rm lv lk pu fa he n nv du w mp mi k nt fu re ++ M)) ∧ True)) (va_Qi (fun (r : Int32) (u : Unit) => r = sp_heir he lv n i n (he i)) (fun u t9 => va_P D vwCl (F ++ (qW z cG b rp rw rm (upd lv i 0) (if sp_isP n (sp_heir he (upd lv i 0) n i n (he i)) = 0 then lk else upd lk (sp_heir he (upd lv i 0) n i n (he i)).toNatClampNeg (imin 99 (lk (sp_heir he (upd lv i 0) n i n (he i)).toNatClampNeg + lk i / 2))) (upd (if sp_isP n (sp_heir he (upd lv i 0) n i n (he i)) = 0 then pu else upd pu (sp_heir he (upd lv i 0) n i n (he i)).toNatClampNeg (pu (sp_heir he (upd lv i 0) n i n (he i)).toNatClampNeg + pu i)) i 0) (upd fa i 0) he n nv du w mp mi k nt (if sp_isP n (sp_heir he (upd lv i 0) n i n (he i)) = 0 then fu + pu i else fu) re ++ M)) t9.heap ∧ va_D (va_A (F ++ (qW z cG b rp rw rm lv lk pu fa he n nv du w mp mi k nt fu re ++ M)) sz) (F ++ (qW z cG b rp rw rm (upd lv i 0) (if sp_isP n (sp_heir he (upd lv i 0) n i n (he i)) = 0 then lk else upd lk (sp_heir he (upd lv i 0) n i n (he i)).toNatClampNeg (imin 99 (lk (sp_heir he (upd lv i 0) n i n (he i)).toNatClampNeg + lk i / 2))) (upd (if sp_isP n (sp_heir he (upd lv i 0) n i n (he i)) = 0 then pu else upd pu (sp_heir he (upd lv i 0) n i n (he i)).toNatClampNeg (pu (sp_heir he (upd lv i 0) n i n (he i)).toNatClampNeg + pu i)) i 0) (upd fa i 0) he n nv du w mp mi k nt (if sp_isP n (sp_heir he (upd lv i 0) n i n (he i)) = 0 then fu + pu i else fu) re ++ M))) (va_A (F ++ (qW z cG b rp rw rm lv lk pu fa he n nv du w mp mi k nt fu re ++ M)) sz)) 1 10 (va_A (F ++ (qW z cG b rp rw rm lv lk pu fa he n nv du w mp mi k nt fu re ++ M)) sz) := by
  refine Met.ofW (cc := cX1_hit) (maxL := 4) (ret := (some .int)) (by decide) rfl ?_
  intro p e s m args below meth c s₁ B hml hv
  obtain ⟨rfl, hsz, ⟨hP, hK, hG⟩, hD0, -⟩ := hv
  have hx := B.exec
  have hb := B.bytes
  have hr := B.returns
  have hts := atoms_spec (ws := ws_ yX1_hit cX1_hit 4 (some .int)) B.pre
  have hts : ∀ w ∈ lw_all, w.before _ s = true := fun w h => hts w (List.mem_cons_of_mem _ h)
  have hown : s.vm.findClass RX1 = some m.cls := findClass_of_methodNamed B.named
  have hlocks := B.notSynchronized
  have hC : CallFix p m c cX1_hit 4 s _ lw_all RX1 := ⟨hx, hb, hml, hown, hts⟩
  subst hsz
  have hD := hD0.self (sz := s.heap.size)
  generalize hAe : va_A (F ++ (qW z cG b rp rw rm lv lk pu fa he n nv du w mp mi k nt fu re ++ M)) s.heap.size = A at hD ⊢
  have hA : ∀ q : Nat, s.heap.size ≤ q → A q := fun q h => by rw [← hAe]; exact Or.inr h
  have hS : va_S A s.heap s.heap [] := va_S.rf
  have hl := lv_entry ([.ref (b 0), .int (nI i)]) (n := 4) (Nat.le_of_ble_eq_true rfl)
  rw [lg_entry_eq]
  generalize (lg_sl ([.ref (b 0), .int (nI i)]) ++ List.replicate (4 - (lg_sl ([.ref (b 0), .int (nI i)])).length) Slot.unset).toArray = ls at hl ⊢
  have hl : lv_has ls 4 [(0, .ref (b 0)), (1, .int (nI i))] := hl
  refine lv_aload_n hx hb dX1_hit_0 rfl (lv_at hl 0 rfl) ?_
  refine lv_iload_n hx hb dX1_hit_1 rfl (lv_at hl 1 rfl) ?_
  refine k_X1_lastHeir (i := i) hC mM_X1_53 hK hG hP hD hS hA hl.1 ⟨Nat.le_of_ble_eq_true rfl, Nat.le_of_ble_eq_true rfl⟩ ⟨(by show _ ≤ 1; omega), (by show _ ≤ 10; omega)⟩ (Nat.le_of_ble_eq_true rfl) hi hn hH h01 dX1_hit_2 (fun H locs hP hD hS => ?_)
  refine lv_istore_n (lv' := [(2, .int (sp_heir he lv n i n (he i))), (0, .ref (b 0)), (1, .int (nI i))]) hx hb dX1_hit_5 rfl hl (by decide) rfl (fun ls hl => ?_)
  refine lv_aload_n hx hb dX1_hit_6 rfl (lv_at hl 1 rfl) ?_
  refine qg_ps hC hK hP mF_X1_9 dX1_hit_7 ?_
  refine lv_iload_n hx hb dX1_hit_10 rfl (lv_at hl 2 rfl) ?_
  refine qr_p i hC hK hP hG rfl (by first | assumption | omega) (by omega) dX1_hit_11 ?_
  refine lv_astore_n (lv' := [(3, .ref (rp i)), (2, .int (sp_heir he lv n i n (he i))), (0, .ref (b 0)), (1, .int (nI i))]) hx hb dX1_hit_12 rfl hl (by decide) rfl (fun ls hl => ?_)
  refine lv_aload_n hx hb dX1_hit_13 rfl (lv_at hl 0 rfl) ?_
  refine lv_iconst (v := 0) hx hb dX1_hit_14 (by decide) ?_
  refine lv_iconst (v := 0) hx hb dX1_hit_15 (by decide) ?_
  refine qs_lv i hC hK hP hD hS (by first | assumption | omega) nI_0.symm dX1_hit_16 (fun H locs hP hD hS => ?_)
  refine lv_aload_n hx hb dX1_hit_17 rfl (lv_at hl 0 rfl) ?_
  refine lv_iconst (v := 3) hx hb dX1_hit_18 (by decide) ?_
  refine lv_iconst (v := 0) hx hb dX1_hit_19 (by decide) ?_
  refine qs_fa i hC hK hP hD hS (by first | assumption | omega) rfl dX1_hit_20 (fun H locs hP hD hS => ?_)
  refine lv_iload_n hx hb dX1_hit_21 rfl (lv_at hl 1 rfl) ?_
  refine lv_if_ge (tgt := 40) hx hb dX1_hit_22 (by decide) (fun c_22 => ?_) (fun c_22 => ?_)
  · obtain ⟨y, hy, hyi, hly, ey⟩ := (heir_ofi (lv := lv) hn hi hH).resolve_left (fun q9 => by rw [q9] at c_22; exact absurd c_22 (by decide))
    refine lv_aload_n hx hb dX1_hit_40 rfl (lv_at hl 2 rfl) ?_
    refine qg_ps hC hK hP mF_X1_9 dX1_hit_41 ?_
    refine lv_iload_n hx hb dX1_hit_44 rfl (lv_at hl 1 rfl) ?_
    refine qr_p y hC hK hP hG ey (by first | assumption | omega) (by omega) dX1_hit_45 ?_
    refine lv_iconst (v := 1) hx hb dX1_hit_46 (by decide) ?_
    refine lv_bipush (v := 99) hx hb dX1_hit_47 (by decide) ?_
    refine lv_aload_n hx hb dX1_hit_49 rfl (lv_at hl 2 rfl) ?_
    refine qg_ps hC hK hP mF_X1_9 dX1_hit_50 ?_
    refine lv_iload_n hx hb dX1_hit_53 rfl (lv_at hl 1 rfl) ?_
    refine qr_p y hC hK hP hG ey (by first | assumption | omega) (by omega) dX1_hit_54 ?_
    refine lv_iconst (v := 1) hx hb dX1_hit_55 (by decide) ?_
    refine ql_lk y hC hK hP (by first | assumption | omega) rfl dX1_hit_56 ?_
    refine lv_aload_n hx hb dX1_hit_57 rfl (lv_at hl 0 rfl) ?_
    refine lv_iconst (v := 1) hx hb dX1_hit_58 (by decide) ?_
    refine ql_lk i hC hK hP (by first | assumption | omega) rfl dX1_hit_59 ?_
    refine lv_iconst (v := 2) hx hb dX1_hit_60 (by decide) ?_
    refine lv_idiv hx hb dX1_hit_61 (by decide) ?_
    refine lv_iadd hx hb dX1_hit_62 ?_
    refine va_mmin hx hb (hml.trans hl.1.symm) hown (hts _ mM_X1_56) (hts _ mT_min) (hts _ mI_Math) (hts _ mC_min) (Nat.le_of_ble_eq_true rfl) (Nat.le_of_ble_eq_true rfl) (by show _ ≤ 1; omega) (by show _ ≤ 10; omega) dX1_hit_63 ?_
    refine qs_lk y hC hK hP hD hS (by first | assumption | omega) rfl dX1_hit_66 (fun H locs hP hD hS => ?_)
    refine lv_aload_n hx hb dX1_hit_67 rfl (lv_at hl 2 rfl) ?_
    refine qg_ps hC hK hP mF_X1_9 dX1_hit_68 ?_
    refine lv_iload_n hx hb dX1_hit_71 rfl (lv_at hl 1 rfl) ?_
    refine qr_p y hC hK hP hG ey (by first | assumption | omega) (by omega) dX1_hit_72 ?_
    refine lv_iconst (v := 2) hx hb dX1_hit_73 (by decide) ?_
    refine lv_dup2_11 hx hb dX1_hit_74 rfl rfl ?_
    refine ql_pu y hC hK hP (by first | assumption | omega) rfl dX1_hit_75 ?_
    refine lv_aload_n hx hb dX1_hit_76 rfl (lv_at hl 0 rfl) ?_
    refine lv_iconst (v := 2) hx hb dX1_hit_77 (by decide) ?_
    refine ql_pu i hC hK hP (by first | assumption | omega) rfl dX1_hit_78 ?_
    refine lv_iadd hx hb dX1_hit_79 ?_
    refine qs_pu y hC hK hP hD hS (by first | assumption | omega) rfl dX1_hit_80 (fun H locs hP hD hS => ?_)
    refine lv_aload_n hx hb dX1_hit_81 rfl (lv_at hl 0 rfl) ?_
    refine lv_iconst (v := 2) hx hb dX1_hit_82 (by decide) ?_
    refine lv_iconst (v := 0) hx hb dX1_hit_83 (by decide) ?_
    refine qs_pu i hC hK hP hD hS (by first | assumption | omega) rfl dX1_hit_84 (fun H locs hP hD hS => ?_)
    refine lv_iload_n hx hb dX1_hit_85 rfl (lv_at hl 1 rfl) ?_
    have hW9 : (F ++ (qW z cG b rp rw rm (upd lv i 0) (upd lk y (imin 99 ((lk y) + ((lk i) / 2)))) (upd (upd pu y ((pu y) + (pu i))) i 0) (upd fa i 0) he n nv du w mp mi k nt fu re ++ M) : va_W) = F ++ (qW z cG b rp rw rm (upd lv i 0) (if sp_isP n (sp_heir he (upd lv i 0) n i n (he i)) = 0 then lk else upd lk (sp_heir he (upd lv i 0) n i n (he i)).toNatClampNeg (imin 99 (lk (sp_heir he (upd lv i 0) n i n (he i)).toNatClampNeg + lk i / 2))) (upd (if sp_isP n (sp_heir he (upd lv i 0) n i n (he i)) = 0 then pu else upd pu (sp_heir he (upd lv i 0) n i n (he i)).toNatClampNeg (pu (sp_heir he (upd lv i 0) n i n (he i)).toNatClampNeg + pu i)) i 0) (upd fa i 0) he n nv du w mp mi k nt (if sp_isP n (sp_heir he (upd lv i 0) n i n (he i)) = 0 then fu + pu i else fu) re ++ M) := by simp only [heir_upd hn, ey, isP_in (show n < 2 ^ 31 by omega) hy, nI_clamp (show y < 2 ^ 31 by omega), one_ne, ↓reduceIte]
    rw [hW9] at hP hD
    refine W.widen (k := 1) (n := 10) (by omega) (by omega) ?_
    exact W.iret (v := sp_heir he lv n i n (he i)) hx hb hr (fun t ht hW => ⟨⟨sp_heir he lv n i n (he i), (), rfl, rfl, by rw [ht]; exact hP, hD⟩, hS.F ht⟩) hS.2.2 dX1_hit_86
  · have ey : sp_heir he lv n i n (he i) = -1 := (heir_ofi (lv := lv) hn hi hH).resolve_right (fun ⟨y, hy, _, _, q9⟩ => c_22 (by rw [q9]; exact nI_pos' (by omega)))
    refine lv_aload_n hx hb dX1_hit_25 rfl (lv_at hl 2 rfl) ?_
    refine lv_dup hx hb dX1_hit_26 rfl ?_
    refine qg_fu hC hK hP mF_X1_29 dX1_hit_27 ?_
    refine lv_aload_n hx hb dX1_hit_30 rfl (lv_at hl 0 rfl) ?_
    refine lv_iconst (v := 2) hx hb dX1_hit_31 (by decide) ?_
    refine ql_pu i hC hK hP (by first | assumption | omega) rfl dX1_hit_32 ?_
    refine lv_iadd hx hb dX1_hit_33 ?_
    refine qp_fu hC hK hP hD hS mF_X1_29 dX1_hit_34 (fun H locs hP hD hS => ?_)
    refine lv_goto (tgt := 81) hx hb dX1_hit_37 (by decide) ?_
    refine lv_aload_n hx hb dX1_hit_81 rfl (lv_at hl 0 rfl) ?_
    refine lv_iconst (v := 2) hx hb dX1_hit_82 (by decide) ?_
    refine lv_iconst (v := 0) hx hb dX1_hit_83 (by decide) ?_
    refine qs_pu i hC hK hP hD hS (by first | assumption | omega) rfl dX1_hit_84 (fun H locs hP hD hS => ?_)
    refine lv_iload_n hx hb dX1_hit_85 rfl (lv_at hl 1 rfl) ?_
    have hW9 : (F ++ (qW z cG b rp rw rm (upd lv i 0) lk (upd pu i 0) (upd fa i 0) he n nv du w mp mi k nt (fu + (pu i)) re ++ M) : va_W) = F ++ (qW z cG b rp rw rm (upd lv i 0) (if sp_isP n (sp_heir he (upd lv i 0) n i n (he i)) = 0 then lk else upd lk (sp_heir he (upd lv i 0) n i n (he i)).toNatClampNeg (imin 99 (lk (sp_heir he (upd lv i 0) n i n (he i)).toNatClampNeg + lk i / 2))) (upd (if sp_isP n (sp_heir he (upd lv i 0) n i n (he i)) = 0 then pu else upd pu (sp_heir he (upd lv i 0) n i n (he i)).toNatClampNeg (pu (sp_heir he (upd lv i 0) n i n (he i)).toNatClampNeg + pu i)) i 0) (upd fa i 0) he n nv du w mp mi k nt (if sp_isP n (sp_heir he (upd lv i 0) n i n (he i)) = 0 then fu + pu i else fu) re ++ M) := by simp only [heir_upd hn, ey, isP_m1, ↓reduceIte]
    rw [hW9] at hP hD
    refine W.widen (k := 1) (n := 10) (by omega) (by omega) ?_
    exact W.iret (v := sp_heir he lv n i n (he i)) hx hb hr (fun t ht hW => ⟨⟨sp_heir he lv n i n (he i), (), rfl, rfl, by rw [ht]; exact hP, hD⟩, hS.F ht⟩) hS.2.2 dX1_hit_86
set_option maxRecDepth 100000 in
theorem k_X1_hit {p : Program} {l : Launch} {e : Env} {R : Room} {s : State} {m : MethodId} {args : Array Value} {below : List Frame} {meth : Method} {c : Code} {H : Heap} {locs : List Loc} {cells slots : Nat} {Q : State → Prop} {cc : ByteArray} {nL pc : Nat} {ls : Array Slot} {rest : List Value} {A : Nat → Prop} {H0 : Heap} {own : String} {D : va_G} {z : ClassId × ClassId} {cG : ClassId} {F M : va_W} {b : Nat → Nat} {rp : Nat → Nat} {rw : Nat → Nat} {rm : Nat → Nat} {lv : Nat → Int32} {lk : Nat → Int32} {pu : Nat → Int32} {fa : Nat → Int32} {he : Nat → Int32} {n : Nat} {nv : Nat → Int32} {du : Nat → Int32} {w : Nat} {mp : Nat → Int32} {mi : Nat → Int32} {k : Nat} {nt : Int32} {fu : Int32} {re : Int32} {i : Nat} {idx : Nat} (hC : CallFix p m c cc nL s args lw_all own) (hk : Cond.methodLink own idx yX1_hit ∈ lw_all) (hK : kK D z s) (hG : kG cG s) (hP : va_P D vwCl (F ++ (qW z cG b rp rw rm lv lk pu fa he n nv du w mp mi k nt fu re ++ M)) H) (hD : va_D A (F ++ (qW z cG b rp rw rm lv lk pu fa he n nv du w mp mi k nt fu re ++ M))) (hS : va_S A H0 H locs) (hA : ∀ q : Nat, H0.size ≤ q → A q) (hl : ls.size = nL) (hR : 2 ≤ R.frames ∧ 46 ≤ R.locals) (hz : cells + 1 ≤ R.cells ∧ slots + 10 ≤ R.slots) (hr : (rest.map fun v => v.category).sum ≤ 8)  (hi : i < n) (hn : n ≤ 10) (hH : heirR he n) (h01 : bZ lv n) (hdg : decode cc pc = .ok (.invokevirtual idx, 3)) (kk : ∀ (H1 : Heap) (locs1 : List Loc), va_P D vwCl (F ++ (qW z cG b rp rw rm (upd lv i 0) (if sp_isP n (sp_heir he (upd lv i 0) n i n (he i)) = 0 then lk else upd lk (sp_heir he (upd lv i 0) n i n (he i)).toNatClampNeg (imin 99 (lk (sp_heir he (upd lv i 0) n i n (he i)).toNatClampNeg + lk i / 2))) (upd (if sp_isP n (sp_heir he (upd lv i 0) n i n (he i)) = 0 then pu else upd pu (sp_heir he (upd lv i 0) n i n (he i)).toNatClampNeg (pu (sp_heir he (upd lv i 0) n i n (he i)).toNatClampNeg + pu i)) i 0) (upd fa i 0) he n nv du w mp mi k nt (if sp_isP n (sp_heir he (upd lv i 0) n i n (he i)) = 0 then fu + pu i else fu) re ++ M)) H1 → va_D A (F ++ (qW z cG b rp rw rm (upd lv i 0) (if sp_isP n (sp_heir he (upd lv i 0) n i n (he i)) = 0 then lk else upd lk (sp_heir he (upd lv i 0) n i n (he i)).toNatClampNeg (imin 99 (lk (sp_heir he (upd lv i 0) n i n (he i)).toNatClampNeg + lk i / 2))) (upd (if sp_isP n (sp_heir he (upd lv i 0) n i n (he i)) = 0 then pu else upd pu (sp_heir he (upd lv i 0) n i n (he i)).toNatClampNeg (pu (sp_heir he (upd lv i 0) n i n (he i)).toNatClampNeg + pu i)) i 0) (upd fa i 0) he n nv du w mp mi k nt (if sp_isP n (sp_heir he (upd lv i 0) n i n (he i)) = 0 then fu + pu i else fu) re ++ M)) → va_S A H0 H1 locs1 → W p l e R s m args below meth c H1 locs1 (cells + 1) (slots + 10) Q (F0 m (pc + 3) ls (.int (sp_heir he lv n i n (he i)) :: rest))) : W p l e R s m args below meth c H locs cells slots Q (F0 m pc ls (.int (nI i) :: .ref (b 0) :: rest)) := by
  have hF := wj_F hD hS hA
  refine va_calli (va_runV (As := [.int (nI i)]) (rest := rest) hC (c_X1_hit l H.size i hi hn hH h01) (cwV 1 hC.2.2.2.2 (gi_V hk mV_X1_hit mS_X1_hit mI_Sim mC_X1_hit) rfl rfl rfl (by decide +kernel) hR) ⟨fun a1 U g mk q9 => ⟨q9.1, q9.2.1, qI.call q9.2.2.1, q9.2.2.2.1, trivial⟩, q_recv hK hP, fun U hU hW => ⟨rfl, by rw [hU], qI.into hK hG hP hU hW, hD.weaken (fun _ _ _ _ => trivial), trivial⟩⟩ rfl rfl hl rfl (lv_room hr) hdg hz) hS (fun q _ h => hF q h) hF (fun r u t H1 locs1 ht hvm hw hB hz1 hk1 hS1 => ?_)
  obtain ⟨hP1, hD1⟩ := hB
  rw [ht] at hP1
  have hw : r = sp_heir he lv n i n (he i) := hw
  rw [hw]
  exact kk H1 locs1 hP1 (hD1.weaken (fun _ q9 _ h => hF q9.1 h)) hS1
set_option maxHeartbeats 4000000 in
set_option maxRecDepth 100000 in
theorem c_X1_pass (l : Launch) (sz : Nat) {D : va_G} {z : ClassId × ClassId} {cG : ClassId} {F M : va_W} {b : Nat → Nat} {rp : Nat → Nat} {rw : Nat → Nat} {rm : Nat → Nat} {lv : Nat → Int32} {lk : Nat → Int32} {pu : Nat → Int32} {fa : Nat → Int32} {he : Nat → Int32} {n : Nat} {nv : Nat → Int32} {du : Nat → Int32} {w : Nat} {mp : Nat → Int32} {mi : Nat → Int32} {k : Nat} {nt : Int32} {fu : Int32} {re : Int32} (tn : Nat) (h2 : tn ≤ 30) (hn : n ≤ 10) (hw : w ≤ 6) (h01 : bZ lv n) (hlk : bN 99 lk n) (hdu : bZ du w) : Met l yX1_pass (ws_ yX1_pass cX1_pass 7 (some .int)) ({ frames := 1, cells := 0, slots := 0, locals := 25 } : Room) (va_Pc [.ref (b 0), .int (nI tn)] (fun U => U.heap.size = sz ∧ qI D z cG (F ++ (qW z cG b rp rw rm lv lk pu fa he n nv du w mp mi k nt fu re ++ M)) U ∧ va_D (fun _ => True) (F ++ (qW z cG b rp rw rm lv lk pu fa he n nv du w mp mi k nt fu re ++ M)) ∧ True)) (va_Qi (fun (r : Int32) (u : Unit) => r = sp_shk (sp_pn du w nv tn) w) (fun u t9 => va_P D vwCl (F ++ (qW z cG b rp rw rm lv (sp_pl lv n lk tn) pu fa he n (sp_pn du w nv tn) du w mp mi k (nt + nI tn) fu re ++ M)) t9.heap ∧ va_D (va_A (F ++ (qW z cG b rp rw rm lv lk pu fa he n nv du w mp mi k nt fu re ++ M)) sz) (F ++ (qW z cG b rp rw rm lv (sp_pl lv n lk tn) pu fa he n (sp_pn du w nv tn) du w mp mi k (nt + nI tn) fu re ++ M))) (va_A (F ++ (qW z cG b rp rw rm lv lk pu fa he n nv du w mp mi k nt fu re ++ M)) sz)) 0 0 (va_A (F ++ (qW z cG b rp rw rm lv lk pu fa he n nv du w mp mi k nt fu re ++ M)) sz) := by
  refine Met.ofW (cc := cX1_pass) (maxL := 7) (ret := (some .int)) (by decide) rfl ?_
  intro p e s m args below meth c s₁ B hml hv
  obtain ⟨rfl, hsz, ⟨hP, hK, hG⟩, hD0, -⟩ := hv
  have hx := B.exec
  have hb := B.bytes
  have hr := B.returns
  have hts := atoms_spec (ws := ws_ yX1_pass cX1_pass 7 (some .int)) B.pre
  have hts : ∀ w ∈ lw_all, w.before _ s = true := fun w h => hts w (List.mem_cons_of_mem _ h)
  have hown : s.vm.findClass RX1 = some m.cls := findClass_of_methodNamed B.named
  have hlocks := B.notSynchronized
  have hC : CallFix p m c cX1_pass 7 s _ lw_all RX1 := ⟨hx, hb, hml, hown, hts⟩
  subst hsz
  have hD := hD0.self (sz := s.heap.size)
  generalize hAe : va_A (F ++ (qW z cG b rp rw rm lv lk pu fa he n nv du w mp mi k nt fu re ++ M)) s.heap.size = A at hD ⊢
  have hA : ∀ q : Nat, s.heap.size ≤ q → A q := fun q h => by rw [← hAe]; exact Or.inr h
  have hS : va_S A s.heap s.heap [] := va_S.rf
  have hl := lv_entry ([.ref (b 0), .int (nI tn)]) (n := 7) (Nat.le_of_ble_eq_true rfl)
  rw [lg_entry_eq]
  generalize (lg_sl ([.ref (b 0), .int (nI tn)]) ++ List.replicate (7 - (lg_sl ([.ref (b 0), .int (nI tn)])).length) Slot.unset).toArray = ls at hl ⊢
  have hl : lv_has ls 7 [(0, .ref (b 0)), (1, .int (nI tn))] := hl
  refine lv_iconst (v := 0) hx hb dX1_pass_0 (by decide) ?_
  refine lv_istore_n (lv' := [(2, .int 0), (0, .ref (b 0)), (1, .int (nI tn))]) hx hb dX1_pass_1 rfl hl (by decide) rfl (fun ls hl => ?_)
  have outer_2 : ∀ (f : Nat) (u : Nat), u ≤ tn → tn + 1 ≤ u + f → ∀ (H : Heap) (locs : List Loc), va_P D vwCl (F ++ (qW z cG b rp rw rm lv (sp_pl lv n lk u) pu fa he n (sp_pn du w nv u) du w mp mi k (nt + nI u) fu re ++ M)) H → va_D A (F ++ (qW z cG b rp rw rm lv (sp_pl lv n lk u) pu fa he n (sp_pn du w nv u) du w mp mi k (nt + nI u) fu re ++ M)) → va_S A s.heap H locs → ∀ ls : Array Slot, lv_has ls 7 [(0, .ref (b 0)), (1, .int (nI tn)), (2, .int (nI u))] → W p l e ({ frames := 1, cells := 0, slots := 0, locals := 25 } : Room) s m ([.ref (b 0), .int (nI tn)] : List Value).toArray below meth c H locs (0) (0) (MQ below (va_Qi (fun (r : Int32) (u : Unit) => r = sp_shk (sp_pn du w nv tn) w) (fun u t9 => va_P D vwCl (F ++ (qW z cG b rp rw rm lv (sp_pl lv n lk tn) pu fa he n (sp_pn du w nv tn) du w mp mi k (nt + nI tn) fu re ++ M)) t9.heap ∧ va_D A (F ++ (qW z cG b rp rw rm lv (sp_pl lv n lk tn) pu fa he n (sp_pn du w nv tn) du w mp mi k (nt + nI tn) fu re ++ M))) A) ([.ref (b 0), .int (nI tn)] : List Value).toArray s 0 0 A) (F0 m 2 ls []) := by
    intro f
    induction f with
    | zero =>
      intro u hu hf
      exact absurd hf (by omega)
    | succ f ih2 =>
      intro u hu hf H locs hP hD hS ls hl
      refine lv_iload_n hx hb dX1_pass_2 rfl (lv_at hl 2 rfl) ?_
      refine lv_iload_n hx hb dX1_pass_3 rfl (lv_at hl 1 rfl) ?_
      refine lv_icmp_ge (tgt := 130) hx hb dX1_pass_4 (by decide) (fun c_4 => ?_) (fun c_4 => ?_)
      · have nc_4 : tn ≤ u := nn_le (by omega) c_4
        have eu : u = tn := by omega
        rw [eu] at hl hP hD
        refine lv_aload_n hx hb dX1_pass_130 rfl (lv_at hl 0 rfl) ?_
        refine k_X1_shaken hC mM_X1_62 hK hG hP (by first | assumption | omega) hl.1 ⟨Nat.le_of_ble_eq_true rfl, Nat.le_of_ble_eq_true rfl⟩ ⟨Nat.zero_le _, Nat.zero_le _⟩ (Nat.le_of_ble_eq_true rfl) dX1_pass_131 ?_
        exact W.iret (v := sp_shk (sp_pn du w nv tn) w) hx hb hr (fun t ht hW => ⟨⟨sp_shk (sp_pn du w nv tn) w, (), rfl, rfl, by rw [ht]; exact hP, hD⟩, hS.F ht⟩) hS.2.2 dX1_pass_134
      · have nc_4 : u < tn := nn_nle (by omega) c_4
        refine lv_aload_n hx hb dX1_pass_7 rfl (lv_at hl 0 rfl) ?_
        refine qg_ws hC hK hP mF_X1_15 dX1_pass_8 ?_
        refine lv_astore_n (lv' := [(3, .ref (b 2)), (0, .ref (b 0)), (1, .int (nI tn)), (2, .int (nI u))]) hx hb dX1_pass_11 rfl hl (by decide) rfl (fun ls hl => ?_)
        refine lv_aload_n hx hb dX1_pass_12 rfl (lv_at hl 0 rfl) ?_
        refine qlen_w hC hK hP hG dX1_pass_13 ?_
        refine lv_istore (lv' := [(4, .int (nI w)), (3, .ref (b 2)), (0, .ref (b 0)), (1, .int (nI tn)), (2, .int (nI u))]) hx hb dX1_pass_14 hl (by decide) rfl (fun ls hl => ?_)
        refine lv_iconst (v := 0) hx hb dX1_pass_16 (by decide) ?_
        refine lv_istore (lv' := [(5, .int 0), (4, .int (nI w)), (3, .ref (b 2)), (0, .ref (b 0)), (1, .int (nI tn)), (2, .int (nI u))]) hx hb dX1_pass_17 hl (by decide) rfl (fun ls hl => ?_)
        have inner_19 : ∀ (f : Nat) (j : Nat), j ≤ w → w + 1 ≤ j + f → ∀ (H : Heap) (locs : List Loc), va_P D vwCl (F ++ (qW z cG b rp rw rm lv (sp_pl lv n lk u) pu fa he n (sp_nn du (sp_pn du w nv u) j) du w mp mi k (nt + nI u) fu re ++ M)) H → va_D A (F ++ (qW z cG b rp rw rm lv (sp_pl lv n lk u) pu fa he n (sp_nn du (sp_pn du w nv u) j) du w mp mi k (nt + nI u) fu re ++ M)) → va_S A s.heap H locs → ∀ ls : Array Slot, lv_has ls 7 [(0, .ref (b 0)), (1, .int (nI tn)), (2, .int (nI u)), (3, .ref (b 2)), (4, .int (nI w)), (5, .int (nI j))] → W p l e ({ frames := 1, cells := 0, slots := 0, locals := 25 } : Room) s m ([.ref (b 0), .int (nI tn)] : List Value).toArray below meth c H locs (0) (0) (MQ below (va_Qi (fun (r : Int32) (u : Unit) => r = sp_shk (sp_pn du w nv tn) w) (fun u t9 => va_P D vwCl (F ++ (qW z cG b rp rw rm lv (sp_pl lv n lk tn) pu fa he n (sp_pn du w nv tn) du w mp mi k (nt + nI tn) fu re ++ M)) t9.heap ∧ va_D A (F ++ (qW z cG b rp rw rm lv (sp_pl lv n lk tn) pu fa he n (sp_pn du w nv tn) du w mp mi k (nt + nI tn) fu re ++ M))) A) ([.ref (b 0), .int (nI tn)] : List Value).toArray s 0 0 A) (F0 m 19 ls []) := by
          intro f
          induction f with
          | zero =>
            intro j hj hf1
            exact absurd hf1 (by omega)
          | succ f ih19 =>
            intro j hj hf1 H locs hP hD hS ls hl
            refine lv_iload hx hb dX1_pass_19 (lv_at hl 5 rfl) ?_
            refine lv_iload hx hb dX1_pass_21 (lv_at hl 4 rfl) ?_
            refine lv_icmp_ge (tgt := 58) hx hb dX1_pass_23 (by decide) (fun c_23 => ?_) (fun c_23 => ?_)
            · have nc_23 : w ≤ j := nn_le (by omega) c_23
              have ej : j = w := by omega
              rw [ej] at hl hP hD
              refine lv_aload_n hx hb dX1_pass_58 rfl (lv_at hl 0 rfl) ?_
              refine qg_ps hC hK hP mF_X1_9 dX1_pass_59 ?_
              refine lv_astore_n (lv' := [(3, .ref (b 1)), (0, .ref (b 0)), (1, .int (nI tn)), (2, .int (nI u)), (4, .int (nI w)), (5, .int (nI w))]) hx hb dX1_pass_62 rfl hl (by decide) rfl (fun ls hl => ?_)
              refine lv_aload_n hx hb dX1_pass_63 rfl (lv_at hl 0 rfl) ?_
              refine qlen_p hC hK hP hG dX1_pass_64 ?_
              refine lv_istore (lv' := [(4, .int (nI n)), (3, .ref (b 1)), (0, .ref (b 0)), (1, .int (nI tn)), (2, .int (nI u)), (5, .int (nI w))]) hx hb dX1_pass_65 hl (by decide) rfl (fun ls hl => ?_)
              refine lv_iconst (v := 0) hx hb dX1_pass_67 (by decide) ?_
              refine lv_istore (lv' := [(5, .int 0), (4, .int (nI n)), (3, .ref (b 1)), (0, .ref (b 0)), (1, .int (nI tn)), (2, .int (nI u))]) hx hb dX1_pass_68 hl (by decide) rfl (fun ls hl => ?_)
              have inner_70 : ∀ (f : Nat) (v : Nat), v ≤ n → n + 1 ≤ v + f → ∀ (H : Heap) (locs : List Loc), va_P D vwCl (F ++ (qW z cG b rp rw rm lv (sp_nl lv (sp_pl lv n lk u) v) pu fa he n (sp_pn du w nv (u + 1)) du w mp mi k (nt + nI u) fu re ++ M)) H → va_D A (F ++ (qW z cG b rp rw rm lv (sp_nl lv (sp_pl lv n lk u) v) pu fa he n (sp_pn du w nv (u + 1)) du w mp mi k (nt + nI u) fu re ++ M)) → va_S A s.heap H locs → ∀ ls : Array Slot, lv_has ls 7 [(0, .ref (b 0)), (1, .int (nI tn)), (2, .int (nI u)), (3, .ref (b 1)), (4, .int (nI n)), (5, .int (nI v))] → W p l e ({ frames := 1, cells := 0, slots := 0, locals := 25 } : Room) s m ([.ref (b 0), .int (nI tn)] : List Value).toArray below meth c H locs (0) (0) (MQ below (va_Qi (fun (r : Int32) (u : Unit) => r = sp_shk (sp_pn du w nv tn) w) (fun u t9 => va_P D vwCl (F ++ (qW z cG b rp rw rm lv (sp_pl lv n lk tn) pu fa he n (sp_pn du w nv tn) du w mp mi k (nt + nI tn) fu re ++ M)) t9.heap ∧ va_D A (F ++ (qW z cG b rp rw rm lv (sp_pl lv n lk tn) pu fa he n (sp_pn du w nv tn) du w mp mi k (nt + nI tn) fu re ++ M))) A) ([.ref (b 0), .int (nI tn)] : List Value).toArray s 0 0 A) (F0 m 70 ls []) := by
                intro f
                induction f with
                | zero =>
                  intro v hv hf2
                  exact absurd hf2 (by omega)
                | succ f ih70 =>
                  intro v hv hf2 H locs hP hD hS ls hl
                  refine lv_iload hx hb dX1_pass_70 (lv_at hl 5 rfl) ?_
                  refine lv_iload hx hb dX1_pass_72 (lv_at hl 4 rfl) ?_
                  refine lv_icmp_ge (tgt := 114) hx hb dX1_pass_74 (by decide) (fun c_74 => ?_) (fun c_74 => ?_)
                  · have nc_74 : n ≤ v := nn_le (by omega) c_74
                    have ev : v = n := by omega
                    rw [ev] at hl hP hD
                    refine lv_aload_n hx hb dX1_pass_114 rfl (lv_at hl 0 rfl) ?_
                    refine lv_dup hx hb dX1_pass_115 rfl ?_
                    refine qg_nt hC hK hP mF_X1_59 dX1_pass_116 ?_
                    refine lv_iconst (v := 1) hx hb dX1_pass_119 (by decide) ?_
                    refine lv_iadd hx hb dX1_pass_120 ?_
                    refine qp_nt hC hK hP hD hS mF_X1_59 dX1_pass_121 (fun H locs hP hD hS => ?_)
                    refine lv_iinc (v := nI (u + 1)) (lv' := [(2, .int (nI (u + 1))), (0, .ref (b 0)), (1, .int (nI tn)), (3, .ref (b 1)), (4, .int (nI n)), (5, .int (nI n))]) hx hb dX1_pass_124 hl (k := 2) rfl (nI_1 _) (by decide) rfl (fun ls hl => ?_)
                    refine lv_goto (tgt := 2) hx hb dX1_pass_127 (by decide) ?_
                    rw [show nt + nI u + 1 = nt + nI (u + 1) from by rw [← nI_1]; grind] at hP hD
                    exact ih2 (u + 1) (by omega) (by omega) _ _ hP hD hS _ (lv_sub hl [1, 2, 0] rfl)
                  · have nc_74 : v < n := nn_nle (by omega) c_74
                    have hv1 : v < n := by omega
                    refine lv_aload_n hx hb dX1_pass_77 rfl (lv_at hl 3 rfl) ?_
                    refine lv_iload hx hb dX1_pass_78 (lv_at hl 5 rfl) ?_
                    refine qr_p v hC hK hP hG rfl (by first | assumption | omega) (by omega) dX1_pass_80 ?_
                    refine lv_astore (lv' := [(6, .ref (rp v)), (0, .ref (b 0)), (1, .int (nI tn)), (2, .int (nI u)), (3, .ref (b 1)), (4, .int (nI n)), (5, .int (nI v))]) hx hb dX1_pass_81 hl (by decide) rfl (fun ls hl => ?_)
                    refine lv_aload hx hb dX1_pass_83 (lv_at hl 0 rfl) ?_
                    refine lv_iconst (v := 0) hx hb dX1_pass_85 (by decide) ?_
                    refine ql_lv v hC hK hP (by first | assumption | omega) nI_0.symm dX1_pass_86 ?_
                    refine lv_iconst (v := 1) hx hb dX1_pass_87 (by decide) ?_
                    refine lv_icmp_ne (tgt := 108) hx hb dX1_pass_88 (by decide) (fun c_88 => ?_) (fun c_88 => ?_)
                    · refine lv_iinc (v := nI (v + 1)) (lv' := [(5, .int (nI (v + 1))), (6, .ref (rp v)), (0, .ref (b 0)), (1, .int (nI tn)), (2, .int (nI u)), (3, .ref (b 1)), (4, .int (nI n))]) hx hb dX1_pass_108 hl (k := 6) rfl (nI_1 _) (by decide) rfl (fun ls hl => ?_)
                      refine lv_goto (tgt := 70) hx hb dX1_pass_111 (by decide) ?_
                      rw [nl_0 ((h01 v hv1).resolve_right c_88)] at hP hD
                      exact ih70 (v + 1) (by omega) (by omega) _ _ hP hD hS _ (lv_sub hl [2, 3, 4, 5, 6, 0] rfl)
                    · refine lv_aload hx hb dX1_pass_91 (lv_at hl 0 rfl) ?_
                      refine lv_iconst (v := 1) hx hb dX1_pass_93 (by decide) ?_
                      refine ql_lk v hC hK hP (by first | assumption | omega) rfl dX1_pass_94 ?_
                      refine lv_bipush (v := 99) hx hb dX1_pass_95 (by decide) ?_
                      refine lv_icmp_ge (tgt := 108) hx hb dX1_pass_97 (by decide) (fun c_97 => ?_) (fun c_97 => ?_)
                      · refine lv_iinc (v := nI (v + 1)) (lv' := [(5, .int (nI (v + 1))), (6, .ref (rp v)), (0, .ref (b 0)), (1, .int (nI tn)), (2, .int (nI u)), (3, .ref (b 1)), (4, .int (nI n))]) hx hb dX1_pass_108 hl (k := 6) rfl (nI_1 _) (by decide) rfl (fun ls hl => ?_)
                        refine lv_goto (tgt := 70) hx hb dX1_pass_111 (by decide) ?_
                        rw [nl_9 (bN_nl (bN_pl hlk u) v) hv1 c_88 c_97] at hP hD
                        exact ih70 (v + 1) (by omega) (by omega) _ _ hP hD hS _ (lv_sub hl [2, 3, 4, 5, 6, 0] rfl)
                      · refine lv_aload hx hb dX1_pass_100 (lv_at hl 0 rfl) ?_
                        refine lv_iconst (v := 1) hx hb dX1_pass_102 (by decide) ?_
                        refine lv_dup2_11 hx hb dX1_pass_103 rfl rfl ?_
                        refine ql_lk v hC hK hP (by first | assumption | omega) rfl dX1_pass_104 ?_
                        refine lv_iconst (v := 1) hx hb dX1_pass_105 (by decide) ?_
                        refine lv_iadd hx hb dX1_pass_106 ?_
                        refine qs_lk v hC hK hP hD hS (by first | assumption | omega) rfl dX1_pass_107 (fun H locs hP hD hS => ?_)
                        refine lv_iinc (v := nI (v + 1)) (lv' := [(5, .int (nI (v + 1))), (6, .ref (rp v)), (0, .ref (b 0)), (1, .int (nI tn)), (2, .int (nI u)), (3, .ref (b 1)), (4, .int (nI n))]) hx hb dX1_pass_108 hl (k := 6) rfl (nI_1 _) (by decide) rfl (fun ls hl => ?_)
                        refine lv_goto (tgt := 70) hx hb dX1_pass_111 (by decide) ?_
                        rw [nl_1 (bN_nl (bN_pl hlk u) v) hv1 c_88 c_97] at hP hD
                        exact ih70 (v + 1) (by omega) (by omega) _ _ hP hD hS _ (lv_sub hl [2, 3, 4, 5, 6, 0] rfl)
              exact inner_70 (n + 1) 0 (Nat.zero_le _) (by omega) _ _ hP hD hS _ (lv_sub hl [3, 4, 5, 2, 1, 0] rfl)
            · have nc_23 : j < w := nn_nle (by omega) c_23
              have hj1 : j < w := by omega
              refine lv_aload_n hx hb dX1_pass_26 rfl (lv_at hl 3 rfl) ?_
              refine lv_iload hx hb dX1_pass_27 (lv_at hl 5 rfl) ?_
              refine qr_w j hC hK hP hG rfl (by first | assumption | omega) (by omega) dX1_pass_29 ?_
              refine lv_astore (lv' := [(6, .ref (rw j)), (0, .ref (b 0)), (1, .int (nI tn)), (2, .int (nI u)), (3, .ref (b 2)), (4, .int (nI w)), (5, .int (nI j))]) hx hb dX1_pass_30 hl (by decide) rfl (fun ls hl => ?_)
              refine lv_aload hx hb dX1_pass_32 (lv_at hl 0 rfl) ?_
              refine lv_iconst (v := 0) hx hb dX1_pass_34 (by decide) ?_
              refine lv_bipush (v := 9) hx hb dX1_pass_35 (by decide) ?_
              refine lv_aload hx hb dX1_pass_37 (lv_at hl 0 rfl) ?_
              refine lv_iconst (v := 0) hx hb dX1_pass_39 (by decide) ?_
              refine ql_nv j hC hK hP (by first | assumption | omega) nI_0.symm dX1_pass_40 ?_
              refine lv_iconst (v := 2) hx hb dX1_pass_41 (by decide) ?_
              refine lv_iadd hx hb dX1_pass_42 ?_
              refine lv_aload hx hb dX1_pass_43 (lv_at hl 0 rfl) ?_
              refine lv_iconst (v := 1) hx hb dX1_pass_45 (by decide) ?_
              refine ql_du j hC hK hP (by first | assumption | omega) rfl dX1_pass_46 ?_
              refine lv_isub hx hb dX1_pass_47 ?_
              refine va_mmin hx hb (hml.trans hl.1.symm) hown (hts _ mM_X1_56) (hts _ mT_min) (hts _ mI_Math) (hts _ mC_min) (Nat.le_of_ble_eq_true rfl) (Nat.le_of_ble_eq_true rfl) (Nat.zero_le _) (Nat.zero_le _) dX1_pass_48 ?_
              refine qs_nv j hC hK hP hD hS (by first | assumption | omega) nI_0.symm dX1_pass_51 (fun H locs hP hD hS => ?_)
              refine lv_iinc (v := nI (j + 1)) (lv' := [(5, .int (nI (j + 1))), (6, .ref (rw j)), (0, .ref (b 0)), (1, .int (nI tn)), (2, .int (nI u)), (3, .ref (b 2)), (4, .int (nI w))]) hx hb dX1_pass_52 hl (k := 6) rfl (nI_1 _) (by decide) rfl (fun ls hl => ?_)
              refine lv_goto (tgt := 19) hx hb dX1_pass_55 (by decide) ?_
              rw [show upd (sp_nn du (sp_pn du w nv u) j) j (imin 9 ((((sp_nn du (sp_pn du w nv u) j) j) + 2) - (du j))) = sp_nn du (sp_pn du w nv u) (j + 1) from by simp only [sp_nn]; rw [gain_eq (hdu j hj1)]] at hP hD
              exact ih19 (j + 1) (by omega) (by omega) _ _ hP hD hS _ (lv_sub hl [2, 3, 4, 5, 6, 0] rfl)
        exact inner_19 (w + 1) 0 (Nat.zero_le _) (by omega) _ _ hP hD hS _ (lv_sub hl [3, 4, 5, 2, 1, 0] rfl)
  rw [show nt = nt + nI 0 from by rw [nI_0]; grind] at hP hD
  exact outer_2 (tn + 1) 0 (Nat.zero_le _) (by omega) _ _ hP hD hS _ (lv_sub hl [1, 2, 0] rfl)
set_option maxRecDepth 100000 in
theorem k_X1_pass {p : Program} {l : Launch} {e : Env} {R : Room} {s : State} {m : MethodId} {args : Array Value} {below : List Frame} {meth : Method} {c : Code} {H : Heap} {locs : List Loc} {cells slots : Nat} {Q : State → Prop} {cc : ByteArray} {nL pc : Nat} {ls : Array Slot} {rest : List Value} {A : Nat → Prop} {H0 : Heap} {own : String} {D : va_G} {z : ClassId × ClassId} {cG : ClassId} {F M : va_W} {b : Nat → Nat} {rp : Nat → Nat} {rw : Nat → Nat} {rm : Nat → Nat} {lv : Nat → Int32} {lk : Nat → Int32} {pu : Nat → Int32} {fa : Nat → Int32} {he : Nat → Int32} {n : Nat} {nv : Nat → Int32} {du : Nat → Int32} {w : Nat} {mp : Nat → Int32} {mi : Nat → Int32} {k : Nat} {nt : Int32} {fu : Int32} {re : Int32} {tn : Nat} {idx : Nat} (hC : CallFix p m c cc nL s args lw_all own) (hk : Cond.methodLink own idx yX1_pass ∈ lw_all) (hK : kK D z s) (hG : kG cG s) (hP : va_P D vwCl (F ++ (qW z cG b rp rw rm lv lk pu fa he n nv du w mp mi k nt fu re ++ M)) H) (hD : va_D A (F ++ (qW z cG b rp rw rm lv lk pu fa he n nv du w mp mi k nt fu re ++ M))) (hS : va_S A H0 H locs) (hA : ∀ q : Nat, H0.size ≤ q → A q) (hl : ls.size = nL) (hR : 2 ≤ R.frames ∧ 51 ≤ R.locals) (hz : cells + 0 ≤ R.cells ∧ slots + 0 ≤ R.slots) (hr : (rest.map fun v => v.category).sum ≤ 8)  (h2 : tn ≤ 30) (hn : n ≤ 10) (hw : w ≤ 6) (h01 : bZ lv n) (hlk : bN 99 lk n) (hdu : bZ du w) (hdg : decode cc pc = .ok (.invokevirtual idx, 3)) (kk : ∀ (H1 : Heap) (locs1 : List Loc), va_P D vwCl (F ++ (qW z cG b rp rw rm lv (sp_pl lv n lk tn) pu fa he n (sp_pn du w nv tn) du w mp mi k (nt + nI tn) fu re ++ M)) H1 → va_D A (F ++ (qW z cG b rp rw rm lv (sp_pl lv n lk tn) pu fa he n (sp_pn du w nv tn) du w mp mi k (nt + nI tn) fu re ++ M)) → va_S A H0 H1 locs1 → W p l e R s m args below meth c H1 locs1 (cells + 0) (slots + 0) Q (F0 m (pc + 3) ls (.int (sp_shk (sp_pn du w nv tn) w) :: rest))) : W p l e R s m args below meth c H locs cells slots Q (F0 m pc ls (.int (nI tn) :: .ref (b 0) :: rest)) := by
  have hF := wj_F hD hS hA
  refine va_calli (va_runV (As := [.int (nI tn)]) (rest := rest) hC (c_X1_pass l H.size tn h2 hn hw h01 hlk hdu) (cwV 1 hC.2.2.2.2 (gi_V hk mV_X1_pass mS_X1_pass mI_Sim mC_X1_pass) rfl rfl rfl (by decide +kernel) hR) ⟨fun a1 U g mk q9 => ⟨q9.1, q9.2.1, qI.call q9.2.2.1, q9.2.2.2.1, trivial⟩, q_recv hK hP, fun U hU hW => ⟨rfl, by rw [hU], qI.into hK hG hP hU hW, hD.weaken (fun _ _ _ _ => trivial), trivial⟩⟩ rfl rfl hl rfl (lv_room hr) hdg hz) hS (fun q _ h => hF q h) hF (fun r u t H1 locs1 ht hvm hw hB hz1 hk1 hS1 => ?_)
  obtain ⟨hP1, hD1⟩ := hB
  rw [ht] at hP1
  have hw : r = sp_shk (sp_pn du w nv tn) w := hw
  rw [hw]
  exact kk H1 locs1 hP1 (hD1.weaken (fun _ q9 _ h => hF q9.1 h)) hS1

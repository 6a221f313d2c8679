/-! counts -/
theorem cnt_is {lv : Nat → Int32} : ∀ n : Nat, ∃ c, c ≤ n ∧ sp_cnt lv n = nI c ∧ (c = 0 ↔ ∀ i, i < n → lv i = 0)
  | 0 => ⟨0, Nat.le_refl _, rfl, ⟨fun _ i h => absurd h (Nat.not_lt_zero i), fun _ => rfl⟩⟩
  | n + 1 => by
    obtain ⟨c, h1, h2, h3⟩ := cnt_is (lv := lv) n
    simp only [sp_cnt]
    by_cases q : lv n = 0
    · rw [if_pos q]
      refine ⟨c, by omega, h2, ⟨fun h i hi => ?_, fun h => h3.mpr (fun i hi => h i (by omega))⟩⟩
      by_cases e : i = n
      · rw [e]; exact q
      · exact h3.mp h i (by omega)
    · rw [if_neg q, h2, nI_1]
      exact ⟨c + 1, by omega, rfl, ⟨fun h => by omega, fun h => absurd (h n (by omega)) q⟩⟩
theorem shk_is {nv : Nat → Int32} : ∀ n : Nat, ∃ c, c ≤ n ∧ sp_shk nv n = nI c ∧ (c = 0 ↔ ∀ i, i < n → sp_sh (nv i) = 0)
  | 0 => ⟨0, Nat.le_refl _, rfl, ⟨fun _ i h => absurd h (Nat.not_lt_zero i), fun _ => rfl⟩⟩
  | n + 1 => by
    obtain ⟨c, h1, h2, h3⟩ := shk_is (nv := nv) n
    simp only [sp_shk]
    by_cases q : sp_sh (nv n) = 0
    · rw [if_pos q]
      refine ⟨c, by omega, h2, ⟨fun h i hi => ?_, fun h => h3.mpr (fun i hi => h i (by omega))⟩⟩
      by_cases e : i = n
      · rw [e]; exact q
      · exact h3.mp h i (by omega)
    · rw [if_neg q, h2, nI_1]
      exact ⟨c + 1, by omega, rfl, ⟨fun h => by omega, fun h => absurd (h n (by omega)) q⟩⟩
theorem cert_is {mi : Nat → Int32} : ∀ k : Nat, ∃ c, c ≤ k ∧ sp_cert mi k = nI c
  | 0 => ⟨0, Nat.le_refl _, rfl⟩
  | k + 1 => by
    obtain ⟨c, h1, h2⟩ := cert_is (mi := mi) k
    simp only [sp_cert]
    by_cases q : mi k ≤ 0
    · rw [if_pos q]; exact ⟨c, by omega, h2⟩
    · rw [if_neg q, h2, nI_1]; exact ⟨c + 1, by omega, rfl⟩
theorem best_cnt {lv lk : Nat → Int32} {n : Nat} (hlk : bN 99 lk n) (hn : n ≤ 10) : ((sp_best lv lk n).1 < 0 ∧ sp_cnt lv n = 0) ∨ ∃ y, y < n ∧ (sp_best lv lk n).1 = nI y ∧ ¬ sp_cnt lv n = 0 ∧ ¬ lv y = 0 ∧ ∀ i, i < n → ¬ lv i = 0 → lk i ≤ lk y := by
  obtain ⟨c, h1, h2, h3⟩ := cnt_is (lv := lv) n
  rcases best_is (al := lv) hlk (by decide) n (Nat.le_refl _) with ⟨g1, g2⟩ | ⟨y, hy, g2, g3, g4⟩
  · refine Or.inl ⟨by rw [g1]; decide, ?_⟩
    rw [h2, h3.mpr g2]
    rfl
  · refine Or.inr ⟨y, hy, by rw [g3], fun q => ?_, g2, g4⟩
    rw [h2] at q
    have q0 := nn_eq (a := c) (b := 0) (by omega) q
    exact g2 (h3.mp q0 y hy)
/-! sums -/
theorem sn_step {pu : Nat → Int32} {j y a : Nat} (e : pu j = nI y) (hy : y ≤ 1000) : nI (a + sn pu j) + pu j = nI (a + sn pu (j + 1)) := by
  simp only [sn]
  rw [e, nI_clamp (by omega), nI_add]
  congr 1
  omega
def sM (mp : Nat → Int32) (k : Nat) : Nat → Int32
  | 0 => 0
  | j + 1 => sM mp k j + sp_many mp (nI j) k
theorem sM_0 {mp : Nat → Int32} : ∀ m : Nat, sM mp 0 m = 0
  | 0 => rfl
  | m + 1 => by
    show sM mp 0 m + 0 = 0
    rw [sM_0 m]
    rfl
theorem sM_s {mp : Nat → Int32} {k y : Nat} (hy : y ≤ 10) (e : mp k = nI y) : ∀ m : Nat, m ≤ 10 → sM mp (k + 1) m = if y < m then sM mp k m + 1 else sM mp k m
  | 0, _ => rfl
  | m + 1, hm => by
    simp only [sM, sp_many]
    rw [sM_s hy e m (by omega), e]
    by_cases q : y = m
    · rw [if_neg (by omega), if_pos (show y < m + 1 by omega), if_pos (by rw [q]), Int32.add_assoc]
    · rw [if_neg (show ¬ nI y = nI m from fun h => q (nn_eq (by omega) h))]
      by_cases q2 : y < m
      · rw [if_pos q2, if_pos (show y < m + 1 by omega)]
        rw [Int32.add_assoc, Int32.add_comm 1, ← Int32.add_assoc]
      · rw [if_neg q2, if_neg (show ¬ y < m + 1 by omega)]
theorem sM_all {mp : Nat → Int32} {n : Nat} (hn : n ≤ 10) : ∀ k : Nat, (∀ j, j < k → ∃ y, y < n ∧ mp j = nI y) → sM mp k n = nI k
  | 0, _ => sM_0 n
  | k + 1, h => by
    obtain ⟨y, hy, e⟩ := h k (by omega)
    rw [sM_s (by omega) e n hn, if_pos hy, sM_all hn k (fun j hj => h j (by omega)), nI_1]
/-! what is told, and how much nerve is left -/
theorem tell_is {v : Int32} {y bb : Nat} (e : v = nI y) (hy : y ≤ 9) (h1 : 1 ≤ bb) (h2 : bb ≤ 60) : ∃ tu, sp_tale v (nI bb) = nI tu ∧ tu ≤ bb ∧ ((3 ≤ v ∧ sp_sh v = 0 ∧ 1 ≤ tu ∧ bb ≤ tu + 3) ∨ (¬ 3 ≤ v ∧ ¬ sp_sh v = 0 ∧ tu = 0)) := by
  by_cases q : sp_sh v = 0
  · have q3 := sh_iff.mp q
    have qy : 3 ≤ y := by rw [e] at q; exact (sh_nI (by omega)).mp q
    rw [e] at q ⊢
    rw [tale_is hy h1 h2 q]
    exact ⟨_, rfl, by omega, Or.inl ⟨by rw [← e]; exact q3, q, by omega, by omega⟩⟩
  · have q3 : ¬ 3 ≤ v := fun h => q (sh_iff.mpr h)
    refine ⟨0, ?_, by omega, Or.inr ⟨q3, q, rfl⟩⟩
    rw [(tale_iff (v := v) (b := nI bb)).mpr q]
    rfl
theorem tell_mono {v v2 : Int32} {y y2 bb : Nat} (e : v = nI y) (e2 : v2 = nI y2) (hy : y ≤ 9) (hy2 : y2 ≤ 9) (h1 : 1 ≤ bb) (h2 : bb ≤ 60) (h3 : 3 ≤ v) (h : ¬ v2 < v) : sp_tale v (nI bb) ≤ sp_tale v2 (nI bb) := by
  have q := sh_iff.mpr h3
  rw [e, e2] at h
  have hh := nn_nlt (by omega) h
  rw [e] at q ⊢
  have qy : 3 ≤ y := (sh_nI (by omega)).mp q
  have q2 : sp_sh (nI y2) = 0 := (sh_nI (by omega)).mpr (by omega)
  rw [e2, tale_is hy h1 h2 q, tale_is hy2 h1 h2 q2]
  exact (nI_leI (by omega) (by omega)).mpr (by omega)
theorem steady_le {du nv : Nat → Int32} {w u : Nat} (hnv : bN 9 nv w) (hu : u < w) (hd : ¬ du u = 0) : ∃ y, y < w ∧ (sp_best du nv w).1 = nI y ∧ nv u ≤ nv y := by
  rcases best_is (al := du) hnv (by decide) w (Nat.le_refl _) with ⟨g1, g2⟩ | ⟨y, hy, g2, g3, g4⟩
  · exact absurd (g2 u hu) hd
  · exact ⟨y, hy, by rw [g3], g4 u hu hd⟩
def MM (nv du : Nat → Int32) (bb least most u : Nat) : Prop := least ≤ 99 ∧ most ≤ 60 ∧ (∀ i, i < u → ¬ du i = 0 → sp_sh (nv i) = 0 → ∃ y, sp_tale (nv i) (nI bb) = nI y ∧ 1 ≤ y ∧ least ≤ y ∧ y ≤ most) ∧ (¬ most = 0 → ∃ i, i < u ∧ ¬ du i = 0 ∧ sp_sh (nv i) = 0)
theorem MM_0 {nv du : Nat → Int32} {bb : Nat} : MM nv du bb 99 0 0 := ⟨by omega, by omega, fun i h => absurd h (Nat.not_lt_zero i), fun h => absurd rfl h⟩
theorem MM_skip {nv du : Nat → Int32} {bb least most u : Nat} (h : MM nv du bb least most u) (c : du u = 0 ∨ ¬ sp_sh (nv u) = 0) : MM nv du bb least most (u + 1) := by
  obtain ⟨h1, h2, h3, h4⟩ := h
  refine ⟨h1, h2, fun i hi hd hs => ?_, fun q => ?_⟩
  · by_cases e : i = u
    · rw [e] at hd hs
      rcases c with c | c
      · exact absurd c hd
      · exact absurd hs c
    · exact h3 i (by omega) hd hs
  · obtain ⟨i, hi, h5⟩ := h4 q
    exact ⟨i, by omega, h5⟩
theorem MM_add {nv du : Nat → Int32} {bb least most u tu : Nat} (h : MM nv du bb least most u) (hd : ¬ du u = 0) (hs : sp_sh (nv u) = 0) (e : sp_tale (nv u) (nI bb) = nI tu) (ht1 : 1 ≤ tu) (ht2 : tu ≤ 60) : MM nv du bb (min least tu) (max most tu) (u + 1) := by
  obtain ⟨h1, h2, h3, h4⟩ := h
  refine ⟨by omega, by omega, fun i hi hd hs => ?_, fun q => ⟨u, by omega, hd, hs⟩⟩
  by_cases ei : i = u
  · rw [ei]; exact ⟨tu, e, ht1, by omega, by omega⟩
  · obtain ⟨y, ey, hy1, hy2, hy3⟩ := h3 i (by omega) hd hs
    exact ⟨y, ey, hy1, by omega, by omega⟩
theorem mid_fact {nv du g : Nat → Int32} {bb least most w : Nat} (h : MM nv du bb least most w) : (most = 0 ∧ sp_mid du nv (nI bb) g w = 0 ∧ sp_tn du nv w = 0) ∨ (¬ most = 0 ∧ ¬ sp_tn du nv w = 0 ∧ ∃ y, sp_mid du nv (nI bb) g w = nI y ∧ 1 ≤ y ∧ y ≤ 60 ∧ least ≤ y ∧ y ≤ most) := by
  obtain ⟨h1, h2, h3, h4⟩ := h
  by_cases q : sp_tn du nv w = 0
  · refine Or.inl ⟨Classical.byContradiction fun c => ?_, by unfold sp_mid; rw [if_pos q], q⟩
    obtain ⟨i, hi, hd, hs⟩ := h4 c
    rcases tn_0 q i hi with c2 | c2
    · exact hd c2
    · exact c2 hs
  · obtain ⟨j, hj, hd, hs, e⟩ := mid_mem (g := g) (b := nI bb) q
    obtain ⟨y, ey, hy1, hy2, hy3⟩ := h3 j hj hd hs
    exact Or.inr ⟨by omega, q, y, by rw [e, ey], hy1, by omega, hy2, hy3⟩
theorem musN_ge {v g : Int32} : ∀ (f k : Nat), k ≤ sp_musN v g f k ∧ sp_musN v g f k ≤ k + f
  | 0, k => ⟨Nat.le_refl _, Nat.le_refl _⟩
  | f + 1, k => by
    simp only [sp_musN]
    have h := musN_ge (v := v) (g := g) f (k + 1)
    split
    · omega
    · split
      · omega
      · omega
theorem tn_ex {du nv : Nat → Int32} : ∀ {w j : Nat}, j < w → ¬ du j = 0 → sp_sh (nv j) = 0 → ¬ sp_tn du nv w = 0
  | 0, j, h, _, _ => absurd h (Nat.not_lt_zero j)
  | w + 1, j, h, hd, hs => fun q => by
    rcases tn_0 q j h with c | c
    · exact hd c
    · exact c hs
theorem mus_iff {nv du : Nat → Int32} {w : Nat} {b : Int32} (hnv : bN 9 nv w) (hw : w ≤ 6) : sp_mus nv du w b = 0 ↔ sp_tn du nv w = 0 := by
  unfold sp_mus
  rcases best_is (al := du) hnv (by decide) w (Nat.le_refl _) with ⟨g1, g2⟩ | ⟨y, hy, g2, g3, g4⟩
  · rw [g1, show sp_isP w (-1, (-1 : Int32)).1 = 0 from isP_m1, if_pos rfl]
    refine ⟨fun _ => ?_, fun _ => rfl⟩
    refine Classical.byContradiction fun q => ?_
    obtain ⟨j, hj, hd, -⟩ := mid_mem (g := nv) (b := b) q
    exact hd (g2 j hj)
  · rw [g3]
    show (if sp_isP w (nI y) = 0 then 0 else nI (sp_musN (nv (nI y).toNatClampNeg) (sp_loss b) 10 0)) = 0 ↔ _
    rw [isP_in (by omega) hy, if_neg one_ne, nI_clamp (by omega)]
    obtain ⟨z, hz, ez⟩ := hnv y hy
    have hm := musN_ge (v := nv y) (g := sp_loss b) 10 0
    have hstep : sp_musN (nv y) (sp_loss b) 10 0 = if nv y - nI 0 * sp_loss b ≤ 2 then 0 else sp_musN (nv y) (sp_loss b) 9 1 := by
      show (if 9 ≤ 0 then 0 else _) = _
      rw [if_neg (by decide)]
    have e0 : nv y - nI 0 * sp_loss b = nv y := by rw [nI_0, Int32.zero_mul]; exact Int32.sub_zero _
    rw [e0] at hstep
    have hsh : nv y ≤ 2 ↔ ¬ sp_sh (nv y) = 0 := by
      rw [ez, sh_nI (by omega)]
      constructor
      · intro h; have := nn_le (a := z) (b := 2) (by omega) h; omega
      · intro h; exact nI_le (a := z) (b := 2) (by omega) (by decide)
    constructor
    · intro h
      have h0 := nn_eq (a := _) (b := 0) (by omega) h
      have hs : ¬ sp_sh (nv y) = 0 := by
        rw [← hsh]
        refine Classical.byContradiction fun c => ?_
        rw [if_neg c] at hstep
        have := (musN_ge (v := nv y) (g := sp_loss b) 9 1).1
        omega
      refine Classical.byContradiction fun q => ?_
      obtain ⟨j, hj, hd, hsj, -⟩ := mid_mem (g := nv) (b := b) q
      have h5 := g4 j hj hd
      obtain ⟨zj, hzj, ezj⟩ := hnv j hj
      rw [ez] at hs h5
      rw [ezj] at hsj h5
      have h6 := nn_le (by omega) h5
      have h7 := (sh_nI (y := zj) (by omega)).mp hsj
      exact hs ((sh_nI (by omega)).mpr (by omega))
    · intro h
      have hs : ¬ sp_sh (nv y) = 0 := fun c => tn_ex hy g2 c h
      rw [hstep, if_pos (hsh.mpr hs)]
      rfl
theorem calmN_ge {v g : Int32} : ∀ (f k : Nat), k ≤ sp_calmN v g f k ∧ sp_calmN v g f k ≤ k + f
  | 0, k => ⟨Nat.le_refl _, Nat.le_refl _⟩
  | f + 1, k => by
    simp only [sp_calmN]
    have h := calmN_ge (v := v) (g := g) f (k + 1)
    split
    · omega
    · split
      · omega
      · omega
theorem calm_is {v d : Int32} : ∃ c, c ≤ 10 ∧ sp_calm v d = nI c ∧ (c = 0 ↔ sp_sh v = 0) := by
  have hm := calmN_ge (v := v) (g := sp_gain d) 10 0
  refine ⟨sp_calmN v (sp_gain d) 10 0, by omega, rfl, ?_⟩
  have hstep : sp_calmN v (sp_gain d) 10 0 = if 2 < v + nI 0 * sp_gain d then 0 else sp_calmN v (sp_gain d) 9 1 := by
    show (if 9 ≤ 0 then 0 else _) = _
    rw [if_neg (by decide)]
  have e0 : v + nI 0 * sp_gain d = v := by rw [nI_0, Int32.zero_mul]; exact Int32.add_zero _
  rw [e0] at hstep
  rw [hstep]
  unfold sp_sh
  by_cases q : 2 < v
  · rw [if_pos q, if_pos q]; exact ⟨fun _ => rfl, fun _ => rfl⟩
  · rw [if_neg q, if_neg q]
    have := (calmN_ge (v := v) (g := sp_gain d) 9 1).1
    exact ⟨fun h => by omega, fun h => absurd h (by decide)⟩
theorem nuc_is {nv du : Nat → Int32} : ∀ w : Nat, ∃ c, c ≤ 10 ∧ sp_nuc nv du w = nI c ∧ (c = 0 ↔ ∀ i, i < w → sp_sh (nv i) = 0)
  | 0 => ⟨0, by omega, rfl, ⟨fun _ i h => absurd h (Nat.not_lt_zero i), fun _ => rfl⟩⟩
  | w + 1 => by
    obtain ⟨c, h1, h2, h3⟩ := nuc_is (nv := nv) (du := du) w
    obtain ⟨d, g1, g2, g3⟩ := calm_is (v := nv w) (d := du w)
    refine ⟨max c d, by omega, ?_, ?_⟩
    · show imax (sp_nuc nv du w) (sp_calm (nv w) (du w)) = _
      rw [h2, g2, ix_n (by omega) (by omega)]
    · constructor
      · intro h i hi
        by_cases e : i = w
        · rw [e]; exact g3.mp (by omega)
        · exact h3.mp (by omega) i (by omega)
      · intro h
        have a1 := h3.mpr (fun i hi => h i (by omega))
        have a2 := g3.mpr (h w (by omega))
        omega
theorem nuc_iff {nv du : Nat → Int32} {w : Nat} (hw : w ≤ 6) : sp_nuc nv du w = 0 ↔ sp_shk nv w = 0 := by
  obtain ⟨c, h1, h2, h3⟩ := nuc_is (nv := nv) (du := du) w
  obtain ⟨d, g1, g2, g3⟩ := shk_is (nv := nv) w
  rw [h2, g2]
  constructor
  · intro h
    rw [g3.mpr (h3.mp (nn_eq (a := c) (b := 0) (by omega) h))]
    rfl
  · intro h
    rw [h3.mpr (g3.mp (nn_eq (a := d) (b := 0) (by omega) h))]
    rfl

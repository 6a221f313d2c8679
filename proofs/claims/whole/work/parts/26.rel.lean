theorem fb_holes : ∀ (m n : Nat) (f : Nat → Nat), (∀ i, i < n → f i < m) → (∀ i j, i < j → j < n → f i ≠ f j) → n ≤ m := by
  intro m
  induction m with
  | zero =>
    intro n f h1 _
    rcases Nat.eq_zero_or_pos n with h | h
    · omega
    · exact absurd (h1 0 h) (Nat.not_lt_zero _)
  | succ m ih =>
    intro n f h1 h2
    by_cases hx : ∃ i, i < n ∧ f i = m
    · obtain ⟨a, ha, hfa⟩ := hx
      have hg := ih (n - 1) (fun i => if i < a then f i else f (i + 1)) (by
        intro i hi
        by_cases q : i < a
        · simp only [if_pos q]
          have b1 := h1 i (by omega)
          have b2 := h2 i a q ha
          omega
        · simp only [if_neg q]
          have b1 := h1 (i + 1) (by omega)
          have b2 := h2 a (i + 1) (by omega) (by omega)
          omega) (by
        intro i j hij hj
        by_cases q : i < a
        · by_cases r : j < a
          · simp only [if_pos q, if_pos r]
            exact h2 i j hij (by omega)
          · simp only [if_pos q, if_neg r]
            exact h2 i (j + 1) (by omega) (by omega)
        · have r : ¬ j < a := by omega
          simp only [if_neg q, if_neg r]
          exact h2 (i + 1) (j + 1) (by omega) (by omega))
      omega
    · have hg := ih n f (fun i hi => by
        have b1 := h1 i hi
        have b2 : f i ≠ m := fun e => hx ⟨i, hi, e⟩
        omega) h2
      omega
/-- two of them in one place -/
theorem fb_twice {m n : Nat} {f : Nat → Nat} (h : ∀ i, i < n → f i < m) (hm : m < n) : ∃ i j, i < j ∧ j < n ∧ f i = f j := by
  refine Classical.byContradiction fun hx => ?_
  have := fb_holes m n f h (fun i j hij hj e => hx ⟨i, j, hij, hj, e⟩)
  omega
/-! the heirs -/
theorem isP_m1 {n : Nat} : sp_isP n (-1) = 0 := by unfold sp_isP; rw [if_pos (by decide)]
theorem heir_mq {he lv gn : Nat → Int32} {n p : Nat} (hH : hR he n) (h : rI n lv gn) (hn : n ≤ 10) : ∀ (f t : Nat), t < n → sp_heir he lv n p f (he t) = mq_last he gn p f t
  | 0, _, _ => rfl
  | f + 1, t, ht => by
    simp only [sp_heir, mq_last]
    rcases hH t ht with e | ⟨y, hy, e⟩
    · rw [e, if_pos isP_m1, if_pos rfl]
    · rw [e, isP_in (by omega) hy, if_neg (by decide), if_neg (ni_m1 (by omega)), nI_clamp (by omega)]
      by_cases c : nI y = nI p
      · rw [if_pos c, if_pos c]
      · rw [if_neg c, if_neg c]
        by_cases q : lv y = 0
        · rw [if_pos q, if_neg (fun u => (h y hy).mp u q)]
          exact heir_mq hH h hn f y hy
        · rw [if_neg q, if_pos ((h y hy).mpr q)]
def hch (he : Nat → Int32) : Nat → Nat → Nat
  | 0, t => t
  | k + 1, t => hch he k (he t).toNatClampNeg
theorem hch_add (he : Nat → Int32) : ∀ (a b t : Nat), hch he (a + b) t = hch he b (hch he a t)
  | 0, b, t => by rw [Nat.zero_add]; rfl
  | a + 1, b, t => by rw [Nat.add_right_comm]; exact hch_add he a b _
def hD (he lv : Nat → Int32) (n p u : Nat) : Prop := ∃ y : Nat, y < n ∧ he u = nI y ∧ y ≠ p ∧ lv y = 0
theorem hD_step {he lv : Nat → Int32} {n p u : Nat} (hn : n ≤ 10) (hp : p < n) (h : hD he lv n p u) (f : Nat) : sp_heir he lv n p (f + 1) (he u) = sp_heir he lv n p f (he (he u).toNatClampNeg) ∧ (he u).toNatClampNeg < n ∧ (he u).toNatClampNeg ≠ p := by
  obtain ⟨y, h1, h2, h3, h4⟩ := h
  have e : (he u).toNatClampNeg = y := by rw [h2]; exact nI_clamp (by omega)
  rw [e]
  refine ⟨?_, h1, h3⟩
  simp only [sp_heir]
  rw [h2, isP_in (by omega) h1, if_neg (by decide), if_neg (fun q => h3 (nn_eq (by omega) q)), nI_clamp (by omega), if_pos h4]
theorem hD_run {he lv : Nat → Int32} {n p : Nat} (hn : n ≤ 10) (hp : p < n) : ∀ (k f t : Nat), (∀ j : Nat, j < k → hD he lv n p (hch he j t)) → sp_heir he lv n p (f + k) (he t) = sp_heir he lv n p f (he (hch he k t))
  | 0, f, t, _ => rfl
  | k + 1, f, t, h => by
    have h0 := hD_step hn hp (h 0 (by omega)) (f + k)
    rw [← Nat.add_assoc]
    rw [show he t = he (hch he 0 t) from rfl, h0.1]
    exact hD_run hn hp k f _ (fun j hj => h (j + 1) (by omega))
theorem heir_stop {he lv : Nat → Int32} {n p : Nat} {x : Int32} (h : sp_isP n x = 0 ∨ x = nI p ∨ ¬ lv x.toNatClampNeg = 0) (f g : Nat) : sp_heir he lv n p (f + 1) x = sp_heir he lv n p (g + 1) x := by
  by_cases c1 : sp_isP n x = 0
  · simp [sp_heir, c1]
  · by_cases c2 : x = nI p
    · subst c2
      simp [sp_heir]
    · have c3 := (h.resolve_left c1).resolve_left c2
      simp [sp_heir, c1, c2, c3]
theorem hD_or {he lv : Nat → Int32} {n p : Nat} (hn : n ≤ 10) (hp : p < n) (hH : hR he n) : ∀ (f t : Nat), t < n → sp_heir he lv n p (f + 1) (he t) = sp_heir he lv n p f (he t) ∨ ∀ j : Nat, j < f → hD he lv n p (hch he j t)
  | 0, _, _ => Or.inr (fun j hj => absurd hj (Nat.not_lt_zero j))
  | f + 1, t, ht => by
    by_cases hd : hD he lv n p t
    · obtain ⟨-, h2, h3⟩ := hD_step hn hp hd f
      rcases hD_or hn hp hH f _ h2 with h | h
      · left
        rw [(hD_step hn hp hd (f + 1)).1, (hD_step hn hp hd f).1, h]
      · right
        intro j hj
        rcases j with _ | j
        · exact hd
        · exact h j (by omega)
    · left
      refine heir_stop ?_ (f + 1) f
      rcases hH t ht with e | ⟨y, hy, e⟩
      · exact Or.inl (by rw [e]; exact isP_m1)
      · by_cases c : nI y = nI p
        · exact Or.inr (Or.inl (by rw [e, c]))
        · exact Or.inr (Or.inr (fun q => hd ⟨y, hy, e, fun u => c (by rw [u]), by rw [e, nI_clamp (by omega)] at q; exact q⟩))
theorem heir_fuel {he lv : Nat → Int32} {n p : Nat} (hn : n ≤ 10) (hp : p < n) (hH : hR he n) : sp_heir he lv n p (n + 1) (he p) = sp_heir he lv n p n (he p) := by
  rcases hD_or hn hp hH n p hp with h | h
  · exact h
  · have hc : ∀ j : Nat, 1 ≤ j → j ≤ n → hch he j p < n ∧ hch he j p ≠ p := by
      intro j h1 h2
      have := hD_step hn hp (h (j - 1) (by omega)) 0
      have e : hch he j p = (he (hch he (j - 1) p)).toNatClampNeg := by
        have := hch_add he (j - 1) 1 p
        rw [show j - 1 + 1 = j by omega] at this
        exact this
      rw [e]
      exact this.2
    have hlt : ∀ j : Nat, j < n + 1 → hch he j p < n := by
      intro j hj
      rcases j with _ | j
      · exact hp
      · exact (hc (j + 1) (by omega) (by omega)).1
    obtain ⟨a, b, hab, hb, e⟩ := fb_twice (f := fun j => hch he j p) hlt (Nat.lt_succ_self n)
    have e : hch he a p = hch he b p := e
    have ha : 1 ≤ a := by
      rcases a with _ | a
      · exact absurd e.symm (hc b (by omega) (by omega)).2
      · omega
    have en : hch he n p = hch he (a + (n - b)) p := by
      rw [show n = b + (n - b) by omega, hch_add, ← e, ← hch_add, show b + (n - b) - b = n - b by omega]
    have hd : hD he lv n p (hch he n p) := by rw [en]; exact h _ (by omega)
    have r0 := hD_run hn hp n 0 p h
    have r1 := hD_run hn hp n 1 p h
    rw [Nat.zero_add] at r0
    rw [Nat.add_comm n 1, r1, r0, (hD_step hn hp hd 0).1]
    rfl
theorem e_heir {he lv gn : Nat → Int32} {n p : Nat} (hH : hR he n) (h : rI n lv gn) (hn : n ≤ 10) (hp : p < n) : mq_last he gn p (n + 1) p = sp_heir he lv n p n (he p) := by
  rw [← heir_mq hH h hn (n + 1) p hp, heir_fuel hn hp hH]
theorem heir_upd {he lv : Nat → Int32} {n i : Nat} (hn : n ≤ 10) : ∀ (f : Nat) (x : Int32), sp_heir he (upd lv i 0) n i f x = sp_heir he lv n i f x
  | 0, _ => rfl
  | f + 1, x => by
    simp only [sp_heir]
    by_cases c : sp_isP n x = 0
    · rw [if_pos c, if_pos c]
    · rw [if_neg c, if_neg c]
      by_cases d : x = nI i
      · rw [if_pos d, if_pos d]
      · obtain ⟨y, hy, ey⟩ := isP_ex (by omega) c
        have e : (upd lv i 0) x.toNatClampNeg = lv x.toNatClampNeg := upd_ne (fun q => d (by rw [ey, nI_clamp (by omega)] at q; rw [ey, q]))
        rw [if_neg d, if_neg d, e, heir_upd hn f]
/-! small tables -/
theorem e_calm {v d o : Int32} {y : Nat} (hy : y ≤ 9) (ev : v = nI y) (hd : d = 0 ∨ d = 1) (ho : o = sp_not d) : mq_cl v o = sp_calm v d := by
  have T : ∀ y : Fin 10, mq_cl (nI y.val) 1 = sp_calm (nI y.val) 0 ∧ mq_cl (nI y.val) 0 = sp_calm (nI y.val) 1 := by decide +kernel
  have t := T ⟨y, by omega⟩
  rw [ev, ho]
  rcases hd with e | e
  · rw [e]; exact t.1
  · rw [e]; exact t.2
theorem e_ucl {nv du of : Nat → Int32} : ∀ {w : Nat}, (∀ j : Nat, j < w → (du j = 0 ∨ du j = 1) ∧ of j = sp_not (du j)) → bN 9 nv w → mq_ucl of nv w = sp_nuc nv du w
  | 0, _, _ => rfl
  | w + 1, h, hv => by
    have ih := e_ucl (w := w) (fun j hj => h j (by omega)) (fun j hj => hv j (by omega))
    obtain ⟨y, hy, ey⟩ := hv w (by omega)
    obtain ⟨h1, h2⟩ := h w (by omega)
    simp only [mq_ucl, sp_nuc]
    rw [ih, e_calm hy ey h1 h2]
theorem loss_is (b : Int32) : sp_loss b = nI 1 ∨ sp_loss b = nI 2 ∨ sp_loss b = nI 3 := by
  unfold sp_loss
  by_cases h1 : 5 < b
  · by_cases h2 : 12 < b
    · rw [if_pos h1, if_pos h2]; exact Or.inl rfl
    · rw [if_pos h1, if_neg h2]; exact Or.inr (Or.inl rfl)
  · rw [if_neg h1]; exact Or.inr (Or.inr rfl)
theorem e_musN {y : Nat} (hy : y ≤ 9) (b : Int32) : nI (sp_musN (nI y) (sp_loss b) 10 0) = if 2 < nI y then (nI y - 2 + sp_loss b - 1) / sp_loss b else 0 := by
  have T : ∀ y : Fin 10, nI (sp_musN (nI y.val) (nI 1) 10 0) = (if 2 < nI y.val then (nI y.val - 2 + nI 1 - 1) / nI 1 else 0) ∧ nI (sp_musN (nI y.val) (nI 2) 10 0) = (if 2 < nI y.val then (nI y.val - 2 + nI 2 - 1) / nI 2 else 0) ∧ nI (sp_musN (nI y.val) (nI 3) 10 0) = (if 2 < nI y.val then (nI y.val - 2 + nI 3 - 1) / nI 3 else 0) := by decide +kernel
  have t := T ⟨y, by omega⟩
  rcases loss_is b with e | e | e <;> rw [e]
  · exact t.1
  · exact t.2.1
  · exact t.2.2
theorem e_mx {nv du of : Nat → Int32} : ∀ {w : Nat}, rI w du of → bN 9 nv w → w ≤ 6 → (sp_best du nv w = (-1, -1) ∧ mq_mx of nv w = 0) ∨ ∃ i : Nat, i < w ∧ sp_best du nv w = (nI i, nv i) ∧ mq_mx of nv w = nv i
  | 0, _, _, _ => Or.inl ⟨rfl, rfl⟩
  | w + 1, h, hv, hw6 => by
    have ih := e_mx (w := w) (fun j hj => h j (by omega)) (fun j hj => hv j (by omega)) (by omega)
    have hn := h w (by omega)
    obtain ⟨y, hy, ey⟩ := hv w (by omega)
    simp only [mq_mx, sp_best]
    by_cases q : du w = 0
    · rw [if_neg (fun e => hn.mp e q), if_pos q]
      rcases ih with ih | ⟨i, hi, ih⟩
      · exact Or.inl ih
      · exact Or.inr ⟨i, by omega, ih⟩
    · rw [if_pos (hn.mpr q), if_neg q]
      rcases ih with ⟨e1, e2⟩ | ⟨i, hi, e1, e2⟩
      · right
        refine ⟨w, by omega, ?_, ?_⟩
        · rw [e1, if_neg (by rw [ey]; exact nI_nm1 (by omega))]
        · rw [e2, ey, show (0 : Int32) = nI 0 from rfl, ix_n (by omega) (by omega), Nat.zero_max]
      · right
        obtain ⟨x, hx, ex⟩ := hv i (by omega)
        rw [e1, e2]
        by_cases c : y ≤ x
        · refine ⟨i, by omega, ?_, ?_⟩
          · show (if nv w ≤ nv i then _ else _) = _
            rw [if_pos (by rw [ex, ey]; exact nI_le c (by omega))]
          · rw [ex, ey, ix_n (by omega) (by omega), Nat.max_eq_left c]
        · refine ⟨w, by omega, ?_, ?_⟩
          · show (if nv w ≤ nv i then _ else _) = _
            rw [if_neg (by rw [ex, ey]; exact nI_ge (by omega) (by omega))]
          · rw [ex, ey, ix_n (by omega) (by omega), Nat.max_eq_right (by omega)]
theorem e_usk {nv du of : Nat → Int32} {w : Nat} (h : rI w du of) (hv : bN 9 nv w) (hw : w ≤ 6) (b : Int32) : mq_usk of nv w b = sp_mus nv du w b := by
  unfold mq_usk sp_mus
  rcases e_mx h hv hw with ⟨e1, e2⟩ | ⟨i, hi, e1, e2⟩
  · rw [e1, e2, if_neg (by decide), if_pos isP_m1]
  · obtain ⟨x, hx, ex⟩ := hv i hi
    rw [e1, e2, isP_in (by omega) hi, if_neg (show ¬ (1 : Int32) = 0 by decide), nI_clamp (by omega), ex, e_musN hx]
theorem e_rfd {fv lkv fu ce al : Int32} {x y : Nat} (hx : x ≤ 9) (hy : y ≤ 60) (e1 : fv = nI x) (e2 : ce = nI y) (ha : ¬ al = 0) : mq_rfd fv lkv fu ce = sp_coins al fv lkv fu ce := by
  unfold mq_rfd sp_coins sp_uses
  rw [if_neg ha]
  have a1 : (fv ≤ 0) ↔ fv = 0 := by rw [e1, show (0 : Int32) = nI 0 from rfl, nI_leI (by omega) (by omega), nI_eq (by omega) (by omega)]; omega
  have a2 : (ce ≤ 0) ↔ ce = 0 := by rw [e2, show (0 : Int32) = nI 0 from rfl, nI_leI (by omega) (by omega), nI_eq (by omega) (by omega)]; omega
  by_cases c1 : ce = 0
  · by_cases c2 : fv = 0
    · simp [c1, c2, a1, a2]
    · simp [c1, c2, a1, a2]
  · by_cases c2 : fv = 0
    · simp [c1, c2, a1, a2]
    · by_cases c3 : 24 < ce
      · simp [c1, c2, c3, a1, a2]
      · simp [c1, c2, c3, a1, a2]

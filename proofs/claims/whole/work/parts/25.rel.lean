def RG (n : Nat) (lv gn : Nat → Int32) : Prop := (∀ j : Nat, j < n → (lv j = 0 ∨ lv j = 1) ∧ gn j = sp_not (lv j)) ∧ ∀ j : Nat, n ≤ j → gn j = 0
def bN (b : Nat) (f : Nat → Int32) (n : Nat) : Prop := ∀ j : Nat, j < n → ∃ y : Nat, y ≤ b ∧ f j = nI y
abbrev rI (n : Nat) (lv gn : Nat → Int32) : Prop := ∀ j : Nat, j < n → (gn j = 0 ↔ ¬ lv j = 0)
theorem RG.iff {n : Nat} {lv gn : Nat → Int32} (h : RG n lv gn) : rI n lv gn := by
  intro j hj
  obtain ⟨h1, h2⟩ := h.1 j hj
  rcases h1 with h1 | h1 <;> rw [h2, h1] <;> simp [sp_not]
theorem e_cnt {lv gn : Nat → Int32} : ∀ {n : Nat}, rI n lv gn → mq_liv gn n = sp_cnt lv n
  | 0, _ => rfl
  | n + 1, h => by
    have ih := e_cnt (n := n) (fun j hj => h j (by omega))
    have hn := h n (by omega)
    simp only [mq_liv, sp_cnt, ih]
    by_cases q : lv n = 0
    · rw [if_neg (fun e => hn.mp e q), if_pos q]
    · rw [if_pos (hn.mpr q), if_neg q]
theorem e_sum {lv gn lk : Nat → Int32} : ∀ {n : Nat}, rI n lv gn → mq_sum gn lk n = sp_sum lv lk n
  | 0, _ => rfl
  | n + 1, h => by
    have ih := e_sum (n := n) (lk := lk) (fun j hj => h j (by omega))
    have hn := h n (by omega)
    simp only [mq_sum, sp_sum, ih]
    by_cases q : lv n = 0
    · rw [if_neg (fun e => hn.mp e q), if_pos q]
    · rw [if_pos (hn.mpr q), if_neg q]
theorem e_mean {n : Nat} {lv gn lk : Nat → Int32} (h : rI n lv gn) : mq_mean gn lk n = sp_mean lv lk n := by
  unfold mq_mean sp_mean
  rw [e_cnt h, e_sum h]
theorem nI_nm1 {y : Nat} (h : y < 2 ^ 31) : ¬ nI y ≤ -1 := fun q => by
  rw [Int32.le_iff_toInt_le, nI_toInt h, show (-1 : Int32).toInt = -1 from rfl] at q
  omega
theorem e_best {lv gn v : Nat → Int32} : ∀ {n : Nat}, rI n lv gn → bN 99 v n → n ≤ 10 → (sp_best lv v n = (-1, -1) ∧ mq_best gn v n = -1) ∨ ∃ i : Nat, i < n ∧ sp_best lv v n = (nI i, v i) ∧ mq_best gn v n = nI i
  | 0, _, _, _ => Or.inl ⟨rfl, rfl⟩
  | n + 1, h, hv, hn10 => by
    have ih := e_best (n := n) (fun j hj => h j (by omega)) (fun j hj => hv j (by omega)) (by omega)
    have hn := h n (by omega)
    obtain ⟨y, hy, ey⟩ := hv n (by omega)
    simp only [mq_best, sp_best]
    by_cases q : lv n = 0
    · rw [if_neg (fun e => hn.mp e q), if_pos q]
      rcases ih with ih | ⟨i, hi, ih⟩
      · exact Or.inl ih
      · exact Or.inr ⟨i, by omega, ih⟩
    · rw [if_pos (hn.mpr q), if_neg q]
      rcases ih with ⟨e1, e2⟩ | ⟨i, hi, e1, e2⟩
      · rw [e1, e2, if_pos rfl, if_neg (by rw [ey]; exact nI_nm1 (by omega))]
        exact Or.inr ⟨n, by omega, rfl, rfl⟩
      · rw [e1, e2, if_neg (ni_m1 (by omega)), nI_clamp (by omega)]
        by_cases c : v n ≤ v i
        · rw [if_pos c, if_pos c]
          exact Or.inr ⟨i, by omega, rfl, rfl⟩
        · rw [if_neg c, if_neg c]
          exact Or.inr ⟨n, by omega, rfl, rfl⟩
theorem e_best1 {n : Nat} {lv gn v : Nat → Int32} (h : rI n lv gn) (hv : bN 99 v n) (hn : n ≤ 10) : mq_best gn v n = (sp_best lv v n).1 := by
  rcases e_best h hv hn with ⟨e1, e2⟩ | ⟨i, _, e1, e2⟩ <;> rw [e1, e2]
theorem bN.mono {a b n : Nat} {f : Nat → Int32} (h : bN a f n) (hab : a ≤ b) : bN b f n := fun j hj => let ⟨y, h1, h2⟩ := h j hj; ⟨y, by omega, h2⟩
theorem e_fr {du of nv : Nat → Int32} {q : Int32} : ∀ {w : Nat}, rI w du of → mq_fr of q nv w = sp_fr du q nv w
  | 0, _ => rfl
  | w + 1, h => by
    have ih := e_fr (w := w) (nv := nv) (q := q) (fun j hj => h j (by omega))
    have hn := h w (by omega)
    simp only [mq_fr, sp_fr, ih]
    by_cases c : du w = 0
    · rw [if_neg (fun e => hn.mp e c), if_pos c]
    · rw [if_pos (hn.mpr c), if_neg c]
theorem upd_at {f : Nat → Int32} {k : Nat} {x : Int32} : upd f k x k = x := pk_us
theorem upd_ne {f : Nat → Int32} {k j : Nat} {x : Int32} (h : j ≠ k) : upd f k x j = f j := pk_un h
theorem upd_id {f : Nat → Int32} {k : Nat} {x : Int32} (h : f k = x) : upd f k x = f := by
  funext j
  by_cases q : j = k
  · rw [q, upd_at, h]
  · rw [upd_ne q]
theorem pw_nn {du nv : Nat → Int32} : ∀ {m : Nat}, sp_nn du nv m = fun j => if j < m then imin 9 (nv j + sp_gain (du j)) else nv j
  | 0 => by funext j; rw [if_neg (Nat.not_lt_zero j)]; rfl
  | m + 1 => by
    have ih := pw_nn (du := du) (nv := nv) (m := m)
    have em : sp_nn du nv m m = nv m := by rw [ih]; exact if_neg (Nat.lt_irrefl m)
    funext j
    show upd (sp_nn du nv m) m (imin 9 (sp_nn du nv m m + sp_gain (du m))) j = _
    by_cases q : j = m
    · rw [q, upd_at, em, if_pos (Nat.lt_succ_self m)]
    · rw [upd_ne q, ih]
      by_cases c : j < m
      · show (if j < m then _ else _) = _
        rw [if_pos c, if_pos (show j < m + 1 by omega)]
      · show (if j < m then _ else _) = _
        rw [if_neg c, if_neg (show ¬ j < m + 1 by omega)]
theorem pw_pn {of nv : Nat → Int32} {x : Int32} : ∀ {m : Nat}, mq_pn of nv x m = fun j => if j < m then imin 9 (nv j + x * (if of j = 0 then 1 else 2)) else nv j
  | 0 => by funext j; rw [if_neg (Nat.not_lt_zero j)]; rfl
  | m + 1 => by
    have ih := pw_pn (of := of) (nv := nv) (x := x) (m := m)
    have em : mq_pn of nv x m m = nv m := by rw [ih]; exact if_neg (Nat.lt_irrefl m)
    funext j
    show upd (mq_pn of nv x m) m (imin 9 (mq_pn of nv x m m + x * (if of m = 0 then 1 else 2))) j = _
    by_cases q : j = m
    · rw [q, upd_at, em, if_pos (Nat.lt_succ_self m)]
    · rw [upd_ne q, ih]
      by_cases c : j < m
      · show (if j < m then _ else _) = _
        rw [if_pos c, if_pos (show j < m + 1 by omega)]
      · show (if j < m then _ else _) = _
        rw [if_neg c, if_neg (show ¬ j < m + 1 by omega)]
theorem im_n {a b : Nat} (ha : a < 2 ^ 31) (hb : b < 2 ^ 31) : imin (nI b) (nI a) = nI (min b a) := by
  show (if nI a < nI b then nI a else nI b) = _
  by_cases q : a < b
  · rw [if_pos ((nI_ltI ha hb).mpr q), Nat.min_eq_right (by omega)]
  · rw [if_neg (fun c => q ((nI_ltI ha hb).mp c)), Nat.min_eq_left (by omega)]
theorem ix_n {a b : Nat} (ha : a < 2 ^ 31) (hb : b < 2 ^ 31) : imax (nI b) (nI a) = nI (max b a) := by
  show (if nI b < nI a then nI a else nI b) = _
  by_cases q : b < a
  · rw [if_pos ((nI_ltI hb ha).mpr q), Nat.max_eq_right (by omega)]
  · rw [if_neg (fun c => q ((nI_ltI hb ha).mp c)), Nat.max_eq_left (by omega)]
theorem e_pn {du of nv : Nat → Int32} {w : Nat} (h : rI w du of) (hv : bN 9 nv w) : ∀ {t : Nat}, t ≤ 30 → sp_pn du w nv t = mq_pn of nv (nI t) w
  | 0, _ => by
    rw [pw_pn]
    funext j
    show nv j = _
    by_cases c : j < w
    · obtain ⟨y, hy, ey⟩ := hv j c
      rw [if_pos c, ey, show nI 0 * (if of j = 0 then (1 : Int32) else 2) = nI 0 by by_cases q : of j = 0 <;> simp [q, nI_0], nI_add, show (9 : Int32) = nI 9 from rfl, im_n (by omega) (by omega)]
      congr 1
      omega
    · rw [if_neg c]
  | t + 1, ht => by
    have ih := e_pn h hv (t := t) (by omega)
    show sp_nn du (sp_pn du w nv t) w = _
    rw [pw_nn, ih, pw_pn, pw_pn]
    funext j
    by_cases c : j < w
    · obtain ⟨y, hy, ey⟩ := hv j c
      have hj := h j c
      simp only [if_pos c]
      rw [ey, show (9 : Int32) = nI 9 from rfl]
      by_cases q : du j = 0
      · rw [show sp_gain (du j) = nI 2 by unfold sp_gain; rw [if_pos q]; rfl, if_neg (fun e => hj.mp e q), show (2 : Int32) = nI 2 from rfl, pk_mul, pk_mul, nI_add, nI_add, im_n (by omega) (by omega), nI_add, im_n (by omega) (by omega), im_n (by omega) (by omega)]
        congr 1
        omega
      · rw [show sp_gain (du j) = nI 1 by unfold sp_gain; rw [if_neg q]; rfl, if_pos (hj.mpr q), show (1 : Int32) = nI 1 from rfl, pk_mul, pk_mul, nI_add, nI_add, im_n (by omega) (by omega), nI_add, im_n (by omega) (by omega), im_n (by omega) (by omega)]
        congr 1
        omega
    · simp only [if_neg c]
theorem pw_nl {lv lk : Nat → Int32} : ∀ {m : Nat}, sp_nl lv lk m = fun j => if j < m ∧ ¬ lv j = 0 then imin 99 (lk j + 1) else lk j
  | 0 => by funext j; rw [if_neg (fun q => Nat.not_lt_zero j q.1)]; rfl
  | m + 1 => by
    have ih := pw_nl (lv := lv) (lk := lk) (m := m)
    have em : sp_nl lv lk m m = lk m := by rw [ih]; exact if_neg (fun q => Nat.lt_irrefl m q.1)
    funext j
    show (if lv m = 0 then sp_nl lv lk m else upd (sp_nl lv lk m) m (imin 99 (sp_nl lv lk m m + 1))) j = _
    by_cases c : lv m = 0
    · rw [if_pos c, ih]
      show (if j < m ∧ ¬ lv j = 0 then _ else _) = _
      by_cases d : j < m ∧ ¬ lv j = 0
      · rw [if_pos d, if_pos ⟨by omega, d.2⟩]
      · rw [if_neg d, if_neg (fun q => d ⟨by
          have : j ≠ m := fun e => q.2 (by rw [e]; exact c)
          omega, q.2⟩)]
    · rw [if_neg c]
      by_cases q : j = m
      · rw [q, upd_at, em, if_pos ⟨Nat.lt_succ_self m, c⟩]
      · rw [upd_ne q, ih]
        show (if j < m ∧ ¬ lv j = 0 then _ else _) = _
        by_cases d : j < m ∧ ¬ lv j = 0
        · rw [if_pos d, if_pos ⟨by omega, d.2⟩]
        · rw [if_neg d, if_neg (fun u => d ⟨by omega, u.2⟩)]
theorem pw_pl {gn lk : Nat → Int32} {x : Int32} : ∀ {m : Nat}, mq_pl gn lk x m = fun j => if j < m ∧ gn j = 0 then imin 99 (lk j + x) else lk j
  | 0 => by funext j; rw [if_neg (fun q => Nat.not_lt_zero j q.1)]; rfl
  | m + 1 => by
    have ih := pw_pl (gn := gn) (lk := lk) (x := x) (m := m)
    have em : mq_pl gn lk x m m = lk m := by rw [ih]; exact if_neg (fun q => Nat.lt_irrefl m q.1)
    funext j
    show (if gn m = 0 then upd (mq_pl gn lk x m) m (imin 99 (mq_pl gn lk x m m + x)) else mq_pl gn lk x m) j = _
    by_cases c : gn m = 0
    · rw [if_pos c]
      by_cases q : j = m
      · rw [q, upd_at, em, if_pos ⟨Nat.lt_succ_self m, c⟩]
      · rw [upd_ne q, ih]
        show (if j < m ∧ gn j = 0 then _ else _) = _
        by_cases d : j < m ∧ gn j = 0
        · rw [if_pos d, if_pos ⟨by omega, d.2⟩]
        · rw [if_neg d, if_neg (fun u => d ⟨by omega, u.2⟩)]
    · rw [if_neg c, ih]
      show (if j < m ∧ gn j = 0 then _ else _) = _
      by_cases d : j < m ∧ gn j = 0
      · rw [if_pos d, if_pos ⟨by omega, d.2⟩]
      · rw [if_neg d, if_neg (fun q => d ⟨by
          have : j ≠ m := fun e => c (by rw [← e]; exact q.2)
          omega, q.2⟩)]
theorem e_pl {lv gn lk : Nat → Int32} {n : Nat} (h : rI n lv gn) (hv : bN 99 lk n) : ∀ {t : Nat}, t ≤ 30 → sp_pl lv n lk t = mq_pl gn lk (nI t) n
  | 0, _ => by
    rw [pw_pl]
    funext j
    show lk j = _
    by_cases c : j < n ∧ gn j = 0
    · obtain ⟨y, hy, ey⟩ := hv j c.1
      rw [if_pos c, ey, nI_add, show (99 : Int32) = nI 99 from rfl, im_n (by omega) (by omega)]
      congr 1
      omega
    · rw [if_neg c]
  | t + 1, ht => by
    have ih := e_pl h hv (t := t) (by omega)
    show sp_nl lv (sp_pl lv n lk t) n = _
    rw [pw_nl, ih, pw_pl, pw_pl]
    funext j
    by_cases c : j < n
    · obtain ⟨y, hy, ey⟩ := hv j c
      have hj := h j c
      by_cases q : lv j = 0
      · have hg : ¬ gn j = 0 := fun e => hj.mp e q
        simp only [hg, and_false, if_false, q, not_true_eq_false]
      · have hg : gn j = 0 := hj.mpr q
        simp only [c, hg, and_self, if_true, q, not_false_eq_true]
        rw [ey, show (99 : Int32) = nI 99 from rfl, nI_add, im_n (by omega) (by omega), nI_1, im_n (by omega) (by omega), nI_add, im_n (by omega) (by omega)]
        congr 1
        omega
    · simp only [c, false_and, if_false]

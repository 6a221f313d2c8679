theorem t_0 : (0 : Int32).toInt = 0 := by decide
theorem t_1 : (1 : Int32).toInt = 1 := by decide
theorem t_2 : (2 : Int32).toInt = 2 := by decide
theorem t_3 : (3 : Int32).toInt = 3 := by decide
theorem t_5 : (5 : Int32).toInt = 5 := by decide
theorem t_6 : (6 : Int32).toInt = 6 := by decide
theorem t_9 : (9 : Int32).toInt = 9 := by decide
theorem t_10 : (10 : Int32).toInt = 10 := by decide
theorem t_12 : (12 : Int32).toInt = 12 := by decide
theorem t_13 : (13 : Int32).toInt = 13 := by decide
theorem t_14 : (14 : Int32).toInt = 14 := by decide
theorem t_20 : (20 : Int32).toInt = 20 := by decide
theorem t_24 : (24 : Int32).toInt = 24 := by decide
theorem t_25 : (25 : Int32).toInt = 25 := by decide
theorem t_30 : (30 : Int32).toInt = 30 := by decide
theorem t_59 : (59 : Int32).toInt = 59 := by decide
theorem t_60 : (60 : Int32).toInt = 60 := by decide
theorem t_99 : (99 : Int32).toInt = 99 := by decide
theorem t_100 : (100 : Int32).toInt = 100 := by decide
theorem t_m1 : (-1 : Int32).toInt = -1 := by decide
def bN (b : Nat) (f : Nat → Int32) (n : Nat) : Prop := ∀ j : Nat, j < n → ∃ y : Nat, y ≤ b ∧ f j = nI y
/-- every heir is none, or one of the persons -/
def heirR (he : Nat → Int32) (n : Nat) : Prop := ∀ j : Nat, j < n → he j = -1 ∨ ∃ y : Nat, y < n ∧ he j = nI y
def bZ (f : Nat → Int32) (n : Nat) : Prop := ∀ j : Nat, j < n → f j = 0 ∨ f j = 1
theorem i3_iff (v : Int32) : 3 ≤ v ↔ 2 < v := by rw [Int32.le_iff_toInt_le, Int32.lt_iff_toInt_lt, t_3, t_2]; omega
theorem sh_0 {v : Int32} (h : 3 ≤ v) : sp_sh v = 0 := by unfold sp_sh; rw [if_pos ((i3_iff v).mp h)]
theorem sh_1 {v : Int32} (h : ¬ 3 ≤ v) : sp_sh v = 1 := by unfold sp_sh; rw [if_neg (fun q => h ((i3_iff v).mpr q))]
theorem sh_iff {v : Int32} : sp_sh v = 0 ↔ 3 ≤ v := ⟨fun h => by
  by_cases q : 3 ≤ v
  · exact q
  · rw [sh_1 q] at h; exact absurd h (by decide), sh_0⟩
theorem tells_0 {v b : Int32} (h : ¬ 3 ≤ v) : 0 = sp_tale v b := by unfold sp_tale; rw [if_neg (by rw [sh_1 h]; decide)]
theorem tells_1 {v b : Int32} (h : 3 ≤ v) (h2 : ¬ 1 ≤ b - (9 - v) / 2) : 1 = sp_tale v b := by
  unfold sp_tale imax
  rw [if_pos (sh_0 h), if_neg (fun q => h2 (by rw [Int32.le_iff_toInt_le]; rw [Int32.lt_iff_toInt_lt] at q; omega))]
theorem tells_2 {v b : Int32} (h : 3 ≤ v) (h2 : 1 ≤ b - (9 - v) / 2) : b - (9 - v) / 2 = sp_tale v b := by
  unfold sp_tale imax
  rw [if_pos (sh_0 h)]
  by_cases q : 1 < b - (9 - v) / 2
  · rw [if_pos q]
  · rw [if_neg q]
    rw [← Int32.toInt_inj]
    rw [Int32.le_iff_toInt_le] at h2
    rw [Int32.lt_iff_toInt_lt] at q
    omega
theorem tale_ne {v b : Int32} (h : sp_sh v = 0) : ¬ sp_tale v b = 0 := by
  unfold sp_tale imax
  rw [if_pos h]
  intro q
  by_cases c : 1 < b - (9 - v) / 2
  · rw [if_pos c] at q
    rw [q] at c
    exact absurd c (by decide)
  · rw [if_neg c] at q
    exact absurd q (by decide)
theorem tale_iff {v b : Int32} : sp_tale v b = 0 ↔ ¬ sp_sh v = 0 := ⟨fun h q => tale_ne q h, fun h => by unfold sp_tale; rw [if_neg h]⟩
theorem tn_max {du nv : Nat → Int32} : ∀ w : Nat, sp_tn du nv w ≤ w
  | 0 => Nat.le_refl 0
  | j + 1 => by
    have ih := tn_max (du := du) (nv := nv) j
    simp only [sp_tn]
    split
    · omega
    · split <;> omega
theorem ins_ge {t : Int32} {p : Nat} {g : Nat → Int32} (h0 : 0 < p) (h : g (p - 1) ≤ t) : sp_ins t p g = upd g p t := by
  obtain ⟨q, rfl⟩ : ∃ q, p = q + 1 := ⟨p - 1, by omega⟩
  have h : g q ≤ t := h
  simp only [sp_ins]
  rw [if_pos h]
theorem ins_lt {t : Int32} {p : Nat} {g : Nat → Int32} (h0 : 0 < p) (h : ¬ g (p - 1) ≤ t) : sp_ins t p g = sp_ins t (p - 1) (upd g p (g (p - 1))) := by
  obtain ⟨q, rfl⟩ : ∃ q, p = q + 1 := ⟨p - 1, by omega⟩
  have h : ¬ g q ≤ t := h
  rw [sp_ins]
  rw [if_neg h]
  rfl
theorem ix_m1 {p : Nat} (h : 0 < p) : nI p + (-1) = nI (p - 1) := by
  obtain ⟨q, rfl⟩ : ∃ q, p = q + 1 := ⟨p - 1, by omega⟩
  exact pk_m1 q
theorem ix_s1 {p : Nat} (h : 0 < p) : nI p - 1 = nI (p - 1) := pk_sub (a := p) (b := 1) h
/-- what is told doesn't ask what stood in the row before -/
theorem ins_eq {t : Int32} : ∀ (p : Nat) (g g' : Nat → Int32), (∀ i, i < p → g i = g' i) → ∀ i, i ≤ p → sp_ins t p g i = sp_ins t p g' i
  | 0, g, g', _, i, hi => by
    have e : i = 0 := by omega
    subst e
    simp only [sp_ins]
    rw [pk_us, pk_us]
  | p + 1, g, g', h, i, hi => by
    simp only [sp_ins]
    rw [← h p (by omega)]
    by_cases c : g p ≤ t
    · rw [if_pos c, if_pos c]
      by_cases e : i = p + 1
      · subst e; rw [pk_us, pk_us]
      · rw [pk_un e, pk_un e]; exact h i (by omega)
    · rw [if_neg c, if_neg c]
      by_cases e : i = p + 1
      · subst e
        have hh : ∀ (q : Nat) (u : Nat → Int32), q < p + 1 → sp_ins t q u (p + 1) = u (p + 1) := by
          intro q
          induction q with
          | zero => intro u _; simp only [sp_ins]; exact pk_un (by omega)
          | succ q ih =>
            intro u hq
            simp only [sp_ins]
            split
            · exact pk_un (by omega)
            · rw [ih _ (by omega)]; exact pk_un (by omega)
        rw [hh p _ (by omega), hh p _ (by omega), pk_us, pk_us]
      · exact ins_eq p _ _ (fun j hj => by rw [pk_un (by omega), pk_un (by omega)]; exact h j (by omega)) i (by omega)
theorem tarr_eq {du nv : Nat → Int32} {b : Int32} {g g' : Nat → Int32} : ∀ (w i : Nat), i < sp_tn du nv w → sp_tarr du nv b g w i = sp_tarr du nv b g' w i
  | 0, i, h => absurd h (Nat.not_lt_zero i)
  | w + 1, i, h => by
    simp only [sp_tn] at h
    simp only [sp_tarr]
    split
    · rename_i c; rw [if_pos c] at h; exact tarr_eq w i h
    · rename_i c
      rw [if_neg c] at h
      split
      · rename_i c2
        rw [if_pos c2] at h
        exact ins_eq _ _ _ (fun j hj => tarr_eq w j hj) i (by omega)
      · rename_i c2; rw [if_neg c2] at h; exact tarr_eq w i h
theorem mid_eq {du nv : Nat → Int32} {b : Int32} {g g' : Nat → Int32} {w : Nat} : sp_mid du nv b g w = sp_mid du nv b g' w := by
  unfold sp_mid
  by_cases h : sp_tn du nv w = 0
  · rw [if_pos h, if_pos h]
  · rw [if_neg h, if_neg h]
    exact tarr_eq w _ (by omega)
/-! the heir: a way that comes to where it was ends -/
theorem isP_m1 {n : Nat} : sp_isP n (-1) = 0 := by unfold sp_isP; rw [if_pos (by decide)]
theorem isP_nI {n y : Nat} (hn : n < 2 ^ 31) (hy : y < n) : ¬ sp_isP n (nI y) = 0 := by rw [isP_in hn hy]; decide
theorem heir_go {he lv : Nat → Int32} {n p f y : Nat} (hn : n ≤ 10) (hy : y < n) (hp : ¬ y = p) (hpn : p < n) (hl : lv y = 0) : sp_heir he lv n p (f + 1) (nI y) = sp_heir he lv n p f (he y) := by
  simp only [sp_heir]
  rw [if_neg (isP_nI (by omega) hy), if_neg (fun e => hp ((nI_eq (by omega) (by omega)).mp e)), nI_clamp (by omega), if_pos hl]
theorem heir_at {he lv : Nat → Int32} {n p f y : Nat} (hn : n ≤ 10) (hy : y < n) (hp : ¬ y = p) (hpn : p < n) (hl : ¬ lv y = 0) : sp_heir he lv n p (f + 1) (nI y) = nI y := by
  simp only [sp_heir]
  rw [if_neg (isP_nI (by omega) hy), if_neg (fun e => hp ((nI_eq (by omega) (by omega)).mp e)), nI_clamp (by omega), if_neg hl]
theorem heir_m1 {he lv : Nat → Int32} {n p : Nat} : ∀ f : Nat, sp_heir he lv n p f (-1) = -1
  | 0 => rfl
  | f + 1 => by simp only [sp_heir]; rw [if_pos isP_m1]
theorem heir_p {he lv : Nat → Int32} {n p : Nat} : ∀ f : Nat, sp_heir he lv n p f (nI p) = -1
  | 0 => rfl
  | f + 1 => by
    simp only [sp_heir]
    split
    · rfl
    · simp
theorem heir_ring {he lv : Nat → Int32} {n p : Nat} (hn : n ≤ 10) (hpn : p < n) (C : Nat → Prop) (hC : ∀ y, C y → y < n ∧ ¬ y = p ∧ lv y = 0 ∧ ∃ x, C x ∧ he y = nI x) : ∀ (f y : Nat), C y → sp_heir he lv n p f (he y) = -1
  | 0, _, _ => rfl
  | f + 1, y, h => by
    obtain ⟨-, -, -, x, hx, e⟩ := hC y h
    obtain ⟨g1, g2, g3, -⟩ := hC x hx
    rw [e, heir_go hn g1 g2 hpn g3]
    exact heir_ring hn hpn C hC f x hx
/-- how many places are marked -/
def nc (g : Nat → Int32) : Nat → Nat
  | 0 => 0
  | j + 1 => if g j = 0 then nc g j else nc g j + 1
theorem nc_le {g : Nat → Int32} : ∀ n : Nat, nc g n ≤ n
  | 0 => Nat.le_refl 0
  | j + 1 => by have := nc_le (g := g) j; simp only [nc]; split <;> omega
theorem nc_upd {g : Nat → Int32} {a : Nat} {v : Int32} (hg : g a = 0) (hv : ¬ v = 0) : ∀ n : Nat, nc (upd g a v) n = if a < n then nc g n + 1 else nc g n
  | 0 => by simp [nc]
  | j + 1 => by
    have ih := nc_upd hg hv j
    simp only [nc]
    by_cases e : j = a
    · subst e
      rw [if_neg (Nat.lt_irrefl j)] at ih
      rw [pk_us, if_neg hv, ih, if_pos (by omega), if_pos hg]
    · rw [pk_un e, ih]
      by_cases c : a < j
      · rw [if_pos c, if_pos (show a < j + 1 by omega)]
        by_cases d : g j = 0
        · rw [if_pos d, if_pos d]
        · rw [if_neg d, if_neg d]
      · rw [if_neg c, if_neg (show ¬ a < j + 1 by omega)]
theorem nc_0 : ∀ n : Nat, nc (fun _ => 0) n = 0
  | 0 => rfl
  | j + 1 => by simp only [nc]; exact nc_0 j
theorem nc_more {g : Nat → Int32} {n a : Nat} (ha : a < n) (hg : g a = 0) : nc g n + 1 ≤ n := by
  have h := nc_upd (g := g) (a := a) (v := 1) hg (by decide) n
  rw [if_pos ha] at h
  have := nc_le (g := upd g a 1) n
  omega
/-- the state of the walk to the last heir: g marks where it was, at: where it is -/
def hI (he lv : Nat → Int32) (n p : Nat) (g : Nat → Int32) (at_ : Nat) : Prop :=
  (∀ x, x < n → ¬ g x = 0 → ¬ he x = nI p ∧ ∃ y, y < n ∧ he x = nI y ∧ (¬ g y = 0 ∨ y = at_)) ∧ (∀ x, x < n → ¬ g x = 0 → x = p ∨ lv x = 0) ∧ (at_ = p → nc g n = 0) ∧ (¬ at_ = p → lv at_ = 0) ∧ sp_heir he lv n p n (he p) = sp_heir he lv n p (n - nc g n) (he at_)
theorem hI_0 {he lv : Nat → Int32} {n p : Nat} : hI he lv n p (fun _ => 0) p := ⟨fun x _ h => absurd rfl h, fun x _ h => absurd rfl h, fun _ => nc_0 n, fun h => absurd rfl h, by rw [nc_0]; rfl⟩
/-- it comes to where it was -/
theorem hI_twice {he lv : Nat → Int32} {n p : Nat} {g : Nat → Int32} {a : Nat} (hn : n ≤ 10) (hp : p < n) (ha : a < n) (h : hI he lv n p g a) (hg : ¬ g a = 0) : -1 = sp_heir he lv n p n (he p) := by
  obtain ⟨h1, h2, h3, h4, h5⟩ := h
  have hap : ¬ a = p := fun e => by
    have := nc_upd (g := fun j => if j = a then 0 else g j) (a := a) (v := g a) (if_pos rfl) hg n
    have e2 : upd (fun j => if j = a then 0 else g j) a (g a) = g := by
      funext j
      unfold upd
      by_cases q : j = a
      · rw [if_pos q, q]
      · rw [if_neg q]; exact if_neg q
    rw [e2, if_pos ha] at this
    have := h3 e
    omega
  rw [h5]
  refine (heir_ring hn hp (fun y => y < n ∧ ¬ y = p ∧ ¬ g y = 0) ?_ _ a ⟨ha, hap, hg⟩).symm
  rintro y ⟨q1, q2, q3⟩
  obtain ⟨r1, x, r2, r3, r4⟩ := h1 y q1 q3
  refine ⟨q1, q2, (h2 y q1 q3).resolve_left q2, x, ⟨r2, fun e => r1 (by rw [r3, e]), ?_⟩, r3⟩
  rcases r4 with r4 | r4
  · exact r4
  · rw [r4]; exact hg
theorem hI_none {he lv : Nat → Int32} {n p : Nat} {g : Nat → Int32} {a : Nat} (h : hI he lv n p g a) (e : he a = -1 ∨ he a = nI p) : -1 = sp_heir he lv n p n (he p) := by
  rw [h.2.2.2.2]
  rcases e with e | e <;> rw [e]
  · rw [heir_m1]
  · rw [heir_p]
theorem hI_here {he lv : Nat → Int32} {n p : Nat} {g : Nat → Int32} {a y : Nat} (hn : n ≤ 10) (hp : p < n) (ha : a < n) (h : hI he lv n p g a) (hg : g a = 0) (e : he a = nI y) (hy : y < n) (hyp : ¬ y = p) (hl : ¬ lv y = 0) : nI y = sp_heir he lv n p n (he p) := by
  have hm := nc_more ha hg
  obtain ⟨f, hf⟩ : ∃ f, n - nc g n = f + 1 := ⟨n - nc g n - 1, by omega⟩
  rw [h.2.2.2.2, e, hf, heir_at hn hy hyp hp hl]
theorem hI_on {he lv : Nat → Int32} {n p : Nat} {g : Nat → Int32} {a y : Nat} (hn : n ≤ 10) (hp : p < n) (ha : a < n) (h : hI he lv n p g a) (hg : g a = 0) (e : he a = nI y) (hy : y < n) (hyp : ¬ y = p) (hl : lv y = 0) : hI he lv n p (upd g a 1) y := by
  have hm := nc_more ha hg
  obtain ⟨h1, h2, h3, h4, h5⟩ := h
  have hnc : nc (upd g a 1) n = nc g n + 1 := by rw [nc_upd hg (by decide), if_pos ha]
  refine ⟨fun x hx hgx => ?_, fun x hx hgx => ?_, fun q => absurd q hyp, fun _ => hl, ?_⟩
  · by_cases c : x = a
    · subst c
      exact ⟨fun q => hyp ((nI_eq (by omega) (by omega)).mp (e.symm.trans q)), y, hy, e, Or.inr rfl⟩
    · rw [pk_un c] at hgx
      obtain ⟨q1, z, q2, q3, q4⟩ := h1 x hx hgx
      refine ⟨q1, z, q2, q3, Or.inl ?_⟩
      rcases q4 with q4 | q4
      · by_cases c2 : z = a
        · subst c2; rw [pk_us]; decide
        · rw [pk_un c2]; exact q4
      · rw [q4, pk_us]; decide
  · by_cases c : x = a
    · subst c
      by_cases c2 : x = p
      · exact Or.inl c2
      · exact Or.inr (h4 c2)
    · rw [pk_un c] at hgx
      exact h2 x hx hgx
  · rw [h5, e, hnc, show n - nc g n = (n - (nc g n + 1)) + 1 by omega, heir_go hn hy hyp hp hl]

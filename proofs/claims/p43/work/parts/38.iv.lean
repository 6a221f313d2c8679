/-! coins, in natural numbers -/
def sn (f : Nat → Int32) : Nat → Nat
  | 0 => 0
  | j + 1 => sn f j + (f j).toNatClampNeg
theorem sn_le {f : Nat → Int32} {i : Nat} : ∀ {n : Nat}, i < n → (f i).toNatClampNeg ≤ sn f n
  | 0, h => absurd h (Nat.not_lt_zero i)
  | n + 1, h => by
    simp only [sn]
    by_cases e : i = n
    · subst e; omega
    · have := sn_le (f := f) (n := n) (i := i) (by omega); omega
theorem sn_upd {f : Nat → Int32} {i : Nat} {v : Int32} : ∀ {n : Nat}, i < n → sn (upd f i v) n + (f i).toNatClampNeg = sn f n + v.toNatClampNeg
  | 0, h => absurd h (Nat.not_lt_zero i)
  | n + 1, h => by
    simp only [sn]
    by_cases e : i = n
    · subst e
      have hh : ∀ m : Nat, m ≤ i → sn (upd f i v) m = sn f m := by
        intro m
        induction m with
        | zero => intro _; rfl
        | succ m ih => intro hm; simp only [sn]; rw [ih (by omega), pk_un (by omega)]
      rw [hh i (Nat.le_refl i), pk_us]
      omega
    · have := sn_upd (f := f) (n := n) (i := i) (v := v) (by omega)
      rw [pk_un (Ne.symm e)]
      omega
theorem sn_push {f : Nat → Int32} {v : Int32} {n : Nat} : sn (upd f n v) (n + 1) = sn f n + v.toNatClampNeg := by
  have hh : ∀ m : Nat, m ≤ n → sn (upd f n v) m = sn f m := by
    intro m
    induction m with
    | zero => intro _; rfl
    | succ m ih => intro hm; simp only [sn]; rw [ih (by omega), pk_un (by omega)]
  simp only [sn]
  rw [hh n (Nat.le_refl n), pk_us]
theorem bN_upd {b i y : Nat} {f : Nat → Int32} {v : Int32} {n : Nat} (h : bN b f n) (hy : y ≤ b) (hv : v = nI y) : bN b (upd f i v) n := fun j hj => by
  by_cases q : j = i
  · rw [q, pk_us]; exact ⟨y, hy, hv⟩
  · rw [pk_un q]; exact h j hj
theorem bN_push {b y : Nat} {f : Nat → Int32} {v : Int32} {n : Nat} (h : bN b f n) (hy : y ≤ b) (hv : v = nI y) : bN b (upd f n v) (n + 1) := fun j hj => by
  by_cases q : j = n
  · rw [q, pk_us]; exact ⟨y, hy, hv⟩
  · rw [pk_un q]; exact h j (by omega)
theorem bZ_push {f : Nat → Int32} {v : Int32} {n : Nat} (h : bZ f n) (hv : v = 0 ∨ v = 1) : bZ (upd f n v) (n + 1) := fun j hj => by
  by_cases q : j = n
  · rw [q, pk_us]; exact hv
  · rw [pk_un q]; exact h j (by omega)
theorem bZ_upd {f : Nat → Int32} {v : Int32} {i n : Nat} (h : bZ f n) (hv : v = 0 ∨ v = 1) : bZ (upd f i v) n := fun j hj => by
  by_cases q : j = i
  · rw [q, pk_us]; exact hv
  · rw [pk_un q]; exact h j hj
theorem im_n {a b : Nat} (ha : a < 2 ^ 31) (hb : b < 2 ^ 31) : imin (nI b) (nI a) = nI (min b a) := by
  show (if nI a < nI b then nI a else nI b) = _
  by_cases q : a < b
  · rw [if_pos ((nI_ltI ha hb).mpr q), Nat.min_eq_right (by omega)]
  · rw [if_neg (fun c => q ((nI_ltI ha hb).mp c)), Nat.min_eq_left (by omega)]
theorem ix_n {a b : Nat} (ha : a < 2 ^ 31) (hb : b < 2 ^ 31) : imax (nI b) (nI a) = nI (max b a) := by
  show (if nI b < nI a then nI a else nI b) = _
  by_cases q : b < a
  · rw [if_pos ((nI_ltI hb ha).mpr q), Nat.max_eq_right (by omega)]
  · rw [if_neg (fun c => q ((nI_ltI hb ha).mp c)), Nat.max_eq_left (by omega)]
theorem sub_n {a d : Nat} (ha : a < 2 ^ 30) (hd : d < 2 ^ 30) : imax 0 (nI a - nI d) = nI (a - d) := by
  by_cases c : d ≤ a
  · rw [pk_sub c, show (0 : Int32) = nI 0 from rfl, ix_n (by omega) (by omega), Nat.zero_max]
  · have hn := pk_sneg (a := a) (b := d) hd (by omega)
    show (if (0 : Int32) < _ then _ else _) = _
    rw [if_neg (fun q => by rw [Int32.lt_iff_toInt_lt] at hn q; omega), show a - d = 0 by omega]
    rfl
theorem price_is {y : Nat} (hy : y ≤ 99) : sp_price (nI y) = nI (5 + (99 - y) / 10) := by
  unfold sp_price
  rw [show (99 : Int32) = nI 99 from rfl, pk_sub hy, show (10 : Int32) = nI 10 from rfl, pk_div (by omega) (by omega) (by omega), show (5 : Int32) = nI 5 from rfl, nI_add]
theorem loss_is (b : Int32) : sp_loss b = nI 1 ∨ sp_loss b = nI 2 ∨ sp_loss b = nI 3 := by
  unfold sp_loss
  by_cases h1 : 5 < b
  · by_cases h2 : 12 < b
    · rw [if_pos h1, if_pos h2]; exact Or.inl rfl
    · rw [if_pos h1, if_neg h2]; exact Or.inr (Or.inl rfl)
  · rw [if_neg h1]; exact Or.inr (Or.inr rfl)
theorem tale_is {y k : Nat} (hy : y ≤ 9) (h1 : 1 ≤ k) (h2 : k ≤ 60) (hs : sp_sh (nI y) = 0) : sp_tale (nI y) (nI k) = nI (max 1 (k - (9 - y) / 2)) := by
  unfold sp_tale
  rw [if_pos hs, show (9 : Int32) = nI 9 from rfl, pk_sub hy, show (2 : Int32) = nI 2 from rfl, pk_div (by omega) (by omega) (by omega)]
  by_cases c : (9 - y) / 2 ≤ k
  · rw [pk_sub c, show (1 : Int32) = nI 1 from rfl, ix_n (by omega) (by omega)]
  · have hn := pk_sneg (a := k) (b := (9 - y) / 2) (by omega) (by omega)
    rw [show max 1 (k - (9 - y) / 2) = 1 by omega]
    show (if (1 : Int32) < _ then _ else _) = _
    rw [if_neg (fun q => by
      rw [Int32.lt_iff_toInt_lt] at hn q
      rw [show (1 : Int32).toInt = 1 from rfl] at q
      rw [show (0 : Int32).toInt = 0 from rfl] at hn
      omega)]
    rfl
theorem sh_nI {y : Nat} (hy : y < 2 ^ 31) : sp_sh (nI y) = 0 ↔ 3 ≤ y := by
  rw [sh_iff]
  exact nI_leI (a := 3) (by omega) hy
/-! what is told by somebody -/
theorem ins_mem {t : Int32} : ∀ (p : Nat) (g : Nat → Int32) (i : Nat), i ≤ p → sp_ins t p g i = t ∨ ∃ i', i' < p ∧ sp_ins t p g i = g i'
  | 0, g, i, hi => by
    have e : i = 0 := by omega
    subst e
    simp only [sp_ins]
    exact Or.inl pk_us
  | p + 1, g, i, hi => by
    simp only [sp_ins]
    by_cases c : g p ≤ t
    · rw [if_pos c]
      by_cases e : i = p + 1
      · subst e; exact Or.inl pk_us
      · rw [pk_un e]; exact Or.inr ⟨i, by omega, rfl⟩
    · rw [if_neg c]
      by_cases e : i = p + 1
      · subst e
        have hh : ∀ (q : Nat) (u : Nat → Int32), q < p + 1 → sp_ins t q u (p + 1) = u (p + 1) := by
          intro q
          induction q with
          | zero => intro u _; simp only [sp_ins]; exact pk_un (by omega)
          | succ q ih =>
            intro u hq
            simp only [sp_ins]
            split
            · exact pk_un (by omega)
            · rw [ih _ (by omega)]; exact pk_un (by omega)
        rw [hh p _ (by omega), pk_us]
        exact Or.inr ⟨p, by omega, rfl⟩
      · rcases ins_mem (t := t) p (upd g (p + 1) (g p)) i (by omega) with h | ⟨i', h1, h2⟩
        · exact Or.inl h
        · rw [h2, pk_un (by omega)]; exact Or.inr ⟨i', by omega, rfl⟩
theorem tarr_mem {du nv g : Nat → Int32} {b : Int32} : ∀ (w i : Nat), i < sp_tn du nv w → ∃ j, j < w ∧ ¬ du j = 0 ∧ sp_sh (nv j) = 0 ∧ sp_tarr du nv b g w i = sp_tale (nv j) b
  | 0, i, h => absurd h (Nat.not_lt_zero i)
  | w + 1, i, h => by
    simp only [sp_tn] at h
    simp only [sp_tarr]
    by_cases c : du w = 0
    · rw [if_pos c] at h
      rw [if_pos c]
      obtain ⟨j, h1, h2⟩ := tarr_mem w i h
      exact ⟨j, by omega, h2⟩
    · rw [if_neg c] at h
      rw [if_neg c]
      by_cases c2 : sp_sh (nv w) = 0
      · rw [if_pos c2] at h
        rw [if_pos c2]
        rcases ins_mem (t := sp_tale (nv w) b) (sp_tn du nv w) (sp_tarr du nv b g w) i (by omega) with h3 | ⟨i', h3, h4⟩
        · exact ⟨w, by omega, c, c2, h3⟩
        · rw [h4]
          obtain ⟨j, h1, h2⟩ := tarr_mem w i' h3
          exact ⟨j, by omega, h2⟩
      · rw [if_neg c2] at h
        rw [if_neg c2]
        obtain ⟨j, h1, h2⟩ := tarr_mem w i h
        exact ⟨j, by omega, h2⟩
theorem mid_mem {du nv g : Nat → Int32} {b : Int32} {w : Nat} (h : ¬ sp_tn du nv w = 0) : ∃ j, j < w ∧ ¬ du j = 0 ∧ sp_sh (nv j) = 0 ∧ sp_mid du nv b g w = sp_tale (nv j) b := by
  obtain ⟨j, h1, h2, h3, h4⟩ := tarr_mem (du := du) (nv := nv) (g := g) (b := b) w ((sp_tn du nv w - 1) / 2) (by omega)
  exact ⟨j, h1, h2, h3, by unfold sp_mid; rw [if_neg h]; exact h4⟩
theorem tn_0 {du nv : Nat → Int32} : ∀ {w : Nat}, sp_tn du nv w = 0 → ∀ j, j < w → du j = 0 ∨ ¬ sp_sh (nv j) = 0
  | 0, _, j, hj => absurd hj (Nat.not_lt_zero j)
  | w + 1, h, j, hj => by
    simp only [sp_tn] at h
    by_cases c : du w = 0
    · rw [if_pos c] at h
      by_cases e : j = w
      · subst e; exact Or.inl c
      · exact tn_0 h j (by omega)
    · rw [if_neg c] at h
      by_cases c2 : sp_sh (nv w) = 0
      · rw [if_pos c2] at h; exact absurd h (by omega)
      · rw [if_neg c2] at h
        by_cases e : j = w
        · subst e; exact Or.inr c2
        · exact tn_0 h j (by omega)
theorem mid_is {du nv g : Nat → Int32} {b w : Nat} (hv : bN 9 nv w) (h1 : 1 ≤ b) (h2 : b ≤ 60) : ∃ y, y ≤ 60 ∧ sp_mid du nv (nI b) g w = nI y := by
  by_cases h : sp_tn du nv w = 0
  · exact ⟨0, by omega, by unfold sp_mid; rw [if_pos h]; rfl⟩
  · obtain ⟨j, hj, -, h3, h4⟩ := mid_mem (g := g) (b := nI b) h
    obtain ⟨y, hy, ey⟩ := hv j hj
    rw [ey] at h3 h4
    exact ⟨_, by omega, h4.trans (tale_is hy h1 h2 h3)⟩
/-! the invariant -/
def IV (lv lk pu fa he : Nat → Int32) (n : Nat) (nv du : Nat → Int32) (w : Nat) (mp mi : Nat → Int32) (k : Nat) (fu re : Int32) : Prop :=
  (n ≤ 10 ∧ w ≤ 6 ∧ k ≤ 60) ∧ bZ lv n ∧ bN 99 lk n ∧ bN 9 fa n ∧ bN 1000 pu n ∧ heirR he n ∧ (∀ j, j < n → lv j = 0 → pu j = 0 ∧ fa j = 0) ∧ bN 9 nv w ∧ bZ du w ∧ (∀ j, j < k → ∃ y, y < n ∧ mp j = nI y) ∧ bN 60 mi k ∧ (∃ F : Nat, fu = nI F ∧ F + sn pu n = 100 * n) ∧ ∃ r : Nat, re = nI r ∧ r ≤ 40 * k
section IVS
variable {lv lk pu fa he : Nat → Int32} {n : Nat} {nv du : Nat → Int32} {w : Nat} {mp mi : Nat → Int32} {k : Nat} {fu re : Int32}
theorem iv_0 {a1 a2 a3 a4 a5 a6 a7 a8 a9 : Nat → Int32} : IV a1 a2 a3 a4 a5 0 a6 a7 0 a8 a9 0 0 0 :=
  ⟨⟨by omega, by omega, by omega⟩, fun j h => absurd h (Nat.not_lt_zero j), fun j h => absurd h (Nat.not_lt_zero j), fun j h => absurd h (Nat.not_lt_zero j), fun j h => absurd h (Nat.not_lt_zero j), fun j h => absurd h (Nat.not_lt_zero j), fun j h => absurd h (Nat.not_lt_zero j), fun j h => absurd h (Nat.not_lt_zero j), fun j h => absurd h (Nat.not_lt_zero j), fun j h => absurd h (Nat.not_lt_zero j), fun j h => absurd h (Nat.not_lt_zero j), ⟨0, rfl, rfl⟩, ⟨0, rfl, by omega⟩⟩
theorem iv_addPerson (h : IV lv lk pu fa he n nv du w mp mi k fu re) (hn : n < 10) {x : Int32} {y : Nat} (hy : y ≤ 99) (ex : x = nI y) : IV (upd lv n 1) (upd lk n x) (upd pu n 100) (upd fa n 0) (upd he n (-1)) (n + 1) nv du w mp mi k fu re := by
  obtain ⟨⟨h1, h2, h3⟩, h4, h5, h6, h7, h8, h9, h10, h11, h12, h13, ⟨F, h14, h15⟩, h16⟩ := h
  refine ⟨⟨by omega, h2, h3⟩, bZ_push h4 (Or.inr rfl), bN_push h5 hy ex, bN_push h6 (y := 0) (by omega) rfl, bN_push h7 (y := 100) (by omega) rfl, ?_, ?_, h10, h11, ?_, h13, ⟨F, h14, ?_⟩, h16⟩
  · intro j hj
    by_cases q : j = n
    · rw [q, pk_us]; exact Or.inl rfl
    · rw [pk_un q]
      rcases h8 j (by omega) with e | ⟨z, hz, e⟩
      · exact Or.inl e
      · exact Or.inr ⟨z, by omega, e⟩
  · intro j hj hl
    by_cases q : j = n
    · rw [q, pk_us] at hl; exact absurd hl (by decide)
    · rw [pk_un q] at hl ⊢; rw [pk_un q]; exact h9 j (by omega) hl
  · intro j hj
    obtain ⟨z, hz, e⟩ := h12 j hj
    exact ⟨z, by omega, e⟩
  · rw [sn_push, show ((100 : Int32)).toNatClampNeg = 100 from rfl]; omega
theorem iv_addWitness (h : IV lv lk pu fa he n nv du w mp mi k fu re) (hw : w < 6) {x : Int32} {y : Nat} (hy : y ≤ 9) (ex : x = nI y) : IV lv lk pu fa he n (upd nv w x) (upd du w 1) (w + 1) mp mi k fu re := by
  obtain ⟨⟨h1, h2, h3⟩, h4, h5, h6, h7, h8, h9, h10, h11, h12, h13, h14, h16⟩ := h
  exact ⟨⟨h1, by omega, h3⟩, h4, h5, h6, h7, h8, h9, bN_push h10 hy ex, bZ_push h11 (Or.inr rfl), h12, h13, h14, h16⟩
theorem iv_setHeir (h : IV lv lk pu fa he n nv du w mp mi k fu re) {i : Nat} {v : Int32} (hv : v = -1 ∨ ∃ y : Nat, y < n ∧ v = nI y) : IV lv lk pu fa (upd he i v) n nv du w mp mi k fu re := by
  obtain ⟨h0, h4, h5, h6, h7, h8, h9⟩ := h
  refine ⟨h0, h4, h5, h6, h7, fun j hj => ?_, h9⟩
  by_cases q : j = i
  · rw [q, pk_us]; exact hv
  · rw [pk_un q]; exact h8 j hj
theorem iv_buyFate (h : IV lv lk pu fa he n nv du w mp mi k fu re) {i : Nat} (hi : i < n) (ha : ¬ lv i = 0) (hf : ¬ fa i = 9) (hp : sp_price (lk i) ≤ pu i) : IV lv lk (upd pu i (pu i - sp_price (lk i))) (upd fa i (fa i + 1)) he n nv du w mp mi k (fu + sp_price (lk i)) re := by
  obtain ⟨⟨h1, h2, h3⟩, h4, h5, h6, h7, h8, h9, h10, h11, h12, h13, ⟨F, h14, h15⟩, h16⟩ := h
  obtain ⟨y, hy, ey⟩ := h5 i hi
  obtain ⟨z, hz, ez⟩ := h7 i hi
  obtain ⟨f, hf9, ef⟩ := h6 i hi
  have hq : f < 9 := by
    rcases Nat.lt_or_ge f 9 with q | q
    · exact q
    · exact absurd (by rw [ef, show f = 9 by omega]; rfl) hf
  rw [ey, price_is hy, ez] at hp
  have hp := nn_le (by omega) hp
  have e1 : pu i - sp_price (lk i) = nI (z - (5 + (99 - y) / 10)) := by rw [ez, ey, price_is hy, pk_sub hp]
  refine ⟨⟨h1, h2, h3⟩, h4, h5, bN_upd h6 (y := f + 1) (by omega) (by rw [ef, nI_1]), bN_upd h7 (y := z - (5 + (99 - y) / 10)) (by omega) e1, h8, ?_, h10, h11, h12, h13, ⟨F + (5 + (99 - y) / 10), by rw [h14, ey, price_is hy, nI_add], ?_⟩, h16⟩
  · intro j hj hl
    have q : ¬ j = i := fun e => ha (by rw [← e]; exact hl)
    rw [pk_un q, pk_un q]
    exact h9 j hj hl
  · have hs := sn_upd (f := pu) (v := pu i - sp_price (lk i)) hi
    rw [e1, ez, nI_clamp (by omega), nI_clamp (by omega)] at hs
    rw [e1]
    omega
theorem iv_turnDuty (h : IV lv lk pu fa he n nv du w mp mi k fu re) {i : Nat} {v : Int32} (hv : v = 0 ∨ v = 1) : IV lv lk pu fa he n nv (upd du i v) w mp mi k fu re := by
  obtain ⟨h0, h4, h5, h6, h7, h8, h9, h10, h11, h12⟩ := h
  exact ⟨h0, h4, h5, h6, h7, h8, h9, h10, bZ_upd h11 hv, h12⟩
theorem iv_hit (h : IV lv lk pu fa he n nv du w mp mi k fu re) {i : Nat} (hi : i < n) : IV (upd lv i 0) (if sp_isP n (sp_heir he (upd lv i 0) n i n (he i)) = 0 then lk else upd lk (sp_heir he (upd lv i 0) n i n (he i)).toNatClampNeg (imin 99 (lk (sp_heir he (upd lv i 0) n i n (he i)).toNatClampNeg + lk i / 2))) (upd (if sp_isP n (sp_heir he (upd lv i 0) n i n (he i)) = 0 then pu else upd pu (sp_heir he (upd lv i 0) n i n (he i)).toNatClampNeg (pu (sp_heir he (upd lv i 0) n i n (he i)).toNatClampNeg + pu i)) i 0) (upd fa i 0) he n nv du w mp mi k (if sp_isP n (sp_heir he (upd lv i 0) n i n (he i)) = 0 then fu + pu i else fu) re := by
  obtain ⟨⟨h1, h2, h3⟩, h4, h5, h6, h7, h8, h9, h10, h11, h12, h13, ⟨F, h14, h15⟩, h16⟩ := h
  obtain ⟨z, hz, ez⟩ := h7 i hi
  have hsz := sn_le (f := pu) hi
  rw [ez, nI_clamp (by omega)] at hsz
  rw [heir_upd h1]
  rcases heir_ofi (lv := lv) h1 hi h8 with e | ⟨y, hy, hyi, hly, e⟩
  · rw [e, isP_m1]
    simp only [↓reduceIte]
    refine ⟨⟨h1, h2, h3⟩, bZ_upd h4 (Or.inl rfl), h5, bN_upd h6 (y := 0) (by omega) rfl, bN_upd h7 (y := 0) (by omega) rfl, h8, ?_, h10, h11, h12, h13, ⟨F + z, by rw [h14, ez, nI_add], ?_⟩, h16⟩
    · intro j hj hl
      by_cases q : j = i
      · rw [q, pk_us, pk_us]; exact ⟨rfl, rfl⟩
      · rw [pk_un q] at hl; rw [pk_un q, pk_un q]; exact h9 j hj hl
    · have hs := sn_upd (f := pu) (v := 0) hi
      rw [ez, nI_clamp (by omega), show ((0 : Int32)).toNatClampNeg = 0 from rfl] at hs
      omega
  · rw [e, isP_in (by omega) hy, nI_clamp (by omega)]
    simp only [one_ne, ↓reduceIte]
    obtain ⟨a, ha, ea⟩ := h5 y hy
    obtain ⟨b, hb, eb⟩ := h5 i hi
    obtain ⟨c, hc, ec⟩ := h7 y hy
    have hsc := sn_upd (f := pu) (v := pu y + pu i) hy
    rw [ec, ez, nI_add, nI_clamp (by omega), nI_clamp (by omega)] at hsc
    have hsz2 : (upd pu y (nI (c + z)) i) = nI z := by rw [pk_un (Ne.symm hyi), ez]
    have hsi := sn_upd (f := upd pu y (nI (c + z))) (v := 0) hi
    rw [hsz2, nI_clamp (by omega), show ((0 : Int32)).toNatClampNeg = 0 from rfl] at hsi
    have hcz := sn_le (f := upd (upd pu y (nI (c + z))) i 0) hy
    rw [pk_un hyi, pk_us, nI_clamp (by omega)] at hcz
    refine ⟨⟨h1, h2, h3⟩, bZ_upd h4 (Or.inl rfl), bN_upd h5 (y := min 99 (a + b / 2)) (by omega) (by rw [ea, eb, show (2 : Int32) = nI 2 from rfl, pk_div (by omega) (by omega) (by omega), nI_add, show (99 : Int32) = nI 99 from rfl, im_n (by omega) (by omega)]), bN_upd h6 (y := 0) (by omega) rfl, bN_upd (bN_upd h7 (y := c + z) (by omega) (by rw [ec, ez, nI_add])) (y := 0) (by omega) rfl, h8, ?_, h10, h11, h12, h13, ⟨F, h14, ?_⟩, h16⟩
    · intro j hj hl
      by_cases q : j = i
      · rw [q, pk_us, pk_us]; exact ⟨rfl, rfl⟩
      · rw [pk_un q] at hl
        have q2 : ¬ j = y := fun e9 => hly (by rw [← e9]; exact hl)
        rw [pk_un q, pk_un q, pk_un q2]; exact h9 j hj hl
    · rw [ec, ez, nI_add]
      omega
theorem bN_fr {q : Nat} (h : bN 9 nv w) : ∀ m : Nat, m ≤ w → bN 9 (sp_fr du (nI q) nv m) w ∨ ¬ q ≤ 3
  | 0, _ => Or.inl h
  | m + 1, hm => by
    by_cases hq : q ≤ 3
    · have ih := (bN_fr h m (by omega)).resolve_right (fun f => f hq)
      refine Or.inl ?_
      simp only [sp_fr]
      by_cases c : du m = 0
      · rw [if_pos c]; exact ih
      · rw [if_neg c]
        obtain ⟨y, hy, ey⟩ := ih m (by omega)
        exact bN_upd ih (y := y - q) (by omega) (by rw [ey, sub_n (by omega) (by omega)])
    · exact Or.inr hq
theorem bN_loss (h : bN 9 nv w) (b : Int32) : bN 9 (sp_fr du (sp_loss b) nv w) w := by
  rcases loss_is b with e | e | e <;> rw [e] <;> exact (bN_fr h w (Nat.le_refl w)).resolve_right (fun f => f (by omega))
theorem uses_all {al fv ce : Int32} (h : ¬ sp_uses al fv ce = 0) : ¬ al = 0 ∧ ¬ fv ≤ 0 ∧ ¬ ce ≤ 0 ∧ ¬ 24 < ce := by
  unfold sp_uses at h
  by_cases h1 : al = 0
  · rw [if_pos h1] at h; exact absurd rfl h
  · rw [if_neg h1] at h
    by_cases h2 : fv ≤ 0
    · rw [if_pos h2] at h; exact absurd rfl h
    · rw [if_neg h2] at h
      by_cases h3 : ce ≤ 0
      · rw [if_pos h3] at h; exact absurd rfl h
      · rw [if_neg h3] at h
        by_cases h4 : 24 < ce
        · rw [if_pos h4] at h; exact absurd rfl h
        · exact ⟨h1, h2, h3, h4⟩
theorem iv_miss (h : IV lv lk pu fa he n nv du w mp mi k fu re) {i b : Nat} (hi : i < n) (h1' : 1 ≤ b) (h2' : b ≤ 60) (hk : k < 60) (ha : ¬ lv i = 0) {g : Nat → Int32} {CE : Int32} (hCE : CE = sp_mid du nv (nI b) g w) : IV lv (upd lk i (imax 0 (lk i - (60 - nI b) / 10))) (if sp_uses (lv i) (fa i) CE = 0 then pu else upd pu i (pu i + sp_coins (lv i) (fa i) (lk i) fu CE)) (if sp_uses (lv i) (fa i) CE = 0 then fa else upd fa i (fa i - 1)) he n (sp_fr du (sp_loss (nI b)) nv w) du w (upd mp k (nI i)) (upd mi k CE) (k + 1) (if sp_uses (lv i) (fa i) CE = 0 then fu else fu - sp_coins (lv i) (fa i) (lk i) fu CE) (if sp_uses (lv i) (fa i) CE = 0 then re else re + sp_coins (lv i) (fa i) (lk i) fu CE) := by
  obtain ⟨⟨h1, h2, h3⟩, h4, h5, h6, h7, h8, h9, h10, h11, h12, h13, ⟨F, h14, h15⟩, ⟨r, h16, h17⟩⟩ := h
  obtain ⟨y, hy, ey⟩ := h5 i hi
  have hlk : bN 99 (upd lk i (imax 0 (lk i - (60 - nI b) / 10))) n := bN_upd h5 (y := y - (60 - b) / 10) (by omega) (by rw [ey, show (60 : Int32) = nI 60 from rfl, pk_sub h2', show (10 : Int32) = nI 10 from rfl, pk_div (by omega) (by omega) (by omega), sub_n (by omega) (by omega)])
  have hmp : ∀ j, j < k + 1 → ∃ z, z < n ∧ upd mp k (nI i) j = nI z := by
    intro j hj
    by_cases q : j = k
    · rw [q, pk_us]; exact ⟨i, hi, rfl⟩
    · rw [pk_un q]; exact h12 j (by omega)
  obtain ⟨ce, hce, ece⟩ := mid_is (du := du) (g := g) h10 h1' h2'
  rw [← hCE] at ece
  have hmi : bN 60 (upd mi k CE) (k + 1) := bN_push h13 hce ece
  by_cases u : sp_uses (lv i) (fa i) CE = 0
  · rw [if_pos u, if_pos u, if_pos u, if_pos u]
    exact ⟨⟨h1, h2, by omega⟩, h4, hlk, h6, h7, h8, h9, bN_loss h10 _, h11, hmp, hmi, ⟨F, h14, h15⟩, ⟨r, h16, by omega⟩⟩
  · rw [if_neg u, if_neg u, if_neg u, if_neg u]
    obtain ⟨u1, u2, u3, u4⟩ := uses_all u
    obtain ⟨f, hf, ef⟩ := h6 i hi
    obtain ⟨z, hz, ez⟩ := h7 i hi
    rw [ef] at u2
    have hf0 := nn_nle (a := 0) (b := f) (by omega) u2
    rw [ece] at u4
    have hc24 := nn_nlt (a := ce) (b := 24) (by omega) u4
    have eco : sp_coins (lv i) (fa i) (lk i) fu CE = nI (min F (5 + (99 - y) / 10 + 24 - ce)) := by
      unfold sp_coins
      rw [if_neg u, h14, ey, price_is hy, ece, show (24 : Int32) = nI 24 from rfl, nI_add, pk_sub (by omega), im_n (by omega) (by omega)]
    have hF : F ≤ 1000 := by omega
    have hzl := sn_le (f := pu) hi
    rw [ez, nI_clamp (by omega)] at hzl
    rw [eco]
    have hs := sn_upd (f := pu) (v := nI (z + min F (5 + (99 - y) / 10 + 24 - ce))) hi
    rw [ez, nI_clamp (by omega), nI_clamp (by omega)] at hs
    refine ⟨⟨h1, h2, by omega⟩, h4, hlk, bN_upd h6 (y := f - 1) (by omega) (by rw [ef, show (1 : Int32) = nI 1 from rfl, pk_sub (by omega)]), bN_upd h7 (y := z + min F (5 + (99 - y) / 10 + 24 - ce)) (by omega) (by rw [ez, nI_add]), h8, ?_, bN_loss h10 _, h11, hmp, hmi, ⟨F - min F (5 + (99 - y) / 10 + 24 - ce), by rw [h14, pk_sub (by omega)], ?_⟩, ⟨r + min F (5 + (99 - y) / 10 + 24 - ce), by rw [h16, nI_add], by omega⟩⟩
    · intro j hj hl
      have q : ¬ j = i := fun e => ha (by rw [← e]; exact hl)
      rw [pk_un q, pk_un q]
      exact h9 j hj hl
    · rw [ez, nI_add]
      omega
theorem bN_nn (h : bN 9 nv w) (hd : bZ du w) : ∀ m : Nat, m ≤ w → bN 9 (sp_nn du nv m) w
  | 0, _ => h
  | m + 1, hm => by
    have ih := bN_nn h hd m (by omega)
    simp only [sp_nn]
    obtain ⟨y, hy, ey⟩ := ih m (by omega)
    have eg : sp_gain (du m) = nI (if du m = 0 then 2 else 1) := by unfold sp_gain; split <;> rfl
    refine bN_upd ih (y := min 9 (y + (if du m = 0 then 2 else 1))) (by omega) ?_
    rw [ey, eg, nI_add, show (9 : Int32) = nI 9 from rfl, im_n (by split <;> omega) (by omega)]
theorem bN_pn (h : bN 9 nv w) (hd : bZ du w) : ∀ t : Nat, bN 9 (sp_pn du w nv t) w
  | 0 => h
  | t + 1 => bN_nn (bN_pn h hd t) hd w (Nat.le_refl w)
theorem iv_pass (h : IV lv lk pu fa he n nv du w mp mi k fu re) (t : Nat) : IV lv (sp_pl lv n lk t) pu fa he n (sp_pn du w nv t) du w mp mi k fu re := by
  obtain ⟨h0, h4, h5, h6, h7, h8, h9, h10, h11, h12⟩ := h
  exact ⟨h0, h4, bN_pl h5 t, h6, h7, h8, h9, bN_pn h10 h11 t, h11, h12⟩
end IVS

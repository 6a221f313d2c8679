/-! the middle of what is told -/
def acn (P : Int32 → Bool) (g : Nat → Int32) : Nat → Nat
  | 0 => 0
  | m + 1 => acn P g m + (if P (g m) = true then 1 else 0)
def wcn (P : Int32 → Bool) (du nv : Nat → Int32) (b : Int32) : Nat → Nat
  | 0 => 0
  | j + 1 => if du j = 0 then wcn P du nv b j else if sp_sh (nv j) = 0 then wcn P du nv b j + (if P (sp_tale (nv j) b) = true then 1 else 0) else wcn P du nv b j
theorem acn_eq {P : Int32 → Bool} {g g' : Nat → Int32} : ∀ {m : Nat}, (∀ i : Nat, i < m → g i = g' i) → acn P g m = acn P g' m
  | 0, _ => rfl
  | m + 1, h => by
    have ih := acn_eq (P := P) (m := m) (fun i hi => h i (by omega))
    simp only [acn]
    rw [ih, h m (by omega)]
theorem ins_hi {t : Int32} : ∀ (p : Nat) (g : Nat → Int32) (j : Nat), p < j → sp_ins t p g j = g j
  | 0, g, j, h => upd_ne (by omega)
  | p + 1, g, j, h => by
    simp only [sp_ins]
    by_cases c : g p ≤ t
    · rw [if_pos c, upd_ne (by omega)]
    · rw [if_neg c, ins_hi p _ j (by omega), upd_ne (by omega)]
theorem acn_ins (P : Int32 → Bool) {t : Int32} : ∀ (p : Nat) (g : Nat → Int32), acn P (sp_ins t p g) (p + 1) = acn P g p + (if P t = true then 1 else 0)
  | 0, g => by
    show acn P (upd g 0 t) 0 + (if P (upd g 0 t 0) = true then 1 else 0) = _
    rw [upd_at]
    rfl
  | p + 1, g => by
    simp only [sp_ins]
    by_cases c : g p ≤ t
    · rw [if_pos c]
      show acn P (upd g (p + 1) t) (p + 1) + (if P (upd g (p + 1) t (p + 1)) = true then 1 else 0) = _
      rw [upd_at, acn_eq (g' := g) (fun i hi => upd_ne (by omega))]
    · rw [if_neg c]
      show acn P (sp_ins t p (upd g (p + 1) (g p))) (p + 1) + (if P (sp_ins t p (upd g (p + 1) (g p)) (p + 1)) = true then 1 else 0) = acn P g p + (if P (g p) = true then 1 else 0) + _
      rw [ins_hi p _ (p + 1) (by omega), upd_at, acn_ins P p, acn_eq (m := p) (g' := g) (fun i hi => upd_ne (by omega))]
      omega
def srt (g : Nat → Int32) (m : Nat) : Prop := ∀ i j : Nat, i ≤ j → j < m → g i ≤ g j
theorem i_le {x y : Int32} (h : ¬ x ≤ y) : y ≤ x := by rw [Int32.le_iff_toInt_le] at h ⊢; omega
theorem i_tr {x y z : Int32} (h : x ≤ y) (h2 : y ≤ z) : x ≤ z := by rw [Int32.le_iff_toInt_le] at h h2 ⊢; omega
theorem ins_le {t M : Int32} : ∀ (p : Nat) (g : Nat → Int32), (∀ i : Nat, i < p → g i ≤ M) → t ≤ M → ∀ i : Nat, i ≤ p → sp_ins t p g i ≤ M
  | 0, g, h, ht, i, hi => by
    have e : i = 0 := by omega
    subst e
    show upd g 0 t 0 ≤ M
    rw [upd_at]; exact ht
  | p + 1, g, h, ht, i, hi => by
    simp only [sp_ins]
    by_cases c : g p ≤ t
    · rw [if_pos c]
      by_cases q : i = p + 1
      · rw [q, upd_at]; exact ht
      · rw [upd_ne q]; exact h i (by omega)
    · rw [if_neg c]
      by_cases q : i = p + 1
      · rw [q, ins_hi p _ (p + 1) (by omega), upd_at]; exact h p (by omega)
      · exact ins_le p _ (fun j hj => by rw [upd_ne (by omega)]; exact h j (by omega)) ht i (by omega)
theorem srt_ins {t : Int32} : ∀ (p : Nat) (g : Nat → Int32), srt g p → srt (sp_ins t p g) (p + 1)
  | 0, g, h, i, j, hij, hj => by
    have e : i = j := by omega
    rw [e]; exact Int32.le_refl _
  | p + 1, g, h, i, j, hij, hj => by
    simp only [sp_ins]
    by_cases c : g p ≤ t
    · rw [if_pos c]
      by_cases q : j = p + 1
      · rw [q, upd_at]
        by_cases r : i = p + 1
        · rw [r, upd_at]; exact Int32.le_refl _
        · rw [upd_ne r]; exact i_tr (h i p (by omega) (by omega)) c
      · rw [upd_ne q, upd_ne (by omega)]; exact h i j hij (by omega)
    · rw [if_neg c]
      have hg : srt (upd g (p + 1) (g p)) p := fun a b hab hb => by rw [upd_ne (by omega), upd_ne (by omega)]; exact h a b hab (by omega)
      by_cases q : j = p + 1
      · rw [q]
        by_cases r : i = p + 1
        · rw [r]; exact Int32.le_refl _
        · rw [ins_hi p _ (p + 1) (by omega), upd_at]
          exact ins_le p _ (fun a ha => by rw [upd_ne (by omega)]; exact h a p (by omega) (by omega)) (i_le c) i (by omega)
      · exact srt_ins p _ hg i j hij (by omega)
theorem tarr_cnt (P : Int32 → Bool) {du nv g : Nat → Int32} {b : Int32} : ∀ w : Nat, acn P (sp_tarr du nv b g w) (sp_tn du nv w) = wcn P du nv b w
  | 0 => rfl
  | w + 1 => by
    have ih := tarr_cnt P (du := du) (nv := nv) (g := g) (b := b) w
    simp only [sp_tarr, sp_tn, wcn]
    by_cases c : du w = 0
    · rw [if_pos c, if_pos c, if_pos c, ih]
    · rw [if_neg c, if_neg c, if_neg c]
      by_cases d : sp_sh (nv w) = 0
      · rw [if_pos d, if_pos d, if_pos d, acn_ins, ih]
      · rw [if_neg d, if_neg d, if_neg d, ih]
theorem tarr_srt {du nv g : Nat → Int32} {b : Int32} : ∀ w : Nat, srt (sp_tarr du nv b g w) (sp_tn du nv w)
  | 0 => fun i j _ hj => absurd hj (Nat.not_lt_zero j)
  | w + 1 => by
    have ih := tarr_srt (du := du) (nv := nv) (g := g) (b := b) w
    simp only [sp_tarr, sp_tn]
    by_cases c : du w = 0
    · rw [if_pos c, if_pos c]; exact ih
    · rw [if_neg c, if_neg c]
      by_cases d : sp_sh (nv w) = 0
      · rw [if_pos d, if_pos d]; exact srt_ins _ _ ih
      · rw [if_neg d, if_neg d]; exact ih
theorem acn_max {P : Int32 → Bool} {g : Nat → Int32} : ∀ m : Nat, acn P g m ≤ m
  | 0 => Nat.le_refl 0
  | m + 1 => by
    have ih := acn_max (P := P) (g := g) m
    simp only [acn]
    split <;> omega
theorem acn_all {P : Int32 → Bool} {g : Nat → Int32} : ∀ m : Nat, (∀ i : Nat, i < m → P (g i) = true) → acn P g m = m
  | 0, _ => rfl
  | m + 1, h => by
    simp only [acn]
    rw [acn_all m (fun i hi => h i (by omega)), if_pos (h m (by omega))]
theorem acn_lo {P : Int32 → Bool} {g : Nat → Int32} : ∀ {m h : Nat}, (∀ i : Nat, i ≤ h → P (g i) = true) → h < m → h + 1 ≤ acn P g m
  | 0, _, _, hm => absurd hm (Nat.not_lt_zero _)
  | m + 1, h, hp, hm => by
    by_cases q : h = m
    · rw [q] at hp ⊢
      rw [acn_all (m + 1) (fun i hi => hp i (by omega))]
      exact Nat.le_refl _
    · have ih := acn_lo (m := m) hp (by omega)
      simp only [acn]
      omega
theorem acn_hi {P : Int32 → Bool} {g : Nat → Int32} : ∀ {m h : Nat}, (∀ i : Nat, h ≤ i → i < m → P (g i) = false) → acn P g m ≤ h
  | 0, _, _ => Nat.zero_le _
  | m + 1, h, hp => by
    by_cases q : h ≤ m
    · have ih := acn_hi (m := m) (h := h) (fun i h1 h2 => hp i h1 (by omega))
      simp only [acn]
      rw [if_neg (by rw [hp m q (by omega)]; decide)]
      exact ih
    · have := acn_max (P := P) (g := g) (m + 1)
      omega
theorem acn_zero {P : Int32 → Bool} {g : Nat → Int32} : ∀ {m : Nat}, acn P g m = 0 → ∀ i : Nat, i < m → P (g i) = false
  | 0, _, i, hi => absurd hi (Nat.not_lt_zero i)
  | m + 1, h, i, hi => by
    simp only [acn] at h
    have h1 : ¬ P (g m) = true := fun q => by rw [if_pos q] at h; omega
    by_cases q : i = m
    · rw [q]; exact Bool.eq_false_iff.mpr h1
    · exact acn_zero (m := m) (by omega) i (by omega)
theorem tale_is {y k : Nat} (hy : y ≤ 9) (h1 : 1 ≤ k) (h2 : k ≤ 60) (hs : sp_sh (nI y) = 0) : ∃ t : Nat, 1 ≤ t ∧ t ≤ 60 ∧ sp_tale (nI y) (nI k) = nI t := by
  unfold sp_tale
  rw [if_pos hs, show (9 : Int32) = nI 9 from rfl, pk_sub hy, show (2 : Int32) = nI 2 from rfl, pk_div (by omega) (by omega) (by omega)]
  by_cases c : (9 - y) / 2 ≤ k
  · rw [pk_sub c, show (1 : Int32) = nI 1 from rfl, ix_n (by omega) (by omega)]
    exact ⟨_, Nat.le_max_left _ _, Nat.max_le.mpr ⟨by omega, by omega⟩, rfl⟩
  · have hn := pk_sneg (a := k) (b := (9 - y) / 2) (by omega) (by omega)
    refine ⟨1, by omega, by omega, ?_⟩
    show (if (1 : Int32) < _ then _ else _) = _
    rw [if_neg (fun q => by
      rw [Int32.lt_iff_toInt_lt] at hn q
      rw [show (1 : Int32).toInt = 1 from rfl] at q
      rw [show (0 : Int32).toInt = 0 from rfl] at hn
      omega)]
    rfl
theorem tale_sh {v b : Int32} (h : ¬ sp_sh v = 0) : sp_tale v b = 0 := by unfold sp_tale; rw [if_neg h]
theorem wcn_0 {P : Int32 → Bool} {du nv : Nat → Int32} {b : Int32} : ∀ {w : Nat}, (∀ j : Nat, j < w → sp_sh (nv j) = 0 → P (sp_tale (nv j) b) = false) → wcn P du nv b w = 0
  | 0, _ => rfl
  | w + 1, h => by
    have ih := wcn_0 (P := P) (du := du) (nv := nv) (b := b) (w := w) (fun j hj => h j (by omega))
    simp only [wcn]
    by_cases c : du w = 0
    · rw [if_pos c]; exact ih
    · rw [if_neg c]
      by_cases d : sp_sh (nv w) = 0
      · rw [if_pos d, ih, h w (by omega) d]; rfl
      · rw [if_neg d]; exact ih
theorem e_cn {du of nv : Nat → Int32} {k : Nat} (h1 : 1 ≤ k) (h2 : k ≤ 60) : ∀ {w : Nat}, rI w du of → bN 9 nv w → mq_cn of nv (nI k) w = nI (sp_tn du nv w)
  | 0, _, _ => rfl
  | w + 1, h, hv => by
    have ih := e_cn (du := du) h1 h2 (w := w) (fun j hj => h j (by omega)) (fun j hj => hv j (by omega))
    have hn := h w (by omega)
    obtain ⟨y, hy, ey⟩ := hv w (by omega)
    simp only [mq_cn, sp_tn]
    by_cases c : du w = 0
    · rw [if_pos c, if_neg (fun e => hn.mp e c)]; exact ih
    · rw [if_neg c, if_pos (hn.mpr c)]
      by_cases d : sp_sh (nv w) = 0
      · rw [if_pos d]
        rw [ey] at d
        obtain ⟨t, t1, t2, et⟩ := tale_is hy h1 h2 d
        rw [ey, et, if_neg (nI_nle (by omega) (by omega)), ih, nI_1]
      · rw [if_neg d, tale_sh d, if_pos (Int32.le_refl 0)]; exact ih
theorem e_es {du of nv : Nat → Int32} {b s : Int32} {t : Nat} (h1 : 1 ≤ t) (h2 : t ≤ 60) : ∀ {w : Nat}, rI w du of → mq_es of nv b (nI t) s w = s + nI (wcn (fun x => decide (x = nI t)) du nv b w)
  | 0, _ => by show s = s + nI 0; rw [nI_0, Int32.add_zero]
  | w + 1, h => by
    have ih := e_es (nv := nv) (b := b) (s := s) h1 h2 (w := w) (fun j hj => h j (by omega))
    have hn := h w (by omega)
    simp only [mq_es, wcn]
    by_cases c : du w = 0
    · rw [if_pos c, if_neg (fun e => hn.mp e c)]; exact ih
    · rw [if_neg c, if_pos (hn.mpr c)]
      by_cases d : sp_sh (nv w) = 0
      · rw [if_pos d]
        by_cases q : sp_tale (nv w) b = nI t
        · rw [if_pos q, if_pos (decide_eq_true q), ih, Int32.add_assoc, nI_1]
        · rw [if_neg q, if_neg (fun e => q (of_decide_eq_true e)), ih, Nat.add_zero]
      · rw [if_neg d, tale_sh d, if_neg (fun e => nI_ne0 (n := t) (by omega) (by omega) e.symm)]; exact ih
theorem ind_split {t : Nat} (h1 : 1 ≤ t) (h2 : t ≤ 60) (x : Int32) : (if decide (x ≤ nI t) = true then 1 else 0) = (if decide (x ≤ nI (t - 1)) = true then 1 else 0) + (if decide (x = nI t) = true then 1 else 0) := by
  have a : (x ≤ nI t) ↔ x.toInt ≤ t := by rw [Int32.le_iff_toInt_le, nI_toInt (by omega)]
  have b : (x ≤ nI (t - 1)) ↔ x.toInt ≤ (t : Int) - 1 := by rw [Int32.le_iff_toInt_le, nI_toInt (by omega)]; omega
  have c : (x = nI t) ↔ x.toInt = t := by rw [← Int32.toInt_inj, nI_toInt (by omega)]
  by_cases q : x.toInt = t
  · rw [if_pos (decide_eq_true (a.mpr (by omega))), if_neg (fun e => by have := b.mp (of_decide_eq_true e); omega), if_pos (decide_eq_true (c.mpr q))]
  · by_cases r : x.toInt ≤ t
    · rw [if_pos (decide_eq_true (a.mpr r)), if_pos (decide_eq_true (b.mpr (by omega))), if_neg (fun e => q (c.mp (of_decide_eq_true e)))]
    · rw [if_neg (fun e => r (a.mp (of_decide_eq_true e))), if_neg (fun e => by have := b.mp (of_decide_eq_true e); omega), if_neg (fun e => q (c.mp (of_decide_eq_true e)))]
theorem wcn_split {du nv : Nat → Int32} {b : Int32} {t : Nat} (h1 : 1 ≤ t) (h2 : t ≤ 60) : ∀ w : Nat, wcn (fun x => decide (x ≤ nI t)) du nv b w = wcn (fun x => decide (x ≤ nI (t - 1))) du nv b w + wcn (fun x => decide (x = nI t)) du nv b w
  | 0 => rfl
  | w + 1 => by
    have ih := wcn_split (du := du) (nv := nv) (b := b) h1 h2 w
    simp only [wcn]
    by_cases c : du w = 0
    · rw [if_pos c, if_pos c, if_pos c]; exact ih
    · rw [if_neg c, if_neg c, if_neg c]
      by_cases d : sp_sh (nv w) = 0
      · rw [if_pos d, if_pos d, if_pos d, ih, ind_split h1 h2]; omega
      · rw [if_neg d, if_neg d, if_neg d]; exact ih
theorem wcn_max {P : Int32 → Bool} {du nv : Nat → Int32} {b : Int32} : ∀ w : Nat, wcn P du nv b w ≤ w
  | 0 => Nat.le_refl 0
  | w + 1 => by
    have ih := wcn_max (P := P) (du := du) (nv := nv) (b := b) w
    simp only [wcn]
    split
    · omega
    · split
      · split <;> omega
      · omega
theorem tn_max {du nv : Nat → Int32} : ∀ w : Nat, sp_tn du nv w ≤ w
  | 0 => Nat.le_refl 0
  | w + 1 => by
    have ih := tn_max (du := du) (nv := nv) w
    simp only [sp_tn]
    split
    · omega
    · split <;> omega
theorem sr_is {du of nv : Nat → Int32} {b q : Int32} {w X h : Nat} (hI : rI w du of) (hw : w ≤ 6) (hX1 : 1 ≤ X) (hX : X ≤ 60) (hh : h ≤ 6) (hq : (q - 1) / 2 = nI h) (hc : ∀ t : Nat, t ≤ 60 → (wcn (fun x => decide (x ≤ nI t)) du nv b w ≤ h ↔ t < X)) :
    ∀ (f t : Nat), 1 ≤ t → t ≤ X → X < t + f → mq_sr of nv b w q f t (nI (wcn (fun x => decide (x ≤ nI (t - 1))) du nv b w)) = nI X
  | 0, t, _, _, _ => by omega
  | f + 1, t, h1, h2, h3 => by
    simp only [mq_sr]
    have hm := wcn_max (P := fun x => decide (x ≤ nI t)) (du := du) (nv := nv) (b := b) w
    rw [if_neg (fun c => by have := nn_lt (a := 60) (b := t) (by omega) c; omega), e_es h1 (by omega) hI, nI_add, ← wcn_split h1 (by omega), hq]
    by_cases c : t < X
    · rw [if_pos ((nI_leI (by omega) (by omega)).mpr ((hc t (by omega)).mpr c))]
      exact sr_is hI hw hX1 hX hh hq hc f (t + 1) (by omega) (by omega) (by omega)
    · rw [if_neg (fun u => c ((hc t (by omega)).mp ((nI_leI (by omega) (by omega)).mp u))), show t = X by omega]
/-- both books name the same middle tale, 0 to 60 -/
theorem e_mid {du of nv ta : Nat → Int32} {w k : Nat} (hI : rI w du of) (hv : bN 9 nv w) (hw : w ≤ 6) (h1 : 1 ≤ k) (h2 : k ≤ 60) : ∃ y : Nat, y ≤ 60 ∧ sp_mid du nv (nI k) ta w = nI y ∧ mq_mid of nv (nI k) w = nI y := by
  unfold sp_mid mq_mid
  rw [e_cn h1 h2 hI hv]
  have hm := tn_max (du := du) (nv := nv) w
  by_cases c : sp_tn du nv w = 0
  · rw [if_pos c, if_pos (by rw [c]; rfl)]
    exact ⟨0, by omega, rfl, rfl⟩
  · rw [if_neg c, if_neg (nI_ne0 (by omega) (by omega))]
    have hs := tarr_srt (du := du) (nv := nv) (g := ta) (b := nI k) w
    have hct := fun P => tarr_cnt P (du := du) (nv := nv) (g := ta) (b := nI k) w
    generalize sp_tarr du nv (nI k) ta w = g at hs hct ⊢
    generalize hmm : sp_tn du nv w = mm at hs hct c hm ⊢
    have hr : ∀ i : Nat, i < mm → ∃ t : Nat, 1 ≤ t ∧ t ≤ 60 ∧ g i = nI t := by
      intro i hi
      have hz : acn (fun x => decide (x < 1 ∨ 60 < x)) g mm = 0 := by
        rw [hct]
        refine wcn_0 (fun j hj hsh => ?_)
        obtain ⟨y, hy, ey⟩ := hv j hj
        rw [ey] at hsh ⊢
        obtain ⟨t, t1, t2, et⟩ := tale_is hy h1 h2 hsh
        rw [et]
        refine decide_eq_false (fun u => ?_)
        rcases u with u | u
        · have := nn_lt (a := t) (b := 1) (by omega) u; omega
        · have := nn_lt (a := 60) (b := t) (by omega) u; omega
      have hp := of_decide_eq_false (acn_zero hz i hi)
      obtain ⟨t, ht, et⟩ := nI_of2 (x := g i) (M := 60) (n := 60) rfl (fun u => hp (Or.inl (by
        rw [Int32.lt_iff_toInt_lt] at u ⊢
        rw [show (0 : Int32).toInt = 0 from rfl] at u
        rw [show (1 : Int32).toInt = 1 from rfl]
        omega))) (by
        rw [Int32.le_iff_toInt_le]
        have : ¬ (60 : Int32) < g i := fun u => hp (Or.inr u)
        rw [Int32.lt_iff_toInt_lt] at this
        omega)
      refine ⟨t, ?_, ht, et⟩
      rcases Nat.eq_zero_or_pos t with e | e
      · exact absurd (show g i < 1 by rw [et, e]; decide +kernel) (fun u => hp (Or.inl u))
      · exact e
    obtain ⟨X, hX1, hX, eX⟩ := hr ((mm - 1) / 2) (by omega)
    refine ⟨X, hX, eX, ?_⟩
    have hc : ∀ t : Nat, t ≤ 60 → (wcn (fun x => decide (x ≤ nI t)) du nv (nI k) w ≤ (mm - 1) / 2 ↔ t < X) := by
      intro t ht
      rw [← hct]
      constructor
      · intro u
        refine Nat.lt_of_not_le (fun r => ?_)
        have := acn_lo (P := fun x => decide (x ≤ nI t)) (g := g) (m := mm) (h := (mm - 1) / 2) (fun i hi => decide_eq_true (i_tr (hs i _ hi (by omega)) (by rw [eX]; exact nI_le r (by omega)))) (by omega)
        omega
      · intro u
        refine acn_hi (fun i h3 h4 => decide_eq_false (fun r => ?_))
        have := i_tr (hs _ i h3 h4) r
        rw [eX] at this
        have := nn_le (by omega) this
        omega
    have hz : wcn (fun x => decide (x ≤ nI (1 - 1))) du nv (nI k) w = 0 := by
      refine wcn_0 (fun j hj hsh => ?_)
      obtain ⟨y, hy, ey⟩ := hv j hj
      rw [ey] at hsh ⊢
      obtain ⟨t, t1, t2, et⟩ := tale_is hy h1 h2 hsh
      rw [et]
      exact decide_eq_false (fun u => by have := nn_le (a := t) (b := 1 - 1) (by omega) u; omega)
    have := sr_is (b := nI k) (q := nI mm) hI hw hX1 hX (h := (mm - 1) / 2) (by omega) (by rw [show (1 : Int32) = nI 1 from rfl, pk_sub (by omega), show (2 : Int32) = nI 2 from rfl, pk_div (by omega) (by omega) (by omega)]) hc 61 1 (by omega) hX1 (by omega)
    rw [hz] at this
    exact this

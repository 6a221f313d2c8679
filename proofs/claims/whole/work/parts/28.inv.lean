theorem bit_not {l g : Int32} (h : l = 0 ∨ l = 1) (e : g = sp_not l) : sp_bit l = sp_not g := by
  rcases h with h | h <;> rw [e, h] <;> decide +kernel
theorem RG.eq {n : Nat} {lv gn : Nat → Int32} (h : RG n lv gn) {j : Nat} (hj : j < n) : sp_not (gn j) = lv j := by
  obtain ⟨h1, h2⟩ := h.1 j hj
  rcases h1 with h1 | h1 <;> rw [h2, h1] <;> decide +kernel
theorem RG.one {n : Nat} {lv gn : Nat → Int32} (h : RG n lv gn) {j : Nat} (hj : j < n) (h0 : ¬ lv j = 0) : lv j = 1 := (h.1 j hj).1.resolve_left h0
def IV (lv lk fa he : Nat → Int32) (n : Nat) (nv du : Nat → Int32) (w k : Nat) (gn of : Nat → Int32) : Prop := (n ≤ 10 ∧ w ≤ 6 ∧ k ≤ 60) ∧ (RG n lv gn ∧ RG w du of) ∧ (∀ j : Nat, n ≤ j → fa j = 0) ∧ hR he n ∧ bN 9 nv w ∧ bN 9 fa n ∧ bN 99 lk n
section IVS
variable {lv lk pu fa he : Nat → Int32} {n : Nat} {nv du : Nat → Int32} {w k : Nat} {gn of : Nat → Int32} {mp mi ta : Nat → Int32} {nt fu re : Int32}
theorem e_dpers (h : IV lv lk fa he n nv du w k gn of) (d : Int64) : ∀ m : Nat, m ≤ n → mq_dpers n gn lk pu fa he mp mi k d m = sp_dpers lv lk pu fa he n mp mi k d m
  | 0, _ => rfl
  | m + 1, hm => by
    have ih := e_dpers h d m (by omega)
    obtain ⟨hb, ⟨h1, h2⟩, h3, h4, h5, h6, h7⟩ := h
    have q := h1.1 m (by omega)
    show mq_dper n gn lk pu fa he mp mi k m _ = sp_dper lv lk pu fa he n mp mi k m _
    rw [ih]
    unfold mq_dper sp_dper
    rw [bit_not q.1 q.2, e_heir h4 h1.iff hb.1 (by omega)]
theorem e_dwit (h : IV lv lk fa he n nv du w k gn of) (d : Int64) : ∀ m : Nat, m ≤ w → mq_dwit nv of d m = sp_dwit nv du d m
  | 0, _ => rfl
  | m + 1, hm => by
    have ih := e_dwit h d m (by omega)
    have q := h.2.1.2.1 m (by omega)
    show sp_mix (sp_mix (mq_dwit nv of d m) (nv m).toInt64) (sp_not (of m)).toInt64 = sp_mix (sp_mix (sp_dwit nv du d m) (nv m).toInt64) (sp_bit (du m)).toInt64
    rw [ih, bit_not q.1 q.2]
theorem e_dreg (h : IV lv lk fa he n nv du w k gn of) : mq_dreg n w gn lk nv of mi k nt fu re = sp_dreg lv lk n nv du ta w mi k nt fu re 1951 := by
  obtain ⟨hb, ⟨h1, h2⟩, h3, h4, h5, h6, h7⟩ := h
  obtain ⟨y, _, e1, e2⟩ := e_mid (ta := ta) (k := 20) h2.iff h5 hb.2.1 (by omega) (by omega)
  unfold mq_dreg sp_dreg
  rw [e_cnt h1.iff, e_usk h2.iff h5 hb.2.1, e_ucl h2.1 h5, e_best1 h2.iff (h5.mono (by omega)) (by omega), e_best1 h1.iff h7 hb.1, show (20 : Int32) = nI 20 from rfl, e1, e2]
theorem e_dig (h : IV lv lk fa he n nv du w k gn of) : sp_dlast mp mi k (mq_dwit nv of (mq_dpers n gn lk pu fa he mp mi k (mq_dreg n w gn lk nv of mi k nt fu re) n) w) = sp_dlast mp mi k (sp_dwit nv du (sp_dpers lv lk pu fa he n mp mi k (sp_dreg lv lk n nv du ta w mi k nt fu re 1951) n) w) := by
  rw [e_dwit h _ w (Nat.le_refl w), e_dpers h _ n (Nat.le_refl n), e_dreg (ta := ta) h]
theorem bN_upd {b i y : Nat} {f : Nat → Int32} {v : Int32} {n : Nat} (h : bN b f n) (hy : y ≤ b) (hv : v = nI y) : bN b (upd f i v) n := fun j hj => by
  by_cases q : j = i
  · rw [q, upd_at]; exact ⟨y, hy, hv⟩
  · rw [upd_ne q]; exact h j hj
theorem bN_push {b y : Nat} {f : Nat → Int32} {v : Int32} {n : Nat} (h : bN b f n) (hy : y ≤ b) (hv : v = nI y) : bN b (upd f n v) (n + 1) := fun j hj => by
  by_cases q : j = n
  · rw [q, upd_at]; exact ⟨y, hy, hv⟩
  · rw [upd_ne q]; exact h j (by omega)
theorem bN_more {b y : Nat} {f : Nat → Int32} {n : Nat} (h : bN b f n) (hy : y ≤ b) (hv : f n = nI y) : bN b f (n + 1) := fun j hj => by
  by_cases q : j = n
  · rw [q]; exact ⟨y, hy, hv⟩
  · exact h j (by omega)
theorem RG_push {n : Nat} {lv gn : Nat → Int32} (h : RG n lv gn) : RG (n + 1) (upd lv n 1) gn := ⟨fun j hj => by
  by_cases q : j = n
  · rw [q, upd_at, h.2 n (Nat.le_refl n)]; exact ⟨Or.inr rfl, by decide +kernel⟩
  · rw [upd_ne q]; exact h.1 j (by omega), fun j hj => h.2 j (by omega)⟩
theorem RG_hit {n i : Nat} {lv gn : Nat → Int32} (h : RG n lv gn) (hi : i < n) : RG n (upd lv i 0) (upd gn i 1) := ⟨fun j hj => by
  by_cases q : j = i
  · rw [q, upd_at, upd_at]; exact ⟨Or.inl rfl, by decide +kernel⟩
  · rw [upd_ne q, upd_ne q]; exact h.1 j hj, fun j hj => by rw [upd_ne (by omega)]; exact h.2 j hj⟩
theorem RG_turn {n i : Nat} {lv gn : Nat → Int32} (h : RG n lv gn) (hi : i < n) : RG n (upd lv i (sp_not (lv i))) (upd gn i (sp_not (gn i))) := ⟨fun j hj => by
  by_cases q : j = i
  · rw [q, upd_at, upd_at]
    obtain ⟨h1, h2⟩ := h.1 i hi
    rcases h1 with h1 | h1 <;> rw [h2, h1] <;> exact ⟨by decide +kernel, by decide +kernel⟩
  · rw [upd_ne q, upd_ne q]; exact h.1 j hj, fun j hj => by rw [upd_ne (by omega)]; exact h.2 j hj⟩
theorem iv_addPerson (h : IV lv lk fa he n nv du w k gn of) {x : Int32} {y : Nat} (hy : y ≤ 99) (ex : x = nI y) (hn : n < 10) : IV (upd lv n 1) (upd lk n x) (upd fa n 0) (upd he n (-1)) (n + 1) nv du w k gn of ∧ fa = upd fa n 0 := by
  obtain ⟨hb, ⟨h1, h2⟩, h3, h4, h5, h6, h7⟩ := h
  have e : upd fa n 0 = fa := upd_id (h3 n (Nat.le_refl n))
  refine ⟨⟨⟨by omega, hb.2⟩, ⟨RG_push h1, h2⟩, ?_, ?_, h5, ?_, bN_push h7 hy ex⟩, e.symm⟩
  · rw [e]; exact fun j hj => h3 j (by omega)
  · intro j hj
    by_cases q : j = n
    · rw [q, upd_at]; exact Or.inl rfl
    · rw [upd_ne q]
      rcases h4 j (by omega) with u | ⟨y, u, v⟩
      · exact Or.inl u
      · exact Or.inr ⟨y, by omega, v⟩
  · exact bN_push h6 (y := 0) (by omega) rfl
theorem iv_addWitness (h : IV lv lk fa he n nv du w k gn of) {x : Int32} {y : Nat} (hy : y ≤ 9) (ex : x = nI y) (hw : w < 6) : IV lv lk fa he n (upd nv w x) (upd du w 1) (w + 1) k gn of := by
  obtain ⟨hb, ⟨h1, h2⟩, h3, h4, h5, h6, h7⟩ := h
  exact ⟨⟨hb.1, by omega, hb.2.2⟩, ⟨h1, RG_push h2⟩, h3, h4, bN_push h5 hy ex, h6, h7⟩
theorem iv_setHeir (h : IV lv lk fa he n nv du w k gn of) {i : Nat} {v : Int32} (hv : v = -1 ∨ ∃ y : Nat, y < n ∧ v = nI y) : IV lv lk fa (upd he i v) n nv du w k gn of := by
  obtain ⟨hb, hr, h3, h4, h5, h6, h7⟩ := h
  refine ⟨hb, hr, h3, fun j hj => ?_, h5, h6, h7⟩
  by_cases q : j = i
  · rw [q, upd_at]; exact hv
  · rw [upd_ne q]; exact h4 j hj
theorem iv_fa (h : IV lv lk fa he n nv du w k gn of) {i y : Nat} {v : Int32} (hi : i < n) (hy : y ≤ 9) (hv : v = nI y) : IV lv lk (upd fa i v) he n nv du w k gn of := by
  obtain ⟨hb, hr, h3, h4, h5, h6, h7⟩ := h
  exact ⟨hb, hr, fun j hj => by rw [upd_ne (by omega)]; exact h3 j hj, h4, h5, bN_upd h6 hy hv, h7⟩
theorem iv_buyFate (h : IV lv lk fa he n nv du w k gn of) {i : Nat} (hi : i < n) (hf : fa i < 9) : IV lv lk (upd fa i (fa i + 1)) he n nv du w k gn of := by
  obtain ⟨y, hy, ey⟩ := h.2.2.2.2.2.1 i hi
  rw [ey] at hf
  have := nn_lt (a := y) (b := 9) (by omega) hf
  exact iv_fa h hi (y := y + 1) (by omega) (by rw [ey, nI_1])
theorem iv_turnDuty (h : IV lv lk fa he n nv du w k gn of) {i : Nat} (hi : i < w) : IV lv lk fa he n nv (upd du i (sp_not (du i))) w k gn (upd of i (sp_not (of i))) := by
  obtain ⟨hb, ⟨h1, h2⟩, h3, h4, h5, h6, h7⟩ := h
  exact ⟨hb, ⟨h1, RG_turn h2 hi⟩, h3, h4, h5, h6, h7⟩
theorem iv_hit (h : IV lv lk fa he n nv du w k gn of) {i : Nat} (hi : i < n) (lk' : Nat → Int32) (hl : bN 99 lk' n) : IV (upd lv i 0) lk' (upd fa i 0) he n nv du w k (upd gn i 1) of := by
  have h' := iv_fa h hi (y := 0) (v := 0) (by omega) rfl
  obtain ⟨hb, ⟨h1, h2⟩, h3, h4, h5, h6, h7⟩ := h'
  exact ⟨hb, ⟨RG_hit h1 hi, h2⟩, h3, h4, h5, h6, hl⟩
theorem sub_n {a d : Nat} (ha : a < 2 ^ 30) (hd : d < 2 ^ 30) : imax 0 (nI a - nI d) = nI (a - d) := by
  by_cases c : d ≤ a
  · rw [pk_sub c, show (0 : Int32) = nI 0 from rfl, ix_n (by omega) (by omega), Nat.zero_max]
  · have hn := pk_sneg (a := a) (b := d) hd (by omega)
    show (if (0 : Int32) < _ then _ else _) = _
    rw [if_neg (fun q => by rw [Int32.lt_iff_toInt_lt] at hn q; omega), show a - d = 0 by omega]
    rfl
theorem bN_fr {q : Nat} (hq : q ≤ 3) (h : bN 9 nv w) : ∀ m : Nat, m ≤ w → bN 9 (sp_fr du (nI q) nv m) w
  | 0, _ => h
  | m + 1, hm => by
    have ih := bN_fr hq h m (by omega)
    simp only [sp_fr]
    by_cases c : du m = 0
    · rw [if_pos c]; exact ih
    · rw [if_neg c]
      obtain ⟨y, hy, ey⟩ := ih m (by omega)
      exact bN_upd ih (y := y - q) (by omega) (by rw [ey, sub_n (by omega) (by omega)])
theorem iv_miss (h : IV lv lk fa he n nv du w k gn of) {i c : Nat} {U : Int32} (hi : i < n) (h1 : 1 ≤ c) (h2 : c ≤ 60) (hk : k < 60) (hU : ¬ U = 0 → ¬ fa i ≤ 0) : IV lv (upd lk i (imax 0 (lk i - (60 - nI c) / 10))) (if U = 0 then fa else upd fa i (fa i - 1)) he n (sp_fr du (sp_loss (nI c)) nv w) du w (k + 1) gn of := by
  have h' : IV lv lk (if U = 0 then fa else upd fa i (fa i - 1)) he n nv du w k gn of := by
    by_cases u : U = 0
    · rw [if_pos u]; exact h
    · rw [if_neg u]
      obtain ⟨y, hy, ey⟩ := h.2.2.2.2.2.1 i hi
      have := hU u
      rw [ey] at this ⊢
      have y1 := nn_nle (a := 0) (b := y) (by omega) this
      exact iv_fa h hi (y := y - 1) (by omega) (by rw [show (1 : Int32) = nI 1 from rfl, pk_sub (by omega)])
  obtain ⟨hb, hr, h3, h4, h5, h6, h7⟩ := h'
  refine ⟨⟨hb.1, hb.2.1, by omega⟩, hr, h3, h4, ?_, h6, ?_⟩
  · rcases loss_is (nI c) with e | e | e <;> rw [e] <;> exact bN_fr (by omega) h5 w (Nat.le_refl w)
  · obtain ⟨y, hy, ey⟩ := h7 i hi
    exact bN_upd h7 (y := y - (60 - c) / 10) (by omega) (by rw [ey, show (60 : Int32) = nI 60 from rfl, pk_sub h2, show (10 : Int32) = nI 10 from rfl, pk_div (by omega) (by omega) (by omega), sub_n (by omega) (by omega)])
theorem iv_pass (h : IV lv lk fa he n nv du w k gn of) {t : Nat} (ht : t ≤ 30) : IV lv (sp_pl lv n lk t) fa he n (sp_pn du w nv t) du w k gn of ∧ mq_pn of nv (nI t) w = sp_pn du w nv t ∧ mq_pl gn lk (nI t) n = sp_pl lv n lk t := by
  obtain ⟨hb, ⟨h1, h2⟩, h3, h4, h5, h6, h7⟩ := h
  have a := e_pn h2.iff h5 ht
  have b := e_pl h1.iff h7 ht
  refine ⟨⟨hb, ⟨h1, h2⟩, h3, h4, ?_, h6, ?_⟩, a.symm, b.symm⟩
  · rw [a, pw_pn]
    intro j hj
    obtain ⟨y, hy, ey⟩ := h5 j hj
    show ∃ u : Nat, u ≤ 9 ∧ (if j < w then _ else _) = _
    rw [if_pos hj, ey, show (9 : Int32) = nI 9 from rfl]
    by_cases c : of j = 0
    · rw [if_pos c, show (1 : Int32) = nI 1 from rfl, pk_mul, nI_add, im_n (by omega) (by omega)]
      exact ⟨_, by omega, rfl⟩
    · rw [if_neg c, show (2 : Int32) = nI 2 from rfl, pk_mul, nI_add, im_n (by omega) (by omega)]
      exact ⟨_, by omega, rfl⟩
  · rw [b, pw_pl]
    intro j hj
    obtain ⟨y, hy, ey⟩ := h7 j hj
    show ∃ u : Nat, u ≤ 99 ∧ (if j < n ∧ gn j = 0 then _ else _) = _
    by_cases c : j < n ∧ gn j = 0
    · rw [if_pos c, ey, show (99 : Int32) = nI 99 from rfl, nI_add, im_n (by omega) (by omega)]
      exact ⟨_, by omega, rfl⟩
    · rw [if_neg c]; exact ⟨y, hy, ey⟩
/-- the heir that both books find -/
theorem e_last (h : IV lv lk fa he n nv du w k gn of) {i : Nat} (hi : i < n) : mq_last he gn i (n + 1) i = sp_heir he lv n i n (he i) := e_heir h.2.2.2.1 h.2.1.1.iff h.1.1 hi
theorem heir_P (h : IV lv lk fa he n nv du w k gn of) {i : Nat} (hi : i < n) : (sp_heir he lv n i n (he i) = -1 ∧ sp_isP n (sp_heir he lv n i n (he i)) = 0) ∨ ∃ y : Nat, y < n ∧ sp_heir he lv n i n (he i) = nI y ∧ ¬ sp_heir he lv n i n (he i) = -1 ∧ ¬ sp_isP n (sp_heir he lv n i n (he i)) = 0 := by
  rw [← e_last h hi]
  obtain ⟨hb, hr, h3, h4, h5, h6, h7⟩ := h
  rcases last_ex (by omega) h4 gn i (n + 1) i hi with e | ⟨y, hy, e⟩
  · rw [e]; exact Or.inl ⟨rfl, isP_m1⟩
  · rw [e]; exact Or.inr ⟨y, hy, rfl, ni_m1 (by omega), by rw [isP_in (by omega) hy]; decide⟩
theorem hit_lk (h : IV lv lk fa he n nv du w k gn of) {i : Nat} (hi : i < n) : bN 99 (if sp_isP n (sp_heir he (upd lv i 0) n i n (he i)) = 0 then lk else upd lk (sp_heir he (upd lv i 0) n i n (he i)).toNatClampNeg (imin 99 (lk (sp_heir he (upd lv i 0) n i n (he i)).toNatClampNeg + lk i / 2))) n := by
  rw [heir_upd h.1.1]
  rcases heir_P h hi with ⟨e, e2⟩ | ⟨y, hy, e, -, e2⟩
  · rw [if_pos e2]; exact h.2.2.2.2.2.2
  · rw [if_neg e2, e, nI_clamp (by have := h.1.1; omega)]
    obtain ⟨u, hu, eu⟩ := h.2.2.2.2.2.2 y hy
    obtain ⟨v, hv, ev⟩ := h.2.2.2.2.2.2 i hi
    exact bN_upd h.2.2.2.2.2.2 (y := min 99 (u + v / 2)) (by omega) (by rw [eu, ev, show (2 : Int32) = nI 2 from rfl, pk_div (by omega) (by omega) (by omega), nI_add, show (99 : Int32) = nI 99 from rfl, im_n (by omega) (by omega)])
theorem if_heir {α : Type} (h : IV lv lk fa he n nv du w k gn of) {i : Nat} (hi : i < n) (A B : α) : (if sp_heir he lv n i n (he i) = -1 then A else B) = if sp_isP n (sp_heir he lv n i n (he i)) = 0 then A else B := by
  rcases heir_P h hi with ⟨e, e2⟩ | ⟨y, hy, -, e, e2⟩
  · rw [if_pos e, if_pos e2]
  · rw [if_neg e, if_neg e2]
theorem uses_pos {al fv ce : Int32} (h : ¬ sp_uses al fv ce = 0) : ¬ fv ≤ 0 := fun q => h (by unfold sp_uses; rw [if_pos q]; split <;> rfl)
theorem coins_gone {fv lkv fu ce : Int32} : sp_coins 0 fv lkv fu ce = 0 := by unfold sp_coins sp_uses; rw [if_pos rfl, if_pos rfl]
theorem iv_0 : IV zf zf zf zf 0 zf zf 0 0 zf zf := by
  have e : ∀ (b : Nat) (f : Nat → Int32), bN b f 0 := fun b f j hj => absurd hj (Nat.not_lt_zero j)
  have g : RG 0 zf zf := ⟨fun j hj => absurd hj (Nat.not_lt_zero j), fun _ _ => rfl⟩
  exact ⟨⟨by omega, by omega, by omega⟩, ⟨g, g⟩, fun _ _ => rfl, fun j hj => absurd hj (Nat.not_lt_zero j), e _ _, e _ _, e _ _⟩
end IVS

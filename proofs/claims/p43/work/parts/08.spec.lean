/-! small facts of places and counts -/
abbrev imax (x y : Int32) : Int32 := if x < y then y else x
abbrev imin (x y : Int32) : Int32 := if y < x then y else x
theorem nn_le {a b : Nat} (h : a < 2 ^ 31 ∧ b < 2 ^ 31) (c : nI a ≤ nI b) : a ≤ b := (nI_leI h.1 h.2).mp c
theorem nn_nle {a b : Nat} (h : b < 2 ^ 31 ∧ a < 2 ^ 31) (c : ¬ nI b ≤ nI a) : a < b := Nat.lt_of_not_le (fun q => c ((nI_leI h.1 h.2).mpr q))
theorem nn_lt {a b : Nat} (h : a < 2 ^ 31 ∧ b < 2 ^ 31) (c : nI a < nI b) : a < b := (nI_ltI h.1 h.2).mp c
theorem nn_nlt {a b : Nat} (h : b < 2 ^ 31 ∧ a < 2 ^ 31) (c : ¬ nI b < nI a) : a ≤ b := Nat.le_of_not_lt (fun q => c ((nI_ltI h.1 h.2).mpr q))
theorem nn_eq {a b : Nat} (h : a < 2 ^ 31 ∧ b < 2 ^ 31) (c : nI a = nI b) : a = b := (nI_eq h.1 h.2).mp c
theorem nn_ne {a b : Nat} (h : a < 2 ^ 31 ∧ b < 2 ^ 31) (c : ¬ nI a = nI b) : ¬ a = b := fun q => c (by rw [q])
/-! what the class's methods answer, in numbers -/
def sp_isP (n : Nat) (x : Int32) : Int32 := if x < 0 then 0 else if nI n ≤ x then 0 else 1
def sp_sh (v : Int32) : Int32 := if 2 < v then 0 else 1
def sp_price (v : Int32) : Int32 := 5 + (99 - v) / 10
def sp_uses (al fv ce : Int32) : Int32 := if al = 0 then 0 else if fv ≤ 0 then 0 else if ce ≤ 0 then 0 else if 24 < ce then 0 else 1
def sp_coins (al fv lkv fu ce : Int32) : Int32 := if sp_uses al fv ce = 0 then 0 else imin fu (sp_price lkv + 24 - ce)
def sp_loss (b : Int32) : Int32 := if 5 < b then if 12 < b then 1 else 2 else 3
def sp_gain (d : Int32) : Int32 := if d = 0 then 2 else 1
def sp_calmN (v g : Int32) : Nat → Nat → Nat
  | 0, k => k
  | f + 1, k => if 9 ≤ k then k else if 2 < v + nI k * g then k else sp_calmN v g f (k + 1)
def sp_calm (v d : Int32) : Int32 := nI (sp_calmN v (sp_gain d) 10 0)
def sp_cnt (lv : Nat → Int32) : Nat → Int32
  | 0 => 0
  | j + 1 => if lv j = 0 then sp_cnt lv j else sp_cnt lv j + 1
def sp_shk (nv : Nat → Int32) : Nat → Int32
  | 0 => 0
  | j + 1 => if sp_sh (nv j) = 0 then sp_shk nv j else sp_shk nv j + 1
def sp_cert (mi : Nat → Int32) : Nat → Int32
  | 0 => 0
  | j + 1 => if mi j ≤ 0 then sp_cert mi j else sp_cert mi j + 1
def sp_best (al v : Nat → Int32) : Nat → Int32 × Int32
  | 0 => (-1, -1)
  | j + 1 => if al j = 0 then sp_best al v j else if v j ≤ (sp_best al v j).2 then sp_best al v j else (nI j, v j)
def sp_nuc (nv du : Nat → Int32) : Nat → Int32
  | 0 => 0
  | j + 1 => imax (sp_nuc nv du j) (sp_calm (nv j) (du j))
def sp_dig (s v : Int32) : Int32 := s * 31 + 48 + v
def sp_num (s x : Int32) : Int32 := if x < 10 then s * 31 + 48 + (x - x / 10 * 10) else (s * 31 + 48 + x / 10) * 31 + 48 + (x - x / 10 * 10)
def sp_mix (d x : Int64) : Int64 := d * 31 + x
def sp_bit (b : Int32) : Int32 := if b = 0 then 0 else 1
def sp_heir (he lv : Nat → Int32) (n p : Nat) : Nat → Int32 → Int32
  | 0, _ => -1
  | f + 1, h => if sp_isP n h = 0 then -1 else if h = nI p then -1 else if lv h.toNatClampNeg = 0 then sp_heir he lv n p f (he h.toNatClampNeg) else h
def sp_tale (v b : Int32) : Int32 := if sp_sh v = 0 then imax 1 (b - (9 - v) / 2) else 0
def sp_many (mp : Nat → Int32) (p : Int32) : Nat → Int32
  | 0 => 0
  | j + 1 => if mp j = p then sp_many mp p j + 1 else sp_many mp p j
def sp_close (mp mi : Nat → Int32) (p : Int32) : Nat → Int32
  | 0 => 0
  | j + 1 => if mp j = p then if mi j ≤ 0 then sp_close mp mi p j else if sp_close mp mi p j = 0 then mi j else if sp_close mp mi p j ≤ mi j then sp_close mp mi p j else mi j else sp_close mp mi p j
theorem isP_ex {n : Nat} {x : Int32} (hn : n < 2 ^ 31) (h : ¬ sp_isP n x = 0) : ∃ i : Nat, i < n ∧ x = nI i := by
  unfold sp_isP at h
  by_cases h1 : x < 0
  · simp [h1] at h
  · obtain ⟨i, hi, rfl⟩ := nI_of h1
    by_cases h2 : nI n ≤ nI i
    · simp [h2] at h
    · exact ⟨i, nn_nle ⟨hn, hi⟩ h2, rfl⟩
theorem isP_in {n i : Nat} (hn : n < 2 ^ 31) (hi : i < n) : sp_isP n (nI i) = 1 := by
  unfold sp_isP
  rw [if_neg (nI_pos (by omega)), if_neg (nI_ge hi hn)]

/-! the rows of a kind -/
def rW (c : ClassId) (L : Nat) (r : Nat → Nat) (f : Nat → Nat → Int32) (n : Nat) : va_W := (List.range n).map (fun i => (r i, .inl (c, L, .inl (f i))))
theorem rW_len {c : ClassId} {L : Nat} {r : Nat → Nat} {f : Nat → Nat → Int32} {n : Nat} : (rW c L r f n).length = n := by simp [rW]
theorem rW_get {c : ClassId} {L : Nat} {r : Nat → Nat} {f : Nat → Nat → Int32} {n i : Nat} (hi : i < n) : (rW c L r f n)[i]? = some (r i, .inl (c, L, .inl (f i))) := by
  simp [rW, List.getElem?_map, List.getElem?_range hi]
theorem rW_congr {c : ClassId} {L : Nat} {r r' : Nat → Nat} {f f' : Nat → Nat → Int32} {n : Nat} (hr : ∀ i, i < n → r i = r' i) (hf : ∀ i, i < n → f i = f' i) : rW c L r f n = rW c L r' f' n := by
  unfold rW
  apply List.map_congr_left
  intro i hi
  have hi := List.mem_range.mp hi
  rw [hr i hi, hf i hi]
theorem rW_set {c : ClassId} {L : Nat} {r : Nat → Nat} {f : Nat → Nat → Int32} {n i : Nat} (g : Nat → Int32) : (rW c L r f n).set i (r i, .inl (c, L, .inl g)) = rW c L r (fun j => if j = i then g else f j) n := by
  apply List.ext_getElem?
  intro j
  rw [List.getElem?_set]
  by_cases hj : j < n
  · have h1 : (rW c L r (fun j => if j = i then g else f j) n)[j]? = some (r j, .inl (c, L, .inl (if j = i then g else f j))) := rW_get hj
    have h2 : (rW c L r f n)[j]? = some (r j, .inl (c, L, .inl (f j))) := rW_get hj
    rw [h1, h2]
    by_cases e : i = j
    · subst e
      rw [if_pos rfl, if_pos (by rw [rW_len]; exact hj), if_pos rfl]
    · rw [if_neg e, if_neg (Ne.symm e)]
  · have h1 : (rW c L r (fun j => if j = i then g else f j) n)[j]? = none := List.getElem?_eq_none (by rw [rW_len]; omega)
    have h2 : (rW c L r f n)[j]? = none := List.getElem?_eq_none (by rw [rW_len]; omega)
    rw [h1, h2]
    by_cases e : i = j
    · rw [if_pos e, if_neg (by rw [rW_len]; omega)]
    · rw [if_neg e]
theorem rW_succ {c : ClassId} {L : Nat} {r : Nat → Nat} {f : Nat → Nat → Int32} {n : Nat} : rW c L r f (n + 1) = rW c L r f n ++ [(r n, .inl (c, L, .inl (f n)))] := by
  simp [rW, List.range_succ]
def prow (lv lk pu fa he : Nat → Int32) (i j : Nat) : Int32 := if j = 0 then lv i else if j = 1 then lk i else if j = 2 then pu i else if j = 3 then fa i else he i
def wrow (nv du : Nat → Int32) (i j : Nat) : Int32 := if j = 0 then nv i else du i
abbrev qS (r : Nat → Nat) : (Nat → Int32) ⊕ (Nat → Int64) ⊕ (Nat → UInt32) ⊕ (Nat → UInt64) ⊕ (Nat → Option Nat) := .inr (.inr (.inr (.inr (fun i => some (r i)))))
def qT (z : ClassId) (rp rw rm : Nat → Nat) (lv lk pu fa he : Nat → Int32) (n : Nat) (nv du : Nat → Int32) (w : Nat) (mp mi : Nat → Int32) (k : Nat) : va_W := rW z 5 rp (prow lv lk pu fa he) n ++ (rW z 2 rw (wrow nv du) w ++ rW z 2 rm (wrow mp mi) k)
/-- the whole: its object, the outer rows of persons, witnesses, misses, and the rows -/
def qW (z : ClassId × ClassId) (cG : ClassId) (b : Nat → Nat) (rp : Nat → Nat) (rw : Nat → Nat) (rm : Nat → Nat) (lv : Nat → Int32) (lk : Nat → Int32) (pu : Nat → Int32) (fa : Nat → Int32) (he : Nat → Int32) (n : Nat) (nv : Nat → Int32) (du : Nat → Int32) (w : Nat) (mp : Nat → Int32) (mi : Nat → Int32) (k : Nat) (nt : Int32) (fu : Int32) (re : Int32) : va_W :=
  (b 0, .inr (1, [.int nt, .int fu, .int re, .ref (b 1), .ref (b 2), .ref (b 3)])) :: (b 1, .inl (cG, n, qS rp)) :: (b 2, .inl (cG, w, qS rw)) :: (b 3, .inl (cG, k, qS rm)) :: qT z.1 rp rw rm lv lk pu fa he n nv du w mp mi k
def qI (D : va_G) (z : ClassId × ClassId) (cG : ClassId) (Wd : va_W) (U : State) : Prop := va_P D vwCl Wd U.heap ∧ kK D z U ∧ kG cG U
theorem qI.call {D : va_G} {z : ClassId × ClassId} {cG : ClassId} {Wd : va_W} {U : State} {g : JFrame} {mk : MethodId} {a1 : Array Value} (h : qI D z cG Wd U) : qI D z cG Wd (U.calling g mk a1) :=
  ⟨h.1, va_K.moved (u := U) (U := U.calling g mk a1) (Vm.Alike.refl U.vm) h.2.1, kG.moved (u := U) (U := U.calling g mk a1) (Vm.Alike.refl U.vm) h.2.2⟩
theorem qI.into {D : va_G} {z : ClassId × ClassId} {cG : ClassId} {Wd : va_W} {s U : State} {H : Heap} (hK : kK D z s) (hG : kG cG s) (hP : va_P D vwCl Wd H) (hU : U.heap = H) (hW : s.WarmedH U.vm) : qI D z cG Wd U :=
  ⟨by rw [hU]; exact hP, va_K.moved hW.alike hK, kG.moved hW.alike hG⟩
section QW
variable {z : ClassId × ClassId} {cG : ClassId} {M : va_W}
variable {b : Nat → Nat} {rp : Nat → Nat} {rw : Nat → Nat} {rm : Nat → Nat} {lv : Nat → Int32} {lk : Nat → Int32} {pu : Nat → Int32} {fa : Nat → Int32} {he : Nat → Int32} {n : Nat} {nv : Nat → Int32} {du : Nat → Int32} {w : Nat} {mp : Nat → Int32} {mi : Nat → Int32} {k : Nat} {nt : Int32} {fu : Int32} {re : Int32}
theorem qW_p {i : Nat} (hi : i < n) : (qW z cG b rp rw rm lv lk pu fa he n nv du w mp mi k nt fu re ++ M)[4 + i]? = some (rp i, .inl (z.1, 5, .inl (prow lv lk pu fa he i))) := by
  rw [show 4 + i = i + 4 by omega]
  refine wj_lt ?_
  show (qT z.1 rp rw rm lv lk pu fa he n nv du w mp mi k)[i]? = _
  exact wj_lt (rW_get hi)
theorem qW_w {i : Nat} (hi : i < w) : (qW z cG b rp rw rm lv lk pu fa he n nv du w mp mi k nt fu re ++ M)[4 + n + i]? = some (rw i, .inl (z.1, 2, .inl (wrow nv du i))) := by
  rw [show 4 + n + i = (n + i) + 4 by omega]
  refine wj_lt ?_
  show (qT z.1 rp rw rm lv lk pu fa he n nv du w mp mi k)[n + i]? = _
  have h := wj_rt (X := rW z.1 5 rp (prow lv lk pu fa he) n) (wj_lt (M := rW z.1 2 rm (wrow mp mi) k) (rW_get (c := z.1) (L := 2) (r := rw) (f := wrow nv du) hi))
  rw [rW_len] at h
  exact h
theorem qW_m {i : Nat} (hi : i < k) : (qW z cG b rp rw rm lv lk pu fa he n nv du w mp mi k nt fu re ++ M)[4 + n + w + i]? = some (rm i, .inl (z.1, 2, .inl (wrow mp mi i))) := by
  rw [show 4 + n + w + i = (n + (w + i)) + 4 by omega]
  refine wj_lt ?_
  show (qT z.1 rp rw rm lv lk pu fa he n nv du w mp mi k)[n + (w + i)]? = _
  have h := wj_rt (X := rW z.1 2 rw (wrow nv du) w) (rW_get (c := z.1) (L := 2) (r := rm) (f := wrow mp mi) hi)
  have h2 := wj_rt (X := rW z.1 5 rp (prow lv lk pu fa he) n) h
  rw [rW_len, rW_len] at h2
  exact h2
theorem qW_sp {i : Nat} {lv' lk' pu' fa' he' : Nat → Int32} (hi : i < n) (g : Nat → Int32) (hg : g = prow lv' lk' pu' fa' he' i) (h : ∀ j, ¬ j = i → prow lv' lk' pu' fa' he' j = prow lv lk pu fa he j) : (qW z cG b rp rw rm lv lk pu fa he n nv du w mp mi k nt fu re ++ M).set (4 + i) (rp i, .inl (z.1, 5, .inl g)) = qW z cG b rp rw rm lv' lk' pu' fa' he' n nv du w mp mi k nt fu re ++ M := by
  rw [List.set_append_left _ _ (by unfold qW qT; simp only [List.length_cons, List.length_append, rW_len]; omega), show 4 + i = i + 4 by omega]
  congr 1
  show _ :: _ :: _ :: _ :: List.set _ i _ = _ :: _ :: _ :: _ :: _
  congr 4
  unfold qT
  rw [List.set_append_left _ _ (by rw [rW_len]; exact hi), rW_set]
  congr 1
  refine rW_congr (fun _ _ => rfl) (fun j _ => ?_)
  by_cases e : j = i
  · subst e; rw [if_pos rfl, hg]
  · rw [if_neg e, h j e]
theorem qW_sw {i : Nat} {nv' du' : Nat → Int32} (hi : i < w) (g : Nat → Int32) (hg : g = wrow nv' du' i) (h : ∀ j, ¬ j = i → wrow nv' du' j = wrow nv du j) : (qW z cG b rp rw rm lv lk pu fa he n nv du w mp mi k nt fu re ++ M).set (4 + n + i) (rw i, .inl (z.1, 2, .inl g)) = qW z cG b rp rw rm lv lk pu fa he n nv' du' w mp mi k nt fu re ++ M := by
  rw [List.set_append_left _ _ (by unfold qW qT; simp only [List.length_cons, List.length_append, rW_len]; omega), show 4 + n + i = (n + i) + 4 by omega]
  congr 1
  show _ :: _ :: _ :: _ :: List.set _ (n + i) _ = _ :: _ :: _ :: _ :: _
  congr 4
  unfold qT
  rw [List.set_append_right _ _ (by rw [rW_len]; omega), rW_len, Nat.add_sub_cancel_left, List.set_append_left _ _ (by rw [rW_len]; exact hi), rW_set]
  congr 2
  refine rW_congr (fun _ _ => rfl) (fun j _ => ?_)
  by_cases e : j = i
  · subst e; rw [if_pos rfl, hg]
  · rw [if_neg e, h j e]
end QW
theorem prow_0 {lv lk pu fa he : Nat → Int32} {i : Nat} {v : Int32} : upd (prow lv lk pu fa he i) 0 v = prow (upd lv i v) lk pu fa he i := by funext j; unfold upd prow; by_cases h : j = 0 <;> simp [h]
theorem prow_1 {lv lk pu fa he : Nat → Int32} {i : Nat} {v : Int32} : upd (prow lv lk pu fa he i) 1 v = prow lv (upd lk i v) pu fa he i := by funext j; unfold upd prow; by_cases h : j = 1 <;> simp [h]
theorem prow_2 {lv lk pu fa he : Nat → Int32} {i : Nat} {v : Int32} : upd (prow lv lk pu fa he i) 2 v = prow lv lk (upd pu i v) fa he i := by funext j; unfold upd prow; by_cases h : j = 2 <;> simp [h]
theorem prow_3 {lv lk pu fa he : Nat → Int32} {i : Nat} {v : Int32} : upd (prow lv lk pu fa he i) 3 v = prow lv lk pu (upd fa i v) he i := by funext j; unfold upd prow; by_cases h : j = 3 <;> simp [h]
theorem prow_o {a : Nat → Int32} {i j : Nat} {v : Int32} (h : ¬ j = i) : upd a i v j = a j := if_neg h
theorem wrow_0 {nv du : Nat → Int32} {i : Nat} {v : Int32} : upd (wrow nv du i) 0 v = wrow (upd nv i v) du i := by funext j; unfold upd wrow; by_cases h : j = 0 <;> simp [h]

abbrev nw (s : State) : Nat → Prop := fun q => s.heap.size ≤ q
/-- what holds all along the law -/
def LX (p : Program) (l : Launch) (s : State) (m : MethodId) (c : Code) (b L : Nat) (xs : Nat → Int32) (D : va_G) (z z2 : ClassId × ClassId) (cJ : ClassId) (q9 t9 : Nat → Nat) : Prop := CallFix p m c cL_law 9 s #[.ref b] lw_all RL ∧ l.stackTraces = false ∧ (va_X b L xs s s.heap ∧ b < s.heap.size ∧ L ≤ 1536) ∧ (kK D z s ∧ kK D z2 s ∧ kJ D cJ s) ∧ tH (nw s) s s.heap ∧ tN s ∧ cH q9 t9 (nw s) s s.heap
/-- the two worlds at the law's head -/
def Jn (D : va_G) (z z2 : ClassId × ClassId) (cJ : ClassId) (a a2 : Nat → Nat) (o : Nat) (s : State) (H : Heap) (locs : List Loc) : Prop := ∃ (lv lk pu fa he : Nat → Int32) (n : Nat) (nv du ta : Nat → Int32) (w : Nat) (mp mi : Nat → Int32) (k : Nat) (nt fu re : Int32) (gn of : Nat → Int32) (th : Int32) (g : Nat → Int64), IV lv lk fa he n nv du w k gn of ∧ va_P D vwCl (oW o cJ g (xW z a lv lk pu fa he n nv du ta w mp mi k nt fu re) ++ mW z2 a2 th n w gn lk pu fa he nv of mp mi k nt fu re) H ∧ va_D (nw s) (oW o cJ g (xW z a lv lk pu fa he n nv du ta w mp mi k nt fu re) ++ mW z2 a2 th n w gn lk pu fa he nv of mp mi k nt fu re) ∧ va_S (nw s) s.heap H locs
theorem fa_9 {lv lk fa he : Nat → Int32} {n : Nat} {nv du : Nat → Int32} {w k : Nat} {gn of : Nat → Int32} (h : IV lv lk fa he n nv du w k gn of) {i : Nat} (hi : i < n) (hf : ¬ fa i < 9) : fa i = 9 := by
  obtain ⟨y, hy, ey⟩ := h.2.2.2.2.2.1 i hi
  rw [ey] at hf ⊢
  have := nn_nlt (a := 9) (b := y) (by omega) hf
  rw [show y = 9 by omega]; rfl
theorem fa_l {x : Int32} (h : x < 9) : ¬ x = 9 := fun q => by rw [q] at h; exact absurd h (by decide)
theorem nlt_0 {x : Int32} (h : ¬ x < 1) : ¬ x < 0 := fun q => h (by
  rw [Int32.lt_iff_toInt_lt] at q ⊢
  rw [show (0 : Int32).toInt = 0 from rfl] at q
  rw [show (1 : Int32).toInt = 1 from rfl]
  omega)
theorem nlt_1 {t : Nat} (ht : t < 2 ^ 31) (h : ¬ nI t < 1) : 1 ≤ t := nn_nlt (a := 1) (b := t) (by omega) h
section LWROWS
variable {p : Program} {l : Launch} {e : Env} {R : Room} {s : State} {m : MethodId} {args : Array Value} {below : List Frame} {meth : Method} {c : Code} {H : Heap} {locs : List Loc} {cells slots : Nat} {Q : State → Prop} {cc : ByteArray} {nL pc : Nat} {ls : Array Slot} {rest : List Value}
theorem w_sld {b L : Nat} {xs : Nat → Int32} {A : Nat → Prop} {H0 : Heap} (hx : p.tables.exec = Jvm.exec) (hb : c.code = cc) (hX : va_X b L xs s H0) (hbl : b < H0.size) (hbA : ¬ A b) (hS : va_S A H0 H locs) (hL : L ≤ 1536) {v v' : Int32} (j : Nat) (hv : v = nI j) (hj : j < L) (he : xs j = v') (hdg : decode cc pc = .ok (.iaload, 1)) (kk : W p l e R s m args below meth c H locs cells slots Q (F0 m (pc + 1) ls (.int v' :: rest))) : W p l e R s m args below meth c H locs cells slots Q (F0 m pc ls (.int v :: .ref b :: rest)) := by
  subst hv
  refine va_sld hx hb hX hbl hbA hS (vp_in_nI hj (by omega)) hdg ?_
  rw [nI_clamp (by omega), he]
  exact kk
theorem w_lcmp (hx : p.tables.exec = Jvm.exec) (hb : c.code = cc) {x y : Int64} (hdg : decode cc pc = .ok (.lcmp, 1)) (h : x = y) (kk : W p l e R s m args below meth c H locs cells slots Q (F0 m (pc + 1) ls (.int 0 :: rest))) : W p l e R s m args below meth c H locs cells slots Q (F0 m pc ls (.long y :: .long x :: rest)) := by
  subst h
  intro T hT X
  obtain ⟨t, a, b⟩ := kk T hT X
  refine ⟨t, ?_, b⟩
  have h1 : ¬ x > x := Int64.lt_irrefl
  jvm_step X.here [X.here.top, hx, hb, hdg, h1]
  exact a
theorem w_dcmp (hx : p.tables.exec = Jvm.exec) (hb : c.code = cc) {x y : UInt64} (hdg : decode cc pc = .ok (.dcmp .l, 1)) (h : FP.dcmp x y = some .eq) (kk : W p l e R s m args below meth c H locs cells slots Q (F0 m (pc + 1) ls (.int 0 :: rest))) : W p l e R s m args below meth c H locs cells slots Q (F0 m pc ls (.double y :: .double x :: rest)) := by
  refine lv_dcmp hx hb hdg ?_
  rw [h]
  exact kk
end LWROWS

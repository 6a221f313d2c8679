/-! worlds that are lists put together -/
section WJ
variable {A0 : Nat → Prop} {D : va_G} {cl : List vw_C} {X X' M M' : va_W} {H H1 : Heap}
theorem wj_Pl (h : va_P D cl (X ++ M) H) : va_P D cl X H := fun k q hk => h k q (by rw [List.getElem?_append_left (List.getElem?_eq_some_iff.mp hk).1]; exact hk)
theorem wj_rt {k : Nat} {q : Nat × va_E} (hk : M[k]? = some q) : (X ++ M)[X.length + k]? = some q := by rw [List.getElem?_append_right (Nat.le_add_right _ _), Nat.add_sub_cancel_left]; exact hk
theorem wj_lt {k : Nat} {q : Nat × va_E} (hk : X[k]? = some q) : (X ++ M)[k]? = some q := by rw [List.getElem?_append_left (List.getElem?_eq_some_iff.mp hk).1]; exact hk
theorem wj_Pr (h : va_P D cl (X ++ M) H) : va_P D cl M H := fun k q hk => h (X.length + k) q (wj_rt hk)
theorem wj_Dl (h : va_D A0 (X ++ M)) : va_D A0 X := ⟨fun i j p q hp hq e => h.1 i j p q (wj_lt hp) (wj_lt hq) e, fun k q hk => h.2 k q (wj_lt hk)⟩
theorem wj_Dr (h : va_D A0 (X ++ M)) : va_D A0 M := ⟨fun i j p q hp hq e => by have := h.1 _ _ p q (wj_rt hp) (wj_rt hq) e; omega, fun k q hk => h.2 _ q (wj_rt hk)⟩
theorem wj_ne (h : va_D A0 (X ++ M)) {i j : Nat} {p q : Nat × va_E} (hp : X[i]? = some p) (hq : M[j]? = some q) : p.1 ≠ q.1 := fun e => by
  have h1 := h.1 _ _ p q (wj_lt hp) (wj_rt hq) e
  have h2 := (List.getElem?_eq_some_iff.mp hp).1
  omega
theorem wj_l (hP : va_P D cl (X ++ M) H) (hD : va_D A0 (X ++ M)) (hk : ∀ q : Nat, q < H.size → ¬ va_A X H.size q → H1[q]? = H[q]?) (hF : ∀ q, va_A X H.size q → A0 q) (hP1 : va_P D cl X' H1) (hD1 : va_D (va_A X H.size) X') : va_P D cl (X' ++ M) H1 ∧ va_D A0 (X' ++ M) := by
  have ap : ∀ (k : Nat) (q : Nat × va_E), M[k]? = some q → q.1 < H.size ∧ ¬ va_A X H.size q.1 := by
    intro k q hq
    have hl := (wj_Pr hP k q hq).lt
    refine ⟨hl, fun h => ?_⟩
    rcases h with ⟨k2, e, h⟩ | h
    · exact wj_ne hD h hq rfl
    · omega
  refine ⟨va_P.app hP1 (fun k q hq => ?_), va_D.app (hD1.weaken (fun k q _ h => hF q.1 h)) (wj_Dr hD) (fun i j x y hx hy hxy => ?_)⟩
  · exact (wj_Pr hP k q hq).kept (hk _ (ap k q hq).1 (ap k q hq).2)
  · exact (ap j y hy).2 (hxy ▸ hD1.2 i x hx)
theorem wj_sP (h : va_P D cl (X ++ M) H) : va_P D cl (M ++ X) H := va_P.swap (a := []) h
theorem wj_sD (h : va_D A0 (X ++ M)) : va_D A0 (M ++ X) := va_D.swap (a := []) h
theorem wj_r (hP : va_P D cl (X ++ M) H) (hD : va_D A0 (X ++ M)) (hk : ∀ q : Nat, q < H.size → ¬ va_A M H.size q → H1[q]? = H[q]?) (hF : ∀ q, va_A M H.size q → A0 q) (hP1 : va_P D cl M' H1) (hD1 : va_D (va_A M H.size) M') : va_P D cl (X ++ M') H1 ∧ va_D A0 (X ++ M') :=
  have h := wj_l (wj_sP hP) (wj_sD hD) hk hF hP1 hD1
  ⟨wj_sP h.1, wj_sD h.2⟩
theorem wj_F {H0 : Heap} {locs : List Loc} (hD : va_D A0 X) (hS : va_S A0 H0 H locs) (hA : ∀ q, H0.size ≤ q → A0 q) : ∀ q, va_A X H.size q → A0 q := fun q h => h.elim (fun ⟨k, e, h⟩ => hD.2 _ (q, e) h) (fun h => hA q (Nat.le_trans hS.1 h))
theorem wj_Fr {H0 : Heap} {locs : List Loc} (hD : va_D A0 (X ++ M)) (hS : va_S A0 H0 H locs) (hA : ∀ q, H0.size ≤ q → A0 q) : ∀ q, va_A M H.size q → A0 q := wj_F (wj_Dr hD) hS hA
theorem wj_Fl {H0 : Heap} {locs : List Loc} (hD : va_D A0 (X ++ M)) (hS : va_S A0 H0 H locs) (hA : ∀ q, H0.size ≤ q → A0 q) : ∀ q, va_A X H.size q → A0 q := wj_F (wj_Dl hD) hS hA
theorem wj_set (F X : va_W) (k : Nat) (x : Nat × va_E) : (F ++ X).set (F.length + k) x = F ++ X.set k x := by
  rw [List.set_append_right _ _ (Nat.le_add_right _ _), Nat.add_sub_cancel_left]
/-- the cells of a world, one by one -/
theorem wj_mP : va_P D cl X H ↔ ∀ q ∈ X, va_at D cl q H := ⟨fun h q hq => by obtain ⟨i, hi⟩ := List.getElem?_of_mem hq; exact h i q hi, fun h k q hk => h q (List.mem_of_getElem? hk)⟩
theorem wj_mD : va_D A0 X ↔ (X.map Prod.fst).Nodup ∧ ∀ q ∈ X, A0 q.1 := by
  constructor
  · intro h
    refine ⟨?_, fun q hq => by obtain ⟨i, hi⟩ := List.getElem?_of_mem hq; exact h.2 i q hi⟩
    rw [List.Nodup, List.pairwise_iff_getElem]
    intro i j hi hj hij e
    rw [List.length_map] at hi hj
    rw [List.getElem_map, List.getElem_map] at e
    have := h.1 i j X[i] X[j] (List.getElem?_eq_getElem hi) (List.getElem?_eq_getElem hj) e
    omega
  · rintro ⟨h1, h2⟩
    refine ⟨fun i j p q hp hq e => ?_, fun k q hk => h2 q (List.mem_of_getElem? hk)⟩
    obtain ⟨hi, hp⟩ := List.getElem?_eq_some_iff.mp hp
    obtain ⟨hj, hq⟩ := List.getElem?_eq_some_iff.mp hq
    rw [List.Nodup, List.pairwise_iff_getElem] at h1
    have hne : ∀ a b : Nat, ∀ (ha : a < X.length) (hb : b < X.length), a < b → (X[a]).1 ≠ (X[b]).1 := by
      intro a b ha hb hab
      have := h1 a b (by rw [List.length_map]; exact ha) (by rw [List.length_map]; exact hb) hab
      rwa [List.getElem_map, List.getElem_map] at this
    rcases Nat.lt_trichotomy i j with h | h | h
    · exact absurd (by rw [hp, hq]; exact e) (hne i j hi hj h)
    · exact h
    · exact absurd (by rw [hp, hq]; exact e.symm) (hne j i hj hi h)
/-- a row's cell by its places alone -/
theorem cell_ext {cA : ClassId} {L : Nat} {g g' : Nat → Int32} (h : ∀ j, j < L → g j = g' j) : vp_cell cA (L, .inl g) = vp_cell cA (L, .inl g') := by
  rw [vp_cell_i, vp_cell_i]
  unfold arrV
  congr 1
  congr 1
  funext j
  exact congrArg Value.int (h j.val j.isLt)
theorem cell_extq {cA : ClassId} {L : Nat} {g g' : Nat → Option Nat} (h : ∀ j, j < L → g j = g' j) : vp_cell cA (L, .inr (.inr (.inr (.inr g)))) = vp_cell cA (L, .inr (.inr (.inr (.inr g')))) := by
  rw [vp_cell_q, vp_cell_q]
  unfold arrV
  congr 1
  congr 1
  funext j
  exact congrArg va_rf (h j.val j.isLt)
end WJ
/-! arrays of int arrays -/
def gO (U : State) : Prop := (Cond.arrayOver (.array .int)).before #[] U = true
theorem gO.of {B : Array Value} {U : State} (h : (Cond.arrayOver (.array .int)).before B U = true) : gO U := h
theorem gO.use {B : Array Value} {U : State} (h : gO U) : (Cond.arrayOver (.array .int)).before B U = true := h
theorem gO.moved {u U : State} (hvm : u.vm.Alike U.vm) (h : gO u) : gO U := by
  obtain ⟨comp, c, k, h1, h2, h3, h4, h5⟩ := arrayOverA_spec h
  obtain ⟨k', hk', he⟩ := hvm.2.2 _ _ h3
  have hi : (U.vm.classes.findIdx? fun (x : Class) => match x.kind with | .array component _ => component == comp | _ => false) = some c := by
    have e0 : U.vm.bare = u.vm.bare := by first | exact hvm.bare_eq | exact hvm.bare_eq.symm
    refine (va_idx_bare U.vm comp).symm.trans ?_
    rw [e0]
    exact (va_idx_bare u.vm comp).trans h2
  have hkind : k'.kind = .array comp (.array .int) := by rw [he]; exact h4
  have f1 : U.vm.findClass (FieldType.array .int).toString = some comp := by rw [hvm.findClass]; exact h1
  have f2 : U.vm.findClass ("[" ++ (FieldType.array .int).toString) = some c := by rw [hvm.findClass]; exact h5
  unfold gO Cond.before Cond.holds
  simp only [Cond.value]
  rw [f1, Option.bind_some]
  refine (congrArg (fun o : Option Nat => (o.bind (fun c => (U.vm.classes[c]?).map fun (k : Class) => match k.kind with | .array _ ty => decide (ty = FieldType.array .int) && decide (U.vm.findClass ("[" ++ (FieldType.array .int).toString) = some c) | _ => false) == some true)) hi).trans ?_
  simp [hk', hkind, f2]
def kG (cG : ClassId) (U : State) : Prop := ArrOfT U cG (.array .int) ∧ U.vm.findClass ("[" ++ (FieldType.array .int).toString) = some cG ∧ ∃ (kA : Class) (comp : ClassId), U.vm.classes[cG]? = some kA ∧ kA.kind = .array comp (.array .int) ∧ U.vm.findClass (FieldType.array .int).toString = some comp
theorem kG.moved {cG : ClassId} {u U : State} (hvm : u.vm.Alike U.vm) (h : kG cG u) : kG cG U := by
  obtain ⟨h1, h2, kA, comp, h3, h4, h5⟩ := h
  obtain ⟨k', hk', he⟩ := hvm.2.2 _ _ h3
  exact ⟨arrOfT_moved hvm h1, by rw [hvm.findClass]; exact h2, k', comp, hk', by rw [he]; exact h4, by rw [hvm.findClass]; exact h5⟩
section QR
variable {p : Program} {l : Launch} {e : Env} {R : Room} {s : State} {m : MethodId} {args : Array Value} {below : List Frame} {meth : Method} {c : Code} {H : Heap} {locs : List Loc} {cells slots : Nat} {Q : State → Prop} {cc : ByteArray} {nL pc : Nat} {ls : Array Slot} {rest : List Value} {D : va_G} {z : ClassId × ClassId} {cG : ClassId} {A : Nat → Prop} {H0 : Heap} {ws : va_W} {own : String}
theorem va_assignA (vm : Vm) (c : ClassId) : vm.assignable c c = true := by
  show vm.assignableAux _ c c = true
  unfold Vm.assignableAux
  simp
/-- a new int[][] -/
theorem qn_g {index : Nat} (hC : CallFix p m c cc nL s args lw_all own) (hlink : Cond.classLink own index "[I" ∈ lw_all) (hO : gO s) (hP : va_P D vwCl ws H) (hD : va_D A ws) (hS : va_S A H0 H locs) (hA : ∀ q, H0.size ≤ q → A q) {n : Int32} {N : Nat} (hn : n = nI N) (hN : N ≤ 1000) (hcells : cells + 1 ≤ R.cells) (hslots : slots + N ≤ R.slots) (hdg : decode cc pc = .ok (.anewarray index, 3))
    (kk : ∀ (q : Nat) (cG : ClassId) (H1 : Heap), kG cG s → va_P D vwCl ((q, .inl (cG, N, .inr (.inr (.inr (.inr (fun _ => none)))))) :: ws) H1 → va_D A ((q, .inl (cG, N, .inr (.inr (.inr (.inr (fun _ => none)))))) :: ws) → va_S A H0 H1 locs → W p l e R s m args below meth c H1 locs (cells + 1) (slots + N) Q (F0 m (pc + 3) ls (.ref q :: rest))) :
    W p l e R s m args below meth c H locs cells slots Q (F0 m pc ls (.int n :: rest)) := by
  have hcl : n.toNatClampNeg = N := by rw [hn]; exact nI_clamp (by omega)
  refine W.anewA hC.1 hC.2.1 hC.2.2.2.1 (t := .int) (hC.2.2.2.2 _ hlink) hO.use rfl hdg rfl (by rw [hn]; exact nI_pos (by omega)) (by rw [hcl]; omega) hcells (by rw [hcl]; exact hslots) fun cA kA comp f1 f2 f3 f4 => ?_
  rw [hcl]
  generalize hH1 : H.push ({ cls := cA, slots := Array.replicate N .null, vm := .none } : Cell) = H1
  have z1 : H1.size = H.size + 1 := by rw [← hH1, Array.size_push]
  have e1 : H1[H.size]? = some (arrV cA N (fun _ => .null)) := by rw [← hH1, Array.getElem?_push_size, ← arrV_new]
  have o1 : ∀ q : Nat, q < H.size → H1[q]? = H[q]? := fun q hq => by rw [← hH1, Array.getElem?_push, if_neg (Nat.ne_of_lt hq)]
  have hAr : ArrOfT s cA (.array .int) := fun N z => ⟨(fun k h => by cases h), kA, f2, comp, f3⟩
  have hk : ∀ (k : Nat) (x : Nat × va_E), ws[k]? = some x → H1[x.1]? = H[x.1]? := fun k x hx => o1 x.1 ((hP k x hx).lt)
  refine kk H.size cA H1 ⟨hAr, f1, kA, comp, f2, f3, f4⟩ (wj_sP (M := [(H.size, .inl (cA, N, .inr (.inr (.inr (.inr (fun _ => none))))))]) ((hP.kept hk).app (fun k x hx => ?_))) (wj_sD (M := [(H.size, .inl (cA, N, .inr (.inr (.inr (.inr (fun _ => none))))))]) (hD.push hP rfl (hA _ hS.1))) ⟨Nat.le_trans hS.1 (by omega), fun x h1 h2 => (o1 x (Nat.lt_of_lt_of_le h1 hS.1)).trans (hS.2.1 x h1 h2), hS.2.2⟩
  have hz : k < 1 := (List.getElem?_eq_some_iff.mp hx).1
  rw [show k = 0 by omega] at hx
  cases hx
  show H1[H.size]? = some (vp_cell _ _)
  rw [vp_cell_q]
  exact e1
theorem qa_len {a n q0 : Nat} {f : Nat → Option Nat} (hC : CallFix p m c cc nL s args lw_all own) (hK : kK D z s) (hG : kG cG s) (hP : va_P D vwCl ws H) (ha : ws[q0]? = some (a, .inl (cG, n, .inr (.inr (.inr (.inr f)))))) (hdg : decode cc pc = .ok (.arraylength, 1))
    (kk : W p l e R s m args below meth c H locs cells slots Q (F0 m (pc + 1) ls (.int (nI n) :: rest))) : W p l e R s m args below meth c H locs cells slots Q (F0 m pc ls (.ref a :: rest)) := by
  have hK' : va_K D vwCl [(cG, .array .int)] s := ⟨hK.1, fun k x hx => by
    have hz : k < 1 := (List.getElem?_eq_some_iff.mp hx).1
    rw [show k = 0 by omega] at hx
    cases hx
    exact ⟨hG.1, hG.2.1⟩⟩
  exact va_alen hC.1 hC.2.1 hK' hP q0 0 ha rfl rfl hdg kk
theorem qa_ld {a n q0 : Nat} {f : Nat → Option Nat} {i : Int32} (j : Nat) {r : Nat} (hC : CallFix p m c cc nL s args lw_all own) (hG : kG cG s) (hP : va_P D vwCl ws H) (ha : ws[q0]? = some (a, .inl (cG, n, .inr (.inr (.inr (.inr f)))))) (hi : i = nI j) (hj : j < n) (hn : n < 2 ^ 31) (hr : f j = some r) (hdg : decode cc pc = .ok (.aaload, 1))
    (kk : W p l e R s m args below meth c H locs cells slots Q (F0 m (pc + 1) ls (.ref r :: rest))) : W p l e R s m args below meth c H locs cells slots Q (F0 m pc ls (.int i :: .ref a :: rest)) := by
  have hcl : i.toNatClampNeg = j := by rw [hi]; exact nI_clamp (by omega)
  have hin : vp_in i n := by rw [hi]; exact vp_in_nI hj hn
  have hlt : i.toNatClampNeg < n := by rw [hcl]; exact hj
  refine W.aald (v := va_rf (f i.toNatClampNeg)) (ty := .array .int) hC.1 hC.2.1 (hP q0 _ ha) (hG.1 n (fun j => va_rf (f j))) rfl (fun q => by cases q) (by show ¬ (i < 0 ∨ (arrV _ _ _).slots.size ≤ _); rw [arrV_size]; exact hin) (by show (arrV _ _ _).slots[_]? = _; rw [arrV_read _ _ hlt]) rfl rfl hdg ?_
  rw [hcl, hr]
  exact kk
theorem qa_st {a n q0 qk v L : Nat} {f : Nat → Option Nat} {g : Nat → Int32} {i : Int32} (j : Nat) (hC : CallFix p m c cc nL s args lw_all own) (hK : kK D z s) (hG : kG cG s) (hP : va_P D vwCl ws H) (hD : va_D A ws) (hS : va_S A H0 H locs) (ha : ws[q0]? = some (a, .inl (cG, n, .inr (.inr (.inr (.inr f)))))) (hv : ws[qk]? = some (v, .inl (z.1, L, .inl g))) (hi : i = nI j) (hj : j < n) (hn : n < 2 ^ 31) (hdg : decode cc pc = .ok (.aastore, 1))
    (kk : ∀ (H1 : Heap) (locs1 : List Loc), va_P D vwCl (ws.set q0 (a, .inl (cG, n, .inr (.inr (.inr (.inr (va_up f j (some v)))))))) H1 → va_D A (ws.set q0 (a, .inl (cG, n, .inr (.inr (.inr (.inr (va_up f j (some v)))))))) → va_S A H0 H1 locs1 → W p l e R s m args below meth c H1 locs1 cells slots Q (F0 m (pc + 1) ls rest)) : W p l e R s m args below meth c H locs cells slots Q (F0 m pc ls (.ref v :: .int i :: .ref a :: rest)) := by
  have hcl : i.toNatClampNeg = j := by rw [hi]; exact nI_clamp (by omega)
  have hin : vp_in i n := by rw [hi]; exact vp_in_nI hj hn
  have h0 : ¬ i < 0 := fun q => hin (Or.inl q)
  obtain ⟨-, -, kA, comp, k1, k2, k3⟩ := hG
  have hz := hK.2 0 _ rfl
  have hcomp : comp = z.1 := Option.some.inj (k3.symm.trans (show s.vm.findClass _ = some z.1 from hz.2))
  subst hcomp
  obtain ⟨-, kz, hkz, -⟩ := hz.1 L (fun j => .int (g j))
  have hkz : s.vm.classes[z.1]? = some kz := hkz
  refine W.aast hC.1 hC.2.1 (hP q0 _ ha) (fun q h => by cases h) (fun h => by cases h) k1 k2 rfl hkz ⟨h0, by show _ < (arrV _ _ _).slots.size; rw [arrV_size, hcl]; exact hj⟩ (hP qk _ hv) (fun q h => by cases h) hkz (va_assignA _ _) rfl rfl hdg fun H1 e z oq => ?_
  refine kk H1 _ (hP.set hD ha ?_ oq) (hD.set ha) (hS.put z oq (hD.2 q0 _ ha))
  show H1[a]? = some (vp_cell _ _)
  rw [e]
  rw [vp_cell_q, vp_cell_q, arrV_store, hcl]
  congr 2
  funext q
  by_cases hq : q = j
  · subst hq
    simp [updV, va_up, va_rf]
  · simp [updV, va_up, hq]
/-- places of an int array -/
theorem qi_ld {a L q0 : Nat} {g : Nat → Int32} {i : Int32} (j : Nat) (hC : CallFix p m c cc nL s args lw_all own) (hK : kK D z s) (hP : va_P D vwCl ws H) (ha : ws[q0]? = some (a, .inl (z.1, L, .inl g))) (hi : i = nI j) (hj : j < L) (hL : L < 2 ^ 31) (hdg : decode cc pc = .ok (.iaload, 1))
    (kk : W p l e R s m args below meth c H locs cells slots Q (F0 m (pc + 1) ls (.int (g j) :: rest))) : W p l e R s m args below meth c H locs cells slots Q (F0 m pc ls (.int i :: .ref a :: rest)) := by
  subst hi
  refine va_iald (D := D) hC.1 hC.2.1 hK hP q0 0 (n := L) (f := g) ha rfl (vp_in_nI hj hL) hdg ?_
  rw [nI_clamp (by omega)]
  exact kk
theorem qi_st {a L q0 : Nat} {g : Nat → Int32} {i v : Int32} (j : Nat) (hC : CallFix p m c cc nL s args lw_all own) (hK : kK D z s) (hP : va_P D vwCl ws H) (hD : va_D A ws) (hS : va_S A H0 H locs) (ha : ws[q0]? = some (a, .inl (z.1, L, .inl g))) (hi : i = nI j) (hj : j < L) (hL : L < 2 ^ 31) (hdg : decode cc pc = .ok (.iastore, 1))
    (kk : ∀ (H1 : Heap) (locs1 : List Loc), va_P D vwCl (ws.set q0 (a, .inl (z.1, L, .inl (upd g j v)))) H1 → va_D A (ws.set q0 (a, .inl (z.1, L, .inl (upd g j v)))) → va_S A H0 H1 locs1 → W p l e R s m args below meth c H1 locs1 cells slots Q (F0 m (pc + 1) ls rest)) : W p l e R s m args below meth c H locs cells slots Q (F0 m pc ls (.int v :: .int i :: .ref a :: rest)) := by
  subst hi
  refine va_iast (D := D) hC.1 hC.2.1 hK hP hD hS q0 0 (n := L) (f := g) ha rfl (vp_in_nI hj hL) hdg ?_
  rw [nI_clamp (by omega)]
  exact kk
theorem qi_len {a L q0 : Nat} {g : Nat → Int32} (hC : CallFix p m c cc nL s args lw_all own) (hK : kK D z s) (hP : va_P D vwCl ws H) (ha : ws[q0]? = some (a, .inl (z.1, L, .inl g))) (hdg : decode cc pc = .ok (.arraylength, 1))
    (kk : W p l e R s m args below meth c H locs cells slots Q (F0 m (pc + 1) ls (.int (nI L) :: rest))) : W p l e R s m args below meth c H locs cells slots Q (F0 m pc ls (.ref a :: rest)) := va_alen hC.1 hC.2.1 hK hP q0 0 ha rfl rfl hdg kk
theorem qz_ld {a L q0 : Nat} {g : Nat → Int32} {i : Int32} (j : Nat) (hC : CallFix p m c cc nL s args lw_all own) (hK : kK D z s) (hP : va_P D vwCl ws H) (ha : ws[q0]? = some (a, .inl (z.2, L, .inl g))) (hi : i = nI j) (hj : j < L) (hL : L < 2 ^ 31) (hdg : decode cc pc = .ok (.baload, 1))
    (kk : W p l e R s m args below meth c H locs cells slots Q (F0 m (pc + 1) ls (.int (g j) :: rest))) : W p l e R s m args below meth c H locs cells slots Q (F0 m pc ls (.int i :: .ref a :: rest)) := by
  subst hi
  refine va_zald (D := D) hC.1 hC.2.1 hK hP q0 1 (n := L) (f := g) ha rfl (vp_in_nI hj hL) hdg ?_
  rw [nI_clamp (by omega)]
  exact kk
theorem qz_st {a L q0 : Nat} {g : Nat → Int32} {i v : Int32} (j : Nat) (hC : CallFix p m c cc nL s args lw_all own) (hK : kK D z s) (hP : va_P D vwCl ws H) (hD : va_D A ws) (hS : va_S A H0 H locs) (ha : ws[q0]? = some (a, .inl (z.2, L, .inl g))) (hi : i = nI j) (hj : j < L) (hL : L < 2 ^ 31) (hn : vp_nar .boolean v = v) (hdg : decode cc pc = .ok (.bastore, 1))
    (kk : ∀ (H1 : Heap) (locs1 : List Loc), va_P D vwCl (ws.set q0 (a, .inl (z.2, L, .inl (upd g j v)))) H1 → va_D A (ws.set q0 (a, .inl (z.2, L, .inl (upd g j v)))) → va_S A H0 H1 locs1 → W p l e R s m args below meth c H1 locs1 cells slots Q (F0 m (pc + 1) ls rest)) : W p l e R s m args below meth c H locs cells slots Q (F0 m pc ls (.int v :: .int i :: .ref a :: rest)) := by
  subst hi
  refine va_zast (D := D) hC.1 hC.2.1 hK hP hD hS q0 1 (n := L) (f := g) ha rfl (vp_in_nI hj hL) hdg ?_
  rw [nI_clamp (by omega), hn]
  exact kk
/-- a new int[] or boolean[], of the class that is known, at the head of the world -/
theorem qn_i (hC : CallFix p m c cc nL s args lw_all own) (hK : kK D z s) (hP : va_P D vwCl ws H) (hD : va_D A ws) (hS : va_S A H0 H locs) (hA : ∀ q, H0.size ≤ q → A q) {n : Int32} {N : Nat} (hn : n = nI N) (hN : N ≤ 1000) (hcells : cells + 1 ≤ R.cells) (hslots : slots + N ≤ R.slots) (hdg : decode cc pc = .ok (.newarray .int, 2))
    (kk : ∀ (q : Nat) (H1 : Heap), va_P D vwCl ((q, .inl (z.1, N, .inl (fun _ => 0))) :: ws) H1 → va_D A ((q, .inl (z.1, N, .inl (fun _ => 0))) :: ws) → va_S A H0 H1 locs → W p l e R s m args below meth c H1 locs (cells + 1) (slots + N) Q (F0 m (pc + 2) ls (.ref q :: rest))) : W p l e R s m args below meth c H locs cells slots Q (F0 m pc ls (.int n :: rest)) := by
  have hcl : n.toNatClampNeg = N := by rw [hn]; exact nI_clamp (by omega)
  refine va_newa (atype := .int) (ty := .int) (N' := N) (a0 := (N, .inl (fun _ => 0))) hC.1 hC.2.1 (hC.2.2.2.2 _ mA_int) rfl hK hP hD hS hA (fun _ => rfl) (by rw [hn]; exact nI_pos (by omega)) hcl (by show N * 4 ≤ _; omega) hcells hslots hdg (fun q cA H1 hK1 hP1 hD1 hS1 => ?_)
  have ez : cA = z.1 := Option.some.inj ((show s.vm.findClass _ = some cA from (hK1.2 2 _ rfl).2).symm.trans (show s.vm.findClass _ = some z.1 from (hK.2 0 _ rfl).2))
  subst ez
  exact kk q H1 (wj_sP (M := [(q, .inl (z.1, N, .inl (fun _ => 0)))]) hP1) (wj_sD (M := [(q, .inl (z.1, N, .inl (fun _ => 0)))]) hD1) hS1
theorem qn_z (hC : CallFix p m c cc nL s args lw_all own) (hK : kK D z s) (hP : va_P D vwCl ws H) (hD : va_D A ws) (hS : va_S A H0 H locs) (hA : ∀ q, H0.size ≤ q → A q) {n : Int32} {N : Nat} (hn : n = nI N) (hN : N ≤ 1000) (hcells : cells + 1 ≤ R.cells) (hslots : slots + N ≤ R.slots) (hdg : decode cc pc = .ok (.newarray .boolean, 2))
    (kk : ∀ (q : Nat) (H1 : Heap), va_P D vwCl ((q, .inl (z.2, N, .inl (fun _ => 0))) :: ws) H1 → va_D A ((q, .inl (z.2, N, .inl (fun _ => 0))) :: ws) → va_S A H0 H1 locs → W p l e R s m args below meth c H1 locs (cells + 1) (slots + N) Q (F0 m (pc + 2) ls (.ref q :: rest))) : W p l e R s m args below meth c H locs cells slots Q (F0 m pc ls (.int n :: rest)) := by
  have hcl : n.toNatClampNeg = N := by rw [hn]; exact nI_clamp (by omega)
  refine va_newa (atype := .boolean) (ty := .boolean) (N' := N) (a0 := (N, .inl (fun _ => 0))) hC.1 hC.2.1 (hC.2.2.2.2 _ mA_boolean) rfl hK hP hD hS hA (fun _ => rfl) (by rw [hn]; exact nI_pos (by omega)) hcl (by show N * 1 ≤ _; omega) hcells hslots hdg (fun q cA H1 hK1 hP1 hD1 hS1 => ?_)
  have ez : cA = z.2 := Option.some.inj ((show s.vm.findClass _ = some cA from (hK1.2 2 _ rfl).2).symm.trans (show s.vm.findClass _ = some z.2 from (hK.2 1 _ rfl).2))
  subst ez
  exact kk q H1 (wj_sP (M := [(q, .inl (z.2, N, .inl (fun _ => 0)))]) hP1) (wj_sD (M := [(q, .inl (z.2, N, .inl (fun _ => 0)))]) hD1) hS1
end QR

set_option maxHeartbeats 8000000 in
set_option maxRecDepth 100000 in
theorem lw_eqR {args : Array Value} {s : State} {t u : Term} {a b : Nat} (h : (Cond.eq t u).before args s = true) (ht : t.eval args s none [] s = some (.ref a)) (hu : u.eval args s none [] s = some (.ref b)) : a = b := by
  simpa [Cond.before, Cond.holds, Cond.value, ht, hu] using h
def tmS (i : Nat) : Term := ([.string RX0 207, .string RX0 216, .string RX0 218, .string RX0 220] : List Term).getD i (.int 0)
/-- a method that only its own class may call is the one that is called on an heir too -/
theorem sel_priv {C : String} {x y : MethodName} {s : State} {args : Array Value} (hy : y.cls ≠ "java/lang/invoke/MethodHandle" ∧ y.cls ≠ "java/lang/invoke/VarHandle") (hxy : x.cls = y.cls) (hsel : (Cond.selects C x x).before args s = true) (hpriv : (Cond.privateMethod y).before args s = true) (hinst : (Cond.instanceMethod y).before args s = true) : (Cond.selects C y y).before args s = true := by
  obtain ⟨c, r, m, hc, hr, hm, hs, k, hk, hni⟩ := Cond.selects_spec hsel
  obtain ⟨mk, methM, hnamed, hmethM, -, -⟩ := Cond.instanceMethod_spec hinst
  have hfound : s.methodFound? y.cls y.name y.desc = some mk := State.methodFound?_of_named hnamed hy
  have hcls : mk.cls = m.cls := by
    have h1 := findClass_of_methodNamed hnamed
    have h2 := findClass_of_methodNamed hm
    rw [hxy] at h2
    exact Option.some.inj (h1.symm.trans h2)
  have hsel2 : selectMethod {} s.vm c mk = .method mk := selectMethod_private hmethM (Cond.privateMethod_at hpriv mk methM hnamed hmethM)
  simp only [Cond.before, Cond.holds, Cond.value, hc, hfound, hnamed, hsel2, hcls, hk]
  simp; exact hni
set_option maxHeartbeats 8000000 in
set_option maxRecDepth 100000 in
theorem lw_xs_ok {args : Array Value} {s : State} (ht : ∀ w ∈ lw_tbl, w.before args s = true) : ∀ w ∈ lw_xs, w.before args s = true := by
  intro w hw
  have h0 : (Cond.selects RJ4 yJ5_isLatin1_aae02 yJ5_isLatin1_aae02).before args s = true := ht _ (by decide +kernel)
  simp only [lw_xs, List.mem_cons, List.not_mem_nil, or_false] at hw
  rcases hw with rfl | rfl | rfl | rfl
  · exact sel_priv (x := yJ5_isLatin1_aae02) (by decide +kernel) rfl h0 (ht (Cond.privateMethod yJ5_ensureCapacityInternal_d00df) (by decide +kernel)) (ht (Cond.instanceMethod yJ5_ensureCapacityInternal_d00df) (by decide +kernel))
  · exact sel_priv (x := yJ5_isLatin1_aae02) (by decide +kernel) rfl h0 (ht (Cond.privateMethod yJ5_newCapacity_0f7a4) (by decide +kernel)) (ht (Cond.instanceMethod yJ5_newCapacity_0f7a4) (by decide +kernel))
  · exact sel_priv (x := yJ5_isLatin1_aae02) (by decide +kernel) rfl h0 (ht (Cond.privateMethod yJ5_putStringAt_47b60) (by decide +kernel)) (ht (Cond.instanceMethod yJ5_putStringAt_47b60) (by decide +kernel))
  · exact sel_priv (x := yJ5_isLatin1_aae02) (by decide +kernel) rfl h0 (ht (Cond.privateMethod yJ5_inflateIfNeededFor_a7421) (by decide +kernel)) (ht (Cond.instanceMethod yJ5_inflateIfNeededFor_a7421) (by decide +kernel))
set_option maxHeartbeats 8000000 in
set_option maxRecDepth 100000 in
theorem lw_cH {args : Array Value} {s : State} (ht : ∀ w ∈ lw_tbl, w.before args s = true) (hg : (Jvm.Cond.and given_1 narrow_1).before args s = true) : ∃ q9 t9 : Nat → Nat, cH q9 t9 (nw s) s s.heap := by
  have hs := flat_of_before _ hg
  have hA : ∀ a : Nat, a < s.heap.size → ¬ nw s a := fun a h => Nat.not_le.mpr h
  have h1 : ∀ i : Nat, i < 4 → (Cond.exactly (tmS i) "java/lang/String").before args s = true := by
    intro i hi
    match i, hi with
    | 0, _ => exact hs _ (by decide +kernel)
    | 1, _ => exact hs _ (by decide +kernel)
    | 2, _ => exact hs _ (by decide +kernel)
    | 3, _ => exact hs _ (by decide +kernel)
    | k + 4, h => exact absurd h (by omega)
  have h2 : ∀ i : Nat, i < 4 → (Cond.eq (.field (tmS i) "java/lang/String" "coder" "B") (.int 0)).before args s = true := by
    intro i hi
    match i, hi with
    | 0, _ => exact hs _ (by decide +kernel)
    | 1, _ => exact hs _ (by decide +kernel)
    | 2, _ => exact hs _ (by decide +kernel)
    | 3, _ => exact hs _ (by decide +kernel)
    | k + 4, h => exact absurd h (by omega)
  have h3 : ∀ i : Nat, i < 4 → (Cond.arrayOf (.field (tmS i) "java/lang/String" "value" "[B") .byte).before args s = true := by
    intro i hi
    match i, hi with
    | 0, _ => exact hs _ (by decide +kernel)
    | 1, _ => exact hs _ (by decide +kernel)
    | 2, _ => exact hs _ (by decide +kernel)
    | 3, _ => exact hs _ (by decide +kernel)
    | k + 4, h => exact absurd h (by omega)
  have h4 : ∀ i : Nat, i < 4 → (Cond.eq (.length (.field (tmS i) "java/lang/String" "value" "[B")) (.int (Int32.ofNat (lenS.getD i 0)))).before args s = true := by
    intro i hi
    match i, hi with
    | 0, _ => exact hs _ (by decide +kernel)
    | 1, _ => exact hs _ (by decide +kernel)
    | 2, _ => exact hs _ (by decide +kernel)
    | 3, _ => exact hs _ (by decide +kernel)
    | k + 4, h => exact absurd h (by omega)
  have h5 : ∀ i : Nat, i < 4 → ∀ j : Nat, j < lenS.getD i 0 → (Cond.eq (.elem (.field (tmS i) "java/lang/String" "value" "[B") (.int (Int32.ofNat j))) (.int ((bytS.getD i []).getD j 0))).before args s = true := by
    intro i hi j hj
    match i, hi with
    | 0, _ =>
      match j, hj with
      | 0, _ => exact hs _ (by decide +kernel)
      | 1, _ => exact hs _ (by decide +kernel)
      | 2, _ => exact hs _ (by decide +kernel)
      | 3, _ => exact hs _ (by decide +kernel)
      | 4, _ => exact hs _ (by decide +kernel)
      | 5, _ => exact hs _ (by decide +kernel)
      | 6, _ => exact hs _ (by decide +kernel)
      | k + 7, h => exact absurd (show k + 7 < 7 from h) (by omega)
    | 1, _ =>
      match j, hj with
      | 0, _ => exact hs _ (by decide +kernel)
      | 1, _ => exact hs _ (by decide +kernel)
      | k + 2, h => exact absurd (show k + 2 < 2 from h) (by omega)
    | 2, _ =>
      match j, hj with
      | 0, _ => exact hs _ (by decide +kernel)
      | 1, _ => exact hs _ (by decide +kernel)
      | 2, _ => exact hs _ (by decide +kernel)
      | 3, _ => exact hs _ (by decide +kernel)
      | 4, _ => exact hs _ (by decide +kernel)
      | 5, _ => exact hs _ (by decide +kernel)
      | 6, _ => exact hs _ (by decide +kernel)
      | 7, _ => exact hs _ (by decide +kernel)
      | 8, _ => exact hs _ (by decide +kernel)
      | 9, _ => exact hs _ (by decide +kernel)
      | 10, _ => exact hs _ (by decide +kernel)
      | 11, _ => exact hs _ (by decide +kernel)
      | 12, _ => exact hs _ (by decide +kernel)
      | k + 13, h => exact absurd (show k + 13 < 13 from h) (by omega)
    | 3, _ =>
      match j, hj with
      | 0, _ => exact hs _ (by decide +kernel)
      | 1, _ => exact hs _ (by decide +kernel)
      | 2, _ => exact hs _ (by decide +kernel)
      | 3, _ => exact hs _ (by decide +kernel)
      | 4, _ => exact hs _ (by decide +kernel)
      | 5, _ => exact hs _ (by decide +kernel)
      | 6, _ => exact hs _ (by decide +kernel)
      | k + 7, h => exact absurd (show k + 7 < 7 from h) (by omega)
    | k + 4, h => exact absurd h (by omega)
  have h6 : ∀ i j : Nat, i < 4 → j < 4 → i ≠ j → (Cond.not (Cond.eq (tmS i) (tmS j))).before args s = true ∨ (Cond.not (Cond.eq (tmS j) (tmS i))).before args s = true := by
    intro i j hi hj hij
    match i, j, hi, hj with
    | 0, 0, _, _ => exact absurd rfl hij
    | 0, 1, _, _ => exact Or.inl (hs _ (by decide +kernel))
    | 0, 2, _, _ => exact Or.inl (hs _ (by decide +kernel))
    | 0, 3, _, _ => exact Or.inl (hs _ (by decide +kernel))
    | 1, 0, _, _ => exact Or.inr (hs _ (by decide +kernel))
    | 1, 1, _, _ => exact absurd rfl hij
    | 1, 2, _, _ => exact Or.inl (hs _ (by decide +kernel))
    | 1, 3, _, _ => exact Or.inl (hs _ (by decide +kernel))
    | 2, 0, _, _ => exact Or.inr (hs _ (by decide +kernel))
    | 2, 1, _, _ => exact Or.inr (hs _ (by decide +kernel))
    | 2, 2, _, _ => exact absurd rfl hij
    | 2, 3, _, _ => exact Or.inl (hs _ (by decide +kernel))
    | 3, 0, _, _ => exact Or.inr (hs _ (by decide +kernel))
    | 3, 1, _, _ => exact Or.inr (hs _ (by decide +kernel))
    | 3, 2, _, _ => exact Or.inr (hs _ (by decide +kernel))
    | 3, 3, _, _ => exact absurd rfl hij
    | k + 4, _, h, _ => exact absurd h (by omega)
    | 0, k + 4, _, h => exact absurd h (by omega)
    | 1, k + 4, _, h => exact absurd h (by omega)
    | 2, k + 4, _, h => exact absurd h (by omega)
    | 3, k + 4, _, h => exact absurd h (by omega)
  obtain ⟨q9, t9, hv, he⟩ := vk_Sof (N := 4) (tm := tmS) (len := lenS) (byt := bytS) (A := nw s) (fun i hi => by match i, hi with | 0, _ => decide | 1, _ => decide | 2, _ => decide | 3, _ => decide | k + 4, h => exact absurd h (by omega)) h1 h2 h3 h4 h5 h6 hA
  have zj : jH (nw s) s s.heap := ⟨va_Zof (ht _ (by decide +kernel)) (ht _ (by decide +kernel)) (va_eqi (hs _ (by decide +kernel))) hA, va_Zqof (ht _ (by decide +kernel)) (ht _ (by decide +kernel)) (hs _ (by decide +kernel)) hA⟩
  have g69 : (Term.string RX1 69).eval args s none [] s = some (.ref (q9 0)) := by
    obtain ⟨a, c, cA, kA, q1, -⟩ := Cond.exactly_spec (args := args) (first := s) (o := none) (s := s) (idx := []) (t := .string RX1 69) (cls := "java/lang/String") (hs _ (by decide +kernel))
    rw [lw_eqR (hs (Cond.eq (.string RX0 207) (.string RX1 69)) (by decide +kernel)) (he 0 (by omega)) q1]
    exact q1
  have g78 : (Term.string RX1 78).eval args s none [] s = some (.ref (q9 1)) := by
    obtain ⟨a, c, cA, kA, q1, -⟩ := Cond.exactly_spec (args := args) (first := s) (o := none) (s := s) (idx := []) (t := .string RX1 78) (cls := "java/lang/String") (hs _ (by decide +kernel))
    rw [lw_eqR (hs (Cond.eq (.string RX0 216) (.string RX1 78)) (by decide +kernel)) (he 1 (by omega)) q1]
    exact q1
  have g80 : (Term.string RX1 80).eval args s none [] s = some (.ref (q9 2)) := by
    obtain ⟨a, c, cA, kA, q1, -⟩ := Cond.exactly_spec (args := args) (first := s) (o := none) (s := s) (idx := []) (t := .string RX1 80) (cls := "java/lang/String") (hs _ (by decide +kernel))
    rw [lw_eqR (hs (Cond.eq (.string RX0 218) (.string RX1 80)) (by decide +kernel)) (he 2 (by omega)) q1]
    exact q1
  have g82 : (Term.string RX1 82).eval args s none [] s = some (.ref (q9 3)) := by
    obtain ⟨a, c, cA, kA, q1, -⟩ := Cond.exactly_spec (args := args) (first := s) (o := none) (s := s) (idx := []) (t := .string RX1 82) (cls := "java/lang/String") (hs _ (by decide +kernel))
    rw [lw_eqR (hs (Cond.eq (.string RX0 220) (.string RX1 82)) (by decide +kernel)) (he 3 (by omega)) q1]
    exact q1
  exact ⟨q9, t9, fun i hi => hv.1 i hi, zj, vk_R.of (ht _ (by decide +kernel)) (he 0 (by omega)), vk_R.of (ht _ (by decide +kernel)) (he 1 (by omega)), vk_R.of (ht _ (by decide +kernel)) (he 2 (by omega)), vk_R.of (ht _ (by decide +kernel)) (he 3 (by omega)), vk_R.of (ht _ (by decide +kernel)) g69, vk_R.of (ht _ (by decide +kernel)) g78, vk_R.of (ht _ (by decide +kernel)) g80, vk_R.of (ht _ (by decide +kernel)) g82⟩
set_option maxHeartbeats 8000000 in
set_option maxRecDepth 100000 in
theorem fl_ones : ((flatC (Jvm.Cond.and given_1 narrow_1)).drop 14).take 100 = (List.range 100).map (fun j => Cond.eq (.elem (.static "java/lang/Integer" "DigitOnes" "[B") (.int (Int32.ofNat j))) (.int (nI (48 + j % 10)))) := by decide +kernel
set_option maxHeartbeats 8000000 in
set_option maxRecDepth 100000 in
theorem lw_ones {args : Array Value} {s : State} (ht : ∀ w ∈ lw_tbl, w.before args s = true) (hg : (Jvm.Cond.and given_1 narrow_1).before args s = true) : ∃ t : Nat, va_Z "java/lang/Integer" "DigitOnes" "[B" (.ref t) (nw s) s s.heap ∧ va_T .byte t 100 (fun j => .int (nI (48 + j % 10))) (nw s) s s.heap := by
  have hs := flat_of_before _ hg
  have hA : ∀ a : Nat, a < s.heap.size → ¬ nw s a := fun a h => Nat.not_le.mpr h
  have h5 : ∀ j : Nat, j < 100 → (Cond.eq (.elem (.static "java/lang/Integer" "DigitOnes" "[B") (.int (Int32.ofNat j))) (.int (nI (48 + j % 10)))).before args s = true := fun j hj => hs _ (List.mem_of_mem_drop (List.mem_of_mem_take (by rw [fl_ones]; exact List.mem_map.mpr ⟨j, List.mem_range.mpr hj, rfl⟩)))
  obtain ⟨t, h1, h2⟩ := va_Tof (tm := (.static "java/lang/Integer" "DigitOnes" "[B")) (ty := .byte) (N := 100) (f := fun j => .int (nI (48 + j % 10))) (A := nw s) (by decide) (hs _ (by decide +kernel)) (va_eqt (hs (Cond.eq (.length (.static "java/lang/Integer" "DigitOnes" "[B")) (.int 100)) (by decide +kernel))) (fun j hj => va_eqt (h5 j hj)) hA
  exact ⟨t, va_Zof (ht _ (by decide +kernel)) (ht _ (by decide +kernel)) h1 hA, h2⟩
set_option maxHeartbeats 8000000 in
set_option maxRecDepth 100000 in
theorem fl_tens : ((flatC (Jvm.Cond.and given_1 narrow_1)).drop 117).take 100 = (List.range 100).map (fun j => Cond.eq (.elem (.static "java/lang/Integer" "DigitTens" "[B") (.int (Int32.ofNat j))) (.int (nI (48 + j / 10)))) := by decide +kernel
set_option maxHeartbeats 8000000 in
set_option maxRecDepth 100000 in
theorem lw_tens {args : Array Value} {s : State} (ht : ∀ w ∈ lw_tbl, w.before args s = true) (hg : (Jvm.Cond.and given_1 narrow_1).before args s = true) : ∃ t : Nat, va_Z "java/lang/Integer" "DigitTens" "[B" (.ref t) (nw s) s s.heap ∧ va_T .byte t 100 (fun j => .int (nI (48 + j / 10))) (nw s) s s.heap := by
  have hs := flat_of_before _ hg
  have hA : ∀ a : Nat, a < s.heap.size → ¬ nw s a := fun a h => Nat.not_le.mpr h
  have h5 : ∀ j : Nat, j < 100 → (Cond.eq (.elem (.static "java/lang/Integer" "DigitTens" "[B") (.int (Int32.ofNat j))) (.int (nI (48 + j / 10)))).before args s = true := fun j hj => hs _ (List.mem_of_mem_drop (List.mem_of_mem_take (by rw [fl_tens]; exact List.mem_map.mpr ⟨j, List.mem_range.mpr hj, rfl⟩)))
  obtain ⟨t, h1, h2⟩ := va_Tof (tm := (.static "java/lang/Integer" "DigitTens" "[B")) (ty := .byte) (N := 100) (f := fun j => .int (nI (48 + j / 10))) (A := nw s) (by decide) (hs _ (by decide +kernel)) (va_eqt (hs (Cond.eq (.length (.static "java/lang/Integer" "DigitTens" "[B")) (.int 100)) (by decide +kernel))) (fun j hj => va_eqt (h5 j hj)) hA
  exact ⟨t, va_Zof (ht _ (by decide +kernel)) (ht _ (by decide +kernel)) h1 hA, h2⟩
theorem lw_dg {args : Array Value} {s : State} (ht : ∀ w ∈ lw_tbl, w.before args s = true) (hg : (Jvm.Cond.and given_1 narrow_1).before args s = true) : ∃ t8 : Nat × Nat, dH t8 (nw s) s s.heap := by
  obtain ⟨t, h1, h2⟩ := lw_ones ht hg
  obtain ⟨u, h3, h4⟩ := lw_tens ht hg
  exact ⟨(t, u), h1, h2, h3, h4⟩

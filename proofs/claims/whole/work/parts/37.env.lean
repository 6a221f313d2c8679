set_option maxHeartbeats 8000000 in
set_option maxRecDepth 100000 in
theorem lw_eqR {args : Array Value} {s : State} {t u : Term} {a b : Nat} (h : (Cond.eq t u).before args s = true) (ht : t.eval args s none [] s = some (.ref a)) (hu : u.eval args s none [] s = some (.ref b)) : a = b := by
  simpa [Cond.before, Cond.holds, Cond.value, ht, hu] using h
theorem lw_str {args : Array Value} {s : State} {i : Nat} {tx : String} (h : (Cond.stringRef RX0 i tx).before args s = true) (h2 : (Cond.exactly (.string RX0 i) "java/lang/String").before args s = true) : tS i tx s := by
  obtain ⟨a, c, cA, kA, q1, -⟩ := Cond.exactly_spec (args := args) (first := s) (o := none) (s := s) (idx := []) (t := .string RX0 i) (cls := "java/lang/String") h2
  exact ⟨a, vk_R.of h q1⟩
def tmS (i : Nat) : Term := ([.string RX0 207, .string RX0 216, .string RX0 218, .string RX0 220] : List Term).getD i (.int 0)
set_option maxHeartbeats 8000000 in
set_option maxRecDepth 100000 in
theorem lw_tH {args : Array Value} {s : State} (ht : ∀ w ∈ lw_tbl, w.before args s = true) (hg : (Jvm.Cond.and given_1 narrow_1).before args s = true) : tH (nw s) s s.heap := by
  have hs := flat_of_before _ hg
  have hA : ∀ a : Nat, a < s.heap.size → ¬ nw s a := fun a h => Nat.not_le.mpr h
  have z1 := vx_Zqof (C := Bundle.tN) (n := "UNASSIGNED_STACK") (d := Bundle.steD) (A := nw s) (ht _ (by decide +kernel)) (ht _ (by decide +kernel)) (hs _ (by decide +kernel)) hA
  have z2 := vx_Zqof (C := Bundle.tN) (n := "SUPPRESSED_SENTINEL") (d := Bundle.listD) (A := nw s) (ht _ (by decide +kernel)) (ht _ (by decide +kernel)) (hs _ (by decide +kernel)) hA
  have m0 : tM s := by
    intro q hq
    simp only [List.mem_cons, List.not_mem_nil, or_false] at hq
    rcases hq with rfl | rfl | rfl | rfl | rfl | rfl | rfl | rfl | rfl | rfl | rfl | rfl | rfl | rfl
    · exact lw_str (i := 195) (tx := "inches are not 1 to 60") (ht _ (by decide +kernel)) (hs _ (by decide +kernel))
    · exact lw_str (i := 186) (tx := "there is no such person") (ht _ (by decide +kernel)) (hs _ (by decide +kernel))
    · exact lw_str (i := 193) (tx := "there is no such miss") (ht _ (by decide +kernel)) (hs _ (by decide +kernel))
    · exact lw_str (i := 43) (tx := "luck is not 0 to 99") (ht _ (by decide +kernel)) (hs _ (by decide +kernel))
    · exact lw_str (i := 54) (tx := "there are 10 persons") (ht _ (by decide +kernel)) (hs _ (by decide +kernel))
    · exact lw_str (i := 57) (tx := "nerve is not 0 to 9") (ht _ (by decide +kernel)) (hs _ (by decide +kernel))
    · exact lw_str (i := 62) (tx := "there are 6 witnesses") (ht _ (by decide +kernel)) (hs _ (by decide +kernel))
    · exact lw_str (i := 68) (tx := "a person is no heir of itself") (ht _ (by decide +kernel)) (hs _ (by decide +kernel))
    · exact lw_str (i := 189) (tx := "the person is gone") (ht _ (by decide +kernel)) (hs _ (by decide +kernel))
    · exact lw_str (i := 73) (tx := "the person has 9 fates") (ht _ (by decide +kernel)) (hs _ (by decide +kernel))
    · exact lw_str (i := 79) (tx := "the person has too few coins") (ht _ (by decide +kernel)) (hs _ (by decide +kernel))
    · exact lw_str (i := 191) (tx := "there is no such witness") (ht _ (by decide +kernel)) (hs _ (by decide +kernel))
    · exact lw_str (i := 93) (tx := "there are 60 misses") (ht _ (by decide +kernel)) (hs _ (by decide +kernel))
    · exact lw_str (i := 124) (tx := "nights are not 1 to 30") (ht _ (by decide +kernel)) (hs _ (by decide +kernel))
  refine ⟨z1, z2, ⟨⟨va_Nw.of rfl (ht (.castable "java/lang/IllegalArgumentException" "java/lang/IllegalArgumentException") (by decide +kernel)), va_Nw.of rfl (ht (.castable "java/lang/IllegalStateException" "java/lang/IllegalStateException") (by decide +kernel)), va_Nw.of rfl (ht (.castable "java/lang/IndexOutOfBoundsException" "java/lang/IndexOutOfBoundsException") (by decide +kernel))⟩, va_Nw.of rfl (ht (.declares ⟨"java/lang/RuntimeException", "<init>", "(Ljava/lang/String;)V"⟩) (by decide +kernel)), va_Nw.of rfl (ht (.declares ⟨"java/lang/Exception", "<init>", "(Ljava/lang/String;)V"⟩) (by decide +kernel)), va_Nw.of rfl (ht (.declares ⟨"java/lang/Throwable", "<init>", "(Ljava/lang/String;)V"⟩) (by decide +kernel))⟩, m0⟩
set_option maxHeartbeats 8000000 in
set_option maxRecDepth 100000 in
theorem lw_tN {args : Array Value} {s : State} (hg : (Jvm.Cond.and given_1 narrow_1).before args s = true) : tN s := by
  have hs := flat_of_before _ hg
  exact ⟨⟨va_Nc.of (hs (.not (.castable "java/lang/IllegalArgumentException" "java/lang/IndexOutOfBoundsException")) (by decide +kernel)), va_Nc.of (hs (.not (.castable "java/lang/IllegalStateException" "java/lang/IndexOutOfBoundsException")) (by decide +kernel))⟩, va_Nc.of (hs (.not (.castable "java/lang/IllegalStateException" "java/lang/IllegalArgumentException")) (by decide +kernel))⟩
set_option maxHeartbeats 8000000 in
set_option maxRecDepth 100000 in
theorem lw_cH {args : Array Value} {s : State} (ht : ∀ w ∈ lw_tbl, w.before args s = true) (hg : (Jvm.Cond.and given_1 narrow_1).before args s = true) : ∃ q9 t9 : Nat → Nat, cH q9 t9 (nw s) s s.heap := by
  have hs := flat_of_before _ hg
  have hA : ∀ a : Nat, a < s.heap.size → ¬ nw s a := fun a h => Nat.not_le.mpr h
  have h1 : ∀ i : Nat, i < 4 → (Cond.exactly (tmS i) "java/lang/String").before args s = true := by
    intro i hi
    match i, hi with
    | 0, _ => exact hs _ (by decide +kernel)
    | 1, _ => exact hs _ (by decide +kernel)
    | 2, _ => exact hs _ (by decide +kernel)
    | 3, _ => exact hs _ (by decide +kernel)
    | k + 4, h => exact absurd h (by omega)
  have h2 : ∀ i : Nat, i < 4 → (Cond.eq (.field (tmS i) "java/lang/String" "coder" "B") (.int 0)).before args s = true := by
    intro i hi
    match i, hi with
    | 0, _ => exact hs _ (by decide +kernel)
    | 1, _ => exact hs _ (by decide +kernel)
    | 2, _ => exact hs _ (by decide +kernel)
    | 3, _ => exact hs _ (by decide +kernel)
    | k + 4, h => exact absurd h (by omega)
  have h3 : ∀ i : Nat, i < 4 → (Cond.arrayOf (.field (tmS i) "java/lang/String" "value" "[B") .byte).before args s = true := by
    intro i hi
    match i, hi with
    | 0, _ => exact hs _ (by decide +kernel)
    | 1, _ => exact hs _ (by decide +kernel)
    | 2, _ => exact hs _ (by decide +kernel)
    | 3, _ => exact hs _ (by decide +kernel)
    | k + 4, h => exact absurd h (by omega)
  have h4 : ∀ i : Nat, i < 4 → (Cond.eq (.length (.field (tmS i) "java/lang/String" "value" "[B")) (.int (Int32.ofNat (lenS.getD i 0)))).before args s = true := by
    intro i hi
    match i, hi with
    | 0, _ => exact hs _ (by decide +kernel)
    | 1, _ => exact hs _ (by decide +kernel)
    | 2, _ => exact hs _ (by decide +kernel)
    | 3, _ => exact hs _ (by decide +kernel)
    | k + 4, h => exact absurd h (by omega)
  have h5 : ∀ i : Nat, i < 4 → ∀ j : Nat, j < lenS.getD i 0 → (Cond.eq (.elem (.field (tmS i) "java/lang/String" "value" "[B") (.int (Int32.ofNat j))) (.int ((bytS.getD i []).getD j 0))).before args s = true := by
    intro i hi j hj
    match i, hi with
    | 0, _ =>
      match j, hj with
      | 0, _ => exact hs _ (by decide +kernel)
      | 1, _ => exact hs _ (by decide +kernel)
      | 2, _ => exact hs _ (by decide +kernel)
      | 3, _ => exact hs _ (by decide +kernel)
      | 4, _ => exact hs _ (by decide +kernel)
      | 5, _ => exact hs _ (by decide +kernel)
      | 6, _ => exact hs _ (by decide +kernel)
      | k + 7, h => exact absurd (show k + 7 < 7 from h) (by omega)
    | 1, _ =>
      match j, hj with
      | 0, _ => exact hs _ (by decide +kernel)
      | 1, _ => exact hs _ (by decide +kernel)
      | k + 2, h => exact absurd (show k + 2 < 2 from h) (by omega)
    | 2, _ =>
      match j, hj with
      | 0, _ => exact hs _ (by decide +kernel)
      | 1, _ => exact hs _ (by decide +kernel)
      | 2, _ => exact hs _ (by decide +kernel)
      | 3, _ => exact hs _ (by decide +kernel)
      | 4, _ => exact hs _ (by decide +kernel)
      | 5, _ => exact hs _ (by decide +kernel)
      | 6, _ => exact hs _ (by decide +kernel)
      | 7, _ => exact hs _ (by decide +kernel)
      | 8, _ => exact hs _ (by decide +kernel)
      | 9, _ => exact hs _ (by decide +kernel)
      | 10, _ => exact hs _ (by decide +kernel)
      | 11, _ => exact hs _ (by decide +kernel)
      | 12, _ => exact hs _ (by decide +kernel)
      | k + 13, h => exact absurd (show k + 13 < 13 from h) (by omega)
    | 3, _ =>
      match j, hj with
      | 0, _ => exact hs _ (by decide +kernel)
      | 1, _ => exact hs _ (by decide +kernel)
      | 2, _ => exact hs _ (by decide +kernel)
      | 3, _ => exact hs _ (by decide +kernel)
      | 4, _ => exact hs _ (by decide +kernel)
      | 5, _ => exact hs _ (by decide +kernel)
      | 6, _ => exact hs _ (by decide +kernel)
      | k + 7, h => exact absurd (show k + 7 < 7 from h) (by omega)
    | k + 4, h => exact absurd h (by omega)
  have h6 : ∀ i j : Nat, i < 4 → j < 4 → i ≠ j → (Cond.not (Cond.eq (tmS i) (tmS j))).before args s = true ∨ (Cond.not (Cond.eq (tmS j) (tmS i))).before args s = true := by
    intro i j hi hj hij
    match i, j, hi, hj with
    | 0, 0, _, _ => exact absurd rfl hij
    | 0, 1, _, _ => exact Or.inl (hs _ (by decide +kernel))
    | 0, 2, _, _ => exact Or.inl (hs _ (by decide +kernel))
    | 0, 3, _, _ => exact Or.inl (hs _ (by decide +kernel))
    | 1, 0, _, _ => exact Or.inr (hs _ (by decide +kernel))
    | 1, 1, _, _ => exact absurd rfl hij
    | 1, 2, _, _ => exact Or.inl (hs _ (by decide +kernel))
    | 1, 3, _, _ => exact Or.inl (hs _ (by decide +kernel))
    | 2, 0, _, _ => exact Or.inr (hs _ (by decide +kernel))
    | 2, 1, _, _ => exact Or.inr (hs _ (by decide +kernel))
    | 2, 2, _, _ => exact absurd rfl hij
    | 2, 3, _, _ => exact Or.inl (hs _ (by decide +kernel))
    | 3, 0, _, _ => exact Or.inr (hs _ (by decide +kernel))
    | 3, 1, _, _ => exact Or.inr (hs _ (by decide +kernel))
    | 3, 2, _, _ => exact Or.inr (hs _ (by decide +kernel))
    | 3, 3, _, _ => exact absurd rfl hij
    | k + 4, _, h, _ => exact absurd h (by omega)
    | 0, k + 4, _, h => exact absurd h (by omega)
    | 1, k + 4, _, h => exact absurd h (by omega)
    | 2, k + 4, _, h => exact absurd h (by omega)
    | 3, k + 4, _, h => exact absurd h (by omega)
  obtain ⟨q9, t9, hv, he⟩ := vk_Sof (N := 4) (tm := tmS) (len := lenS) (byt := bytS) (A := nw s) (fun i hi => by match i, hi with | 0, _ => decide | 1, _ => decide | 2, _ => decide | 3, _ => decide | k + 4, h => exact absurd h (by omega)) h1 h2 h3 h4 h5 h6 hA
  have zj : jH (nw s) s s.heap := ⟨va_Zof (ht _ (by decide +kernel)) (ht _ (by decide +kernel)) (va_eqi (hs _ (by decide +kernel))) hA, va_Zqof (ht _ (by decide +kernel)) (ht _ (by decide +kernel)) (hs _ (by decide +kernel)) hA⟩
  have g84 : (Term.string RX1 84).eval args s none [] s = some (.ref (q9 0)) := by
    obtain ⟨a, c, cA, kA, q1, -⟩ := Cond.exactly_spec (args := args) (first := s) (o := none) (s := s) (idx := []) (t := .string RX1 84) (cls := "java/lang/String") (hs _ (by decide +kernel))
    rw [lw_eqR (hs (Cond.eq (.string RX0 207) (.string RX1 84)) (by decide +kernel)) (he 0 (by omega)) q1]
    exact q1
  have g93 : (Term.string RX1 93).eval args s none [] s = some (.ref (q9 2)) := by
    obtain ⟨a, c, cA, kA, q1, -⟩ := Cond.exactly_spec (args := args) (first := s) (o := none) (s := s) (idx := []) (t := .string RX1 93) (cls := "java/lang/String") (hs _ (by decide +kernel))
    rw [lw_eqR (hs (Cond.eq (.string RX0 218) (.string RX1 93)) (by decide +kernel)) (he 2 (by omega)) q1]
    exact q1
  have g95 : (Term.string RX1 95).eval args s none [] s = some (.ref (q9 3)) := by
    obtain ⟨a, c, cA, kA, q1, -⟩ := Cond.exactly_spec (args := args) (first := s) (o := none) (s := s) (idx := []) (t := .string RX1 95) (cls := "java/lang/String") (hs _ (by decide +kernel))
    rw [lw_eqR (hs (Cond.eq (.string RX0 220) (.string RX1 95)) (by decide +kernel)) (he 3 (by omega)) q1]
    exact q1
  exact ⟨q9, t9, fun i hi => hv.1 i hi, zj, vk_R.of (ht _ (by decide +kernel)) (he 0 (by omega)), vk_R.of (ht _ (by decide +kernel)) (he 1 (by omega)), vk_R.of (ht _ (by decide +kernel)) (he 2 (by omega)), vk_R.of (ht _ (by decide +kernel)) (he 3 (by omega)), vk_R.of (ht _ (by decide +kernel)) g84, vk_R.of (ht _ (by decide +kernel)) g93, vk_R.of (ht _ (by decide +kernel)) g95⟩

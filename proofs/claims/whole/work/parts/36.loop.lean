set_option maxHeartbeats 8000000 in
set_option maxRecDepth 100000 in
theorem lw_loop {p : Program} {l : Launch} {e : Env} {s : State} {m : MethodId} {below : List Frame} {meth : Method} {c : Code} {b L : Nat} {xs : Nat → Int32} {D : va_G} {z z2 : ClassId × ClassId} {cJ : ClassId} {q9 t9 a a2 : Nat → Nat} {o : Nat} (X : LX p l s m c b L xs D z z2 cJ q9 t9) (hret : meth.sig.returnType = ret) (hlocks : meth.locks = false) : ∀ (f r : Nat), r ≤ L → L + 1 ≤ r + f → ∀ (H : Heap) (locs : List Loc) (cells slots : Nat) (ls : Array Slot), Jn D z z2 cJ a a2 o s H locs → cells ≤ 100 + 11 * r → slots ≤ 1000 + 94 * r → lv_has ls 9 [(0, .ref b), (1, .ref (a 0)), (2, .ref (a2 0)), (3, .ref o), (4, .int (nI r))] → W p l e room_1 s m #[.ref b] below meth c H locs cells slots (lw_Z below #[Value.ref b] s) (F0 m 23 ls []) := by
  have hX0 := X
  obtain ⟨hC, hst, ⟨hX, hbl, hL⟩, ⟨hK, hK2, hJ⟩, hT, hN, hE⟩ := X
  have hx := hC.1
  have hb := hC.2.1
  have hbA : ¬ nw s b := Nat.not_le.mpr hbl
  intro f
  induction f with
  | zero =>
    intro r hr hf
    exact absurd hf (by omega)
  | succ f ih =>
    intro r hr hf H locs cells slots ls hJn hcl hsl hl
    have hj0 := hJn
    obtain ⟨lv, lk, pu, fa, he, n, nv, du, ta, w, mp, mi, k, nt, fu, re, gn, of, th, g, hI, hP, hD, hS⟩ := hJn
    refine lv_iload hx hb dL_law_23 (lv_at hl 4 rfl) ?_
    refine lv_aload_n hx hb dL_law_25 rfl (lv_at hl 0 rfl) ?_
    refine va_slen hx hb hX hbl hbA hS dL_law_26 ?_
    refine lv_iconst (v := 3) hx hb dL_law_27 (by decide) ?_
    refine lv_isub hx hb dL_law_28 ?_
    have eL : (Int32.ofNat L - 3).toInt = (L : Int) - 3 := pk_sub_toInt (a := L) (b := 3) (by omega) (by omega)
    refine lv_icmp_gt (tgt := 1954) hx hb dL_law_29 (by decide) (fun c_29 => ?_) (fun c_29 => ?_)
    · refine lv_iconst (v := 1) hx hb dL_law_1954 (by decide) ?_
      refine va_forget (fun q hq => hS.2.2 q hq) ?_
      refine W.widen (k := 601024) (n := 7293034) (by omega) (by omega) ?_
      refine W.base ?_
      exact lw_ret (Drawn.sameBut.refl s.drawn lw_cs) hx hb hret hlocks dL_law_1955
    · have hr3 : r + 2 < L := by
        rw [Int32.lt_iff_toInt_lt, eL, nI_toInt (by omega)] at c_29
        omega
      obtain ⟨x0, hx0⟩ : ∃ x0 : Int32, xs r = x0 := ⟨_, rfl⟩
      refine lv_aload_n hx hb dL_law_32 rfl (lv_at hl 0 rfl) ?_
      refine lv_iload hx hb dL_law_33 (lv_at hl 4 rfl) ?_
      refine w_sld hx hb hX hbl hbA hS hL r rfl (by omega) hx0 dL_law_35 ?_
      refine lv_bipush (v := 63) hx hb dL_law_36 (by decide) ?_
      refine lv_iand hx hb dL_law_38 ?_
      obtain ⟨j, hj, ej⟩ := pk_andE x0 (m := 63) 6 rfl
      rw [ej]
      have kk : ∀ (H1 : Heap) (locs1 : List Loc) (c1 s1 : Nat) (ls1 : Array Slot), Jn D z z2 cJ a a2 o s H1 locs1 → c1 ≤ cells + 11 → s1 ≤ slots + 94 → lv_has ls1 9 [(0, .ref b), (1, .ref (a 0)), (2, .ref (a2 0)), (3, .ref o), (4, .int (nI r))] → W p l e room_1 s m #[.ref b] below meth c H1 locs1 c1 s1 (lw_Z below #[Value.ref b] s) (F0 m 1948 ls1 []) := by
        intro H1 locs1 c1 s1 ls1 hJ1 hc1 hs1 hl1
        refine lv_iinc (v := nI (r + 3)) (lv' := [(4, .int (nI (r + 3))), (0, .ref b), (1, .ref (a 0)), (2, .ref (a2 0)), (3, .ref o)]) hx hb dL_law_1948 hl1 (k := 4) rfl (nI_add r 3) (by decide) rfl (fun ls2 hl2 => ?_)
        refine lv_goto (tgt := 23) hx hb dL_law_1951 (by decide) ?_
        exact ih (r + 3) (by omega) (by omega) H1 locs1 c1 s1 ls2 hJ1 (by omega) (by omega) (lv_sub hl2 [1, 2, 3, 4, 0] rfl)
      by_cases h40 : j < 40
      · have hj40 : j = 0 ∨ j = 1 ∨ j = 2 ∨ j = 3 ∨ j = 4 ∨ j = 5 ∨ j = 6 ∨ j = 7 ∨ j = 8 ∨ j = 9 ∨ j = 10 ∨ j = 11 ∨ j = 12 ∨ j = 13 ∨ j = 14 ∨ j = 15 ∨ j = 16 ∨ j = 17 ∨ j = 18 ∨ j = 19 ∨ j = 20 ∨ j = 21 ∨ j = 22 ∨ j = 23 ∨ j = 24 ∨ j = 25 ∨ j = 26 ∨ j = 27 ∨ j = 28 ∨ j = 29 ∨ j = 30 ∨ j = 31 ∨ j = 32 ∨ j = 33 ∨ j = 34 ∨ j = 35 ∨ j = 36 ∨ j = 37 ∨ j = 38 ∨ j = 39 := by omega
        rcases hj40 with rfl | rfl | rfl | rfl | rfl | rfl | rfl | rfl | rfl | rfl | rfl | rfl | rfl | rfl | rfl | rfl | rfl | rfl | rfl | rfl | rfl | rfl | rfl | rfl | rfl | rfl | rfl | rfl | rfl | rfl | rfl | rfl | rfl | rfl | rfl | rfl | rfl | rfl | rfl | rfl
        · exact lv_tableIn (x := nI 0) (off := 173) (tgt := 212) hx hb dL_law_39 (by decide +kernel) (by decide +kernel) (by decide +kernel) (by decide) (lc_0 hX0 hI hP hD hS (by omega) (by omega) hr3 hl kk)
        · exact lv_tableIn (x := nI 1) (off := 229) (tgt := 268) hx hb dL_law_39 (by decide +kernel) (by decide +kernel) (by decide +kernel) (by decide) (lc_1 hX0 hI hP hD hS (by omega) (by omega) hr3 hl kk)
        · exact lv_tableIn (x := nI 2) (off := 285) (tgt := 324) hx hb dL_law_39 (by decide +kernel) (by decide +kernel) (by decide +kernel) (by decide) (lc_2 hX0 hI hP hD hS (by omega) (by omega) hr3 hl kk)
        · exact lv_tableIn (x := nI 3) (off := 353) (tgt := 392) hx hb dL_law_39 (by decide +kernel) (by decide +kernel) (by decide +kernel) (by decide) (lc_3 hX0 hI hP hD hS (by omega) (by omega) hr3 hl kk)
        · exact lv_tableIn (x := nI 4) (off := 409) (tgt := 448) hx hb dL_law_39 (by decide +kernel) (by decide +kernel) (by decide +kernel) (by decide) (lc_4 hX0 hI hP hD hS (by omega) (by omega) hr3 hl kk)
        · exact lv_tableIn (x := nI 5) (off := 472) (tgt := 511) hx hb dL_law_39 (by decide +kernel) (by decide +kernel) (by decide +kernel) (by decide) (lc_5 hX0 hI hP hD hS (by omega) (by omega) hr3 hl kk)
        · exact lv_tableIn (x := nI 6) (off := 540) (tgt := 579) hx hb dL_law_39 (by decide +kernel) (by decide +kernel) (by decide +kernel) (by decide) (lc_6 hX0 hI hP hD hS (by omega) (by omega) hr3 hl kk)
        · exact lv_tableIn (x := nI 7) (off := 596) (tgt := 635) hx hb dL_law_39 (by decide +kernel) (by decide +kernel) (by decide +kernel) (by decide) (lc_7 hX0 hI hP hD hS (by omega) (by omega) hr3 hl kk)
        · exact lv_tableIn (x := nI 8) (off := 652) (tgt := 691) hx hb dL_law_39 (by decide +kernel) (by decide +kernel) (by decide +kernel) (by decide) (lc_8 hX0 hI hP hD hS (by omega) (by omega) hr3 hl kk)
        · exact lv_tableIn (x := nI 9) (off := 665) (tgt := 704) hx hb dL_law_39 (by decide +kernel) (by decide +kernel) (by decide +kernel) (by decide) (lc_9 hX0 hI hP hD hS (by omega) (by omega) hr3 hl kk)
        · exact lv_tableIn (x := nI 10) (off := 678) (tgt := 717) hx hb dL_law_39 (by decide +kernel) (by decide +kernel) (by decide +kernel) (by decide) (lc_10 hX0 hI hP hD hS (by omega) (by omega) hr3 hl kk)
        · exact lv_tableIn (x := nI 11) (off := 691) (tgt := 730) hx hb dL_law_39 (by decide +kernel) (by decide +kernel) (by decide +kernel) (by decide) (lc_11 hX0 hI hP hD hS (by omega) (by omega) hr3 hl kk)
        · exact lv_tableIn (x := nI 12) (off := 704) (tgt := 743) hx hb dL_law_39 (by decide +kernel) (by decide +kernel) (by decide +kernel) (by decide) (lc_12 hX0 hI hP hD hS (by omega) (by omega) hr3 hl kk)
        · exact lv_tableIn (x := nI 13) (off := 717) (tgt := 756) hx hb dL_law_39 (by decide +kernel) (by decide +kernel) (by decide +kernel) (by decide) (lc_13 hX0 hI hP hD hS (by omega) (by omega) hr3 hl kk)
        · exact lv_tableIn (x := nI 14) (off := 730) (tgt := 769) hx hb dL_law_39 (by decide +kernel) (by decide +kernel) (by decide +kernel) (by decide) (lc_14 hX0 hI hP hD hS (by omega) (by omega) hr3 hl kk)
        · exact lv_tableIn (x := nI 15) (off := 743) (tgt := 782) hx hb dL_law_39 (by decide +kernel) (by decide +kernel) (by decide +kernel) (by decide) (lc_15 hX0 hI hP hD hS (by omega) (by omega) hr3 hl kk)
        · exact lv_tableIn (x := nI 16) (off := 756) (tgt := 795) hx hb dL_law_39 (by decide +kernel) (by decide +kernel) (by decide +kernel) (by decide) (lc_16 hX0 hI hP hD hS (by omega) (by omega) hr3 hl kk)
        · exact lv_tableIn (x := nI 17) (off := 769) (tgt := 808) hx hb dL_law_39 (by decide +kernel) (by decide +kernel) (by decide +kernel) (by decide) (lc_17 hX0 hI hP hD hS (by omega) (by omega) hr3 hl kk)
        · exact lv_tableIn (x := nI 18) (off := 832) (tgt := 871) hx hb dL_law_39 (by decide +kernel) (by decide +kernel) (by decide +kernel) (by decide) (lc_18 hX0 hI hP hD hS (by omega) (by omega) hr3 hl kk)
        · exact lv_tableIn (x := nI 19) (off := 888) (tgt := 927) hx hb dL_law_39 (by decide +kernel) (by decide +kernel) (by decide +kernel) (by decide) (lc_19 hX0 hI hP hD hS (by omega) (by omega) hr3 hl kk)
        · exact lv_tableIn (x := nI 20) (off := 944) (tgt := 983) hx hb dL_law_39 (by decide +kernel) (by decide +kernel) (by decide +kernel) (by decide) (lc_20 hX0 hI hP hD hS (by omega) (by omega) hr3 hl kk)
        · exact lv_tableIn (x := nI 21) (off := 1000) (tgt := 1039) hx hb dL_law_39 (by decide +kernel) (by decide +kernel) (by decide +kernel) (by decide) (lc_21 hX0 hI hP hD hS (by omega) (by omega) hr3 hl kk)
        · exact lv_tableIn (x := nI 22) (off := 1056) (tgt := 1095) hx hb dL_law_39 (by decide +kernel) (by decide +kernel) (by decide +kernel) (by decide) (lc_22 hX0 hI hP hD hS (by omega) (by omega) hr3 hl kk)
        · exact lv_tableIn (x := nI 23) (off := 1112) (tgt := 1151) hx hb dL_law_39 (by decide +kernel) (by decide +kernel) (by decide +kernel) (by decide) (lc_23 hX0 hI hP hD hS (by omega) (by omega) hr3 hl kk)
        · exact lv_tableIn (x := nI 24) (off := 1168) (tgt := 1207) hx hb dL_law_39 (by decide +kernel) (by decide +kernel) (by decide +kernel) (by decide) (lc_24 hX0 hI hP hD hS (by omega) (by omega) hr3 hl kk)
        · exact lv_tableIn (x := nI 25) (off := 1224) (tgt := 1263) hx hb dL_law_39 (by decide +kernel) (by decide +kernel) (by decide +kernel) (by decide) (lc_25 hX0 hI hP hD hS (by omega) (by omega) hr3 hl kk)
        · exact lv_tableIn (x := nI 26) (off := 1280) (tgt := 1319) hx hb dL_law_39 (by decide +kernel) (by decide +kernel) (by decide +kernel) (by decide) (lc_26 hX0 hI hP hD hS (by omega) (by omega) hr3 hl kk)
        · exact lv_tableIn (x := nI 27) (off := 1336) (tgt := 1375) hx hb dL_law_39 (by decide +kernel) (by decide +kernel) (by decide +kernel) (by decide) (lc_27 hX0 hI hP hD hS (by omega) (by omega) hr3 hl kk)
        · exact lv_tableIn (x := nI 28) (off := 1399) (tgt := 1438) hx hb dL_law_39 (by decide +kernel) (by decide +kernel) (by decide +kernel) (by decide) (lc_28 hX0 hI hP hD hS (by omega) (by omega) hr3 hl kk)
        · exact lv_tableIn (x := nI 29) (off := 1467) (tgt := 1506) hx hb dL_law_39 (by decide +kernel) (by decide +kernel) (by decide +kernel) (by decide) (lc_29 hX0 hI hP hD hS (by omega) (by omega) hr3 hl kk)
        · exact lv_tableIn (x := nI 30) (off := 1523) (tgt := 1562) hx hb dL_law_39 (by decide +kernel) (by decide +kernel) (by decide +kernel) (by decide) (lc_30 hX0 hI hP hD hS (by omega) (by omega) hr3 hl kk)
        · exact lv_tableIn (x := nI 31) (off := 1579) (tgt := 1618) hx hb dL_law_39 (by decide +kernel) (by decide +kernel) (by decide +kernel) (by decide) (lc_31 hX0 hI hP hD hS (by omega) (by omega) hr3 hl kk)
        · exact lv_tableIn (x := nI 32) (off := 1635) (tgt := 1674) hx hb dL_law_39 (by decide +kernel) (by decide +kernel) (by decide +kernel) (by decide) (lc_32 hX0 hI hP hD hS (by omega) (by omega) hr3 hl kk)
        · exact lv_tableIn (x := nI 33) (off := 1691) (tgt := 1730) hx hb dL_law_39 (by decide +kernel) (by decide +kernel) (by decide +kernel) (by decide) (lc_33 hX0 hI hP hD hS (by omega) (by omega) hr3 hl kk)
        · exact lv_tableIn (x := nI 34) (off := 1759) (tgt := 1798) hx hb dL_law_39 (by decide +kernel) (by decide +kernel) (by decide +kernel) (by decide) (lc_34 hX0 hI hP hD hS (by omega) (by omega) hr3 hl kk)
        · exact lv_tableIn (x := nI 35) (off := 1815) (tgt := 1854) hx hb dL_law_39 (by decide +kernel) (by decide +kernel) (by decide +kernel) (by decide) (lc_35 hX0 hI hP hD hS (by omega) (by omega) hr3 hl kk)
        · exact lv_tableIn (x := nI 36) (off := 1828) (tgt := 1867) hx hb dL_law_39 (by decide +kernel) (by decide +kernel) (by decide +kernel) (by decide) (lc_36 hX0 hI hP hD hS (by omega) (by omega) hr3 hl kk)
        · exact lv_tableIn (x := nI 37) (off := 1841) (tgt := 1880) hx hb dL_law_39 (by decide +kernel) (by decide +kernel) (by decide +kernel) (by decide) (lc_37 hX0 hI hP hD hS (by omega) (by omega) hr3 hl kk)
        · exact lv_tableIn (x := nI 38) (off := 1854) (tgt := 1893) hx hb dL_law_39 (by decide +kernel) (by decide +kernel) (by decide +kernel) (by decide) (lc_38 hX0 hI hP hD hS (by omega) (by omega) hr3 hl kk)
        · exact lv_tableIn (x := nI 39) (off := 1895) (tgt := 1934) hx hb dL_law_39 (by decide +kernel) (by decide +kernel) (by decide +kernel) (by decide) (lc_39 hX0 hI hP hD hS (by omega) (by omega) hr3 hl kk)
      · exact lv_tableOut (x := nI j) (tgt := 1948) hx hb dL_law_39 (Or.inr (by rw [nI_toInt (by omega)]; omega)) (by decide) (kk _ _ _ _ _ hj0 (by omega) (by omega) hl)

def Bk (D : va_G) (z : ClassId × ClassId) (cG : ClassId) (a : Nat → Nat) (A : Nat → Prop) (F : va_W) (h n0 : Nat) (lv0 : Nat → Int32) (H : Heap) : Prop := ∃ (b : Nat → Nat) (rp : Nat → Nat) (rw : Nat → Nat) (rm : Nat → Nat) (lv : Nat → Int32) (lk : Nat → Int32) (pu : Nat → Int32) (fa : Nat → Int32) (he : Nat → Int32) (n : Nat) (nv : Nat → Int32) (du : Nat → Int32) (ta : Nat → Int32) (w : Nat) (mp : Nat → Int32) (mi : Nat → Int32) (k : Nat) (nt : Int32) (fu : Int32) (re : Int32), b 0 = h ∧ IV lv lk pu fa he n nv du w mp mi k fu re ∧ (n0 ≤ n ∧ ∀ j, j < n0 → lv0 j = 0 → lv j = 0) ∧ va_P D vwCl (F ++ (qW z cG b rp rw rm lv lk pu fa he n nv du w mp mi k nt fu re ++ xW z a lv lk pu fa he n nv du ta w mp mi k nt fu re)) H ∧ va_D A (F ++ (qW z cG b rp rw rm lv lk pu fa he n nv du w mp mi k nt fu re ++ xW z a lv lk pu fa he n nv du ta w mp mi k nt fu re))
theorem Bk.weaken {D : va_G} {z : ClassId × ClassId} {cG : ClassId} {a : Nat → Nat} {A B : Nat → Prop} {F : va_W} {h n0 : Nat} {lv0 : Nat → Int32} {H : Heap} (hB : Bk D z cG a B F h n0 lv0 H) (hBA : ∀ q, B q → A q) : Bk D z cG a A F h n0 lv0 H := by
  obtain ⟨b, rp, rw, rm, lv, lk, pu, fa, he, n, nv, du, ta, w, mp, mi, k, nt, fu, re, h1, h2, h3, hP, hD⟩ := hB
  exact ⟨b, rp, rw, rm, lv, lk, pu, fa, he, n, nv, du, ta, w, mp, mi, k, nt, fu, re, h1, h2, h3, hP, hD.weaken (fun _ q9 _ h => hBA q9.1 h)⟩
theorem not_is {d : Int32} (h : d = 0 ∨ d = 1) : 1 - d = sp_not d := by
  rcases h with h | h <;> rw [h] <;> decide
theorem not_01 {d : Int32} (h : d = 0 ∨ d = 1) : sp_not d = 0 ∨ sp_not d = 1 := by
  rcases h with h | h <;> rw [h] <;> decide
theorem gone_upd {lv : Nat → Int32} {i n : Nat} : ∀ j, j < n → lv j = 0 → upd lv i 0 j = 0 := fun j _ h => by
  by_cases q : j = i
  · rw [q, pk_us]
  · rw [pk_un q]; exact h
theorem le_c {y b : Nat} (hy : y ≤ b) (hb : b < 2 ^ 31) : nI y ≤ nI b := (nI_leI (by omega) hb).mpr hy
theorem nle1 {y : Nat} (hy : 1 ≤ y) (hb : y < 2 ^ 31) : ¬ nI y < 1 := fun q => by
  have := nn_lt (a := y) (b := 1) (by omega) q
  omega
theorem pred_is {x n : Nat} (h : x < n + 1) (hn : n ≤ 10) : ∃ v : Int32, nI x - 1 = v ∧ (v = -1 ∨ ∃ y : Nat, y < n ∧ v = nI y) := by
  rcases Nat.eq_zero_or_pos x with e | e
  · exact ⟨-1, by rw [e]; rfl, Or.inl rfl⟩
  · exact ⟨nI (x - 1), pk_sub (a := x) (b := 1) e, Or.inr ⟨x - 1, by omega, rfl⟩⟩
theorem fa_lt {fa : Nat → Int32} {n i : Nat} (h : bN 9 fa n) (hi : i < n) (hf : ¬ fa i = 9) : fa i < 9 := by
  obtain ⟨y, hy, e⟩ := h i hi
  rw [e] at hf ⊢
  rcases Nat.lt_or_ge y 9 with q | q
  · exact nI_lt (b := 9) q (by decide)
  · exact absurd (by rw [show y = 9 by omega]; rfl) hf

set_option maxHeartbeats 4000000 in
set_option maxRecDepth 100000 in
theorem c_L_act (l : Launch) (sz : Nat) {D : va_G} {z : ClassId × ClassId} {cG : ClassId} {a : Nat → Nat} {F : va_W} {b : Nat → Nat} {rp : Nat → Nat} {rw : Nat → Nat} {rm : Nat → Nat} {lv : Nat → Int32} {lk : Nat → Int32} {pu : Nat → Int32} {fa : Nat → Int32} {he : Nat → Int32} {n : Nat} {nv : Nat → Int32} {du : Nat → Int32} {w : Nat} {mp : Nat → Int32} {mi : Nat → Int32} {k : Nat} {nt : Int32} {fu : Int32} {re : Int32} {ta : Nat → Int32} (v : Int32) (hIV : IV lv lk pu fa he n nv du w mp mi k fu re) : Met l yL_act (ws_ yL_act cL_act 14 (some .boolean)) ({ frames := 4, cells := 3, slots := 69, locals := 90 } : Room) (va_Pc [.ref (a 0), .ref (b 0), .int v] (fun U => U.heap.size = sz ∧ qI D z cG (F ++ (qW z cG b rp rw rm lv lk pu fa he n nv du w mp mi k nt fu re ++ xW z a lv lk pu fa he n nv du ta w mp mi k nt fu re)) U ∧ va_D (fun _ => True) (F ++ (qW z cG b rp rw rm lv lk pu fa he n nv du w mp mi k nt fu re ++ xW z a lv lk pu fa he n nv du ta w mp mi k nt fu re)) ∧ gO U)) (va_Qi (fun (r : Int32) (u : Unit) => r = 1) (fun u t9 => Bk D z cG a (va_A (F ++ (qW z cG b rp rw rm lv lk pu fa he n nv du w mp mi k nt fu re ++ xW z a lv lk pu fa he n nv du ta w mp mi k nt fu re)) sz) F (b 0) n lv t9.heap) (va_A (F ++ (qW z cG b rp rw rm lv lk pu fa he n nv du w mp mi k nt fu re ++ xW z a lv lk pu fa he n nv du ta w mp mi k nt fu re)) sz)) 3 69 (va_A (F ++ (qW z cG b rp rw rm lv lk pu fa he n nv du w mp mi k nt fu re ++ xW z a lv lk pu fa he n nv du ta w mp mi k nt fu re)) sz) := by
  refine Met.ofW (cc := cL_act) (maxL := 14) (ret := (some .boolean)) (by decide) rfl ?_
  intro p e s m args below meth c s₁ B hml hv
  obtain ⟨rfl, hsz, ⟨hP, hK, hG⟩, hD0, hO⟩ := hv
  have hx := B.exec
  have hb := B.bytes
  have hr := B.returns
  have hts := atoms_spec (ws := ws_ yL_act cL_act 14 (some .boolean)) B.pre
  have hts : ∀ w ∈ lw_all, w.before _ s = true := fun w h => hts w (List.mem_cons_of_mem _ h)
  have hown : s.vm.findClass RL = some m.cls := findClass_of_methodNamed B.named
  have hlocks := B.notSynchronized
  have hC : CallFix p m c cL_act 14 s _ lw_all RL := ⟨hx, hb, hml, hown, hts⟩
  subst hsz
  have hD := hD0.self (sz := s.heap.size)
  generalize hAe : va_A (F ++ (qW z cG b rp rw rm lv lk pu fa he n nv du w mp mi k nt fu re ++ xW z a lv lk pu fa he n nv du ta w mp mi k nt fu re)) s.heap.size = A at hD ⊢
  have hA : ∀ q : Nat, s.heap.size ≤ q → A q := fun q h => by rw [← hAe]; exact Or.inr h
  have hS : va_S A s.heap s.heap [] := va_S.rf
  have hl := lv_entry ([.ref (a 0), .ref (b 0), .int v]) (n := 14) (Nat.le_of_ble_eq_true rfl)
  rw [lg_entry_eq]
  generalize (lg_sl ([.ref (a 0), .ref (b 0), .int v]) ++ List.replicate (14 - (lg_sl ([.ref (a 0), .ref (b 0), .int v])).length) Slot.unset).toArray = ls at hl ⊢
  have hl : lv_has ls 14 [(0, .ref (a 0)), (1, .ref (b 0)), (2, .int v)] := hl
  obtain ⟨H, hH9⟩ : ∃ H : Heap, H = s.heap := ⟨_, rfl⟩
  rw [← hH9] at hP
  have hS : va_S A s.heap H [] := by rw [hH9]; exact va_S.rf
  rw [← hH9]
  obtain ⟨locs, hlo9⟩ : ∃ locs : List Loc, locs = [] := ⟨_, rfl⟩
  rw [← hlo9] at hS ⊢
  obtain ⟨⟨hn, hw, hk6⟩, h01, hlk, hfa, hpu, hH, hdead, hnv, hdu, hmp, hmi, hfund, hre⟩ := id hIV
  refine lv_aload_n hx hb dL_act_0 rfl (lv_at hl 1 rfl) ?_
  refine qg_ps hC hK hP mF_RL_9 dL_act_1 ?_
  refine qlen_p hC hK hP hG dL_act_4 ?_
  refine lv_istore_n (lv' := [(3, .int (nI n)), (0, .ref (a 0)), (1, .ref (b 0)), (2, .int v)]) hx hb dL_act_5 rfl hl (by decide) rfl (fun ls hl => ?_)
  refine lv_aload_n hx hb dL_act_6 rfl (lv_at hl 2 rfl) ?_
  refine qg_ws hC hK hP mF_RL_15 dL_act_7 ?_
  refine qlen_w hC hK hP hG dL_act_10 ?_
  refine lv_istore (lv' := [(4, .int (nI w)), (3, .int (nI n)), (0, .ref (a 0)), (1, .ref (b 0)), (2, .int v)]) hx hb dL_act_11 hl (by decide) rfl (fun ls hl => ?_)
  refine lv_iload_n hx hb dL_act_13 rfl (lv_at hl 4 rfl) ?_
  refine lv_bipush (v := 9) hx hb dL_act_14 (by decide) ?_
  refine lv_ishr hx hb dL_act_16 ?_
  refine lv_bipush (v := 20) hx hb dL_act_17 (by decide) ?_
  refine kL_below (n := 20) hC mM_L_18 hl.1 ⟨Nat.le_of_ble_eq_true rfl, Nat.le_of_ble_eq_true rfl⟩ ⟨(Nat.zero_le _), (Nat.zero_le _)⟩ (Nat.le_of_ble_eq_true rfl) rfl (by omega) (by omega) dL_act_19 ?_
  have hx19 : bel (v >>> (9 &&& 31)) 20 < 20 := bel_lt (by omega)
  obtain ⟨x19, ex19⟩ : ∃ x9 : Nat, x9 = bel (v >>> (9 &&& 31)) 20 := ⟨_, rfl⟩
  rw [← ex19] at hx19
  rw [← ex19]
  refine lv_istore (lv' := [(5, .int (nI x19)), (4, .int (nI w)), (3, .int (nI n)), (0, .ref (a 0)), (1, .ref (b 0)), (2, .int v)]) hx hb dL_act_22 hl (by decide) rfl (fun ls hl => ?_)
  refine lv_iload_n hx hb dL_act_24 rfl (lv_at hl 2 rfl) ?_
  refine lv_if_eq (tgt := 34) hx hb dL_act_25 (by decide) (fun c_25 => ?_) (fun c_25 => ?_)
  · have nc_25 : n = 0 := nn_eq (by omega) c_25
    refine lv_iload_n hx hb dL_act_34 rfl (lv_at hl 2 rfl) ?_
    refine lv_bipush (v := 10) hx hb dL_act_35 (by decide) ?_
    refine lv_icmp_ne (tgt := 42) hx hb dL_act_37 (by decide) (fun c_37 => ?_) (fun c_37 => ?_)
    · have nc_37 : ¬ n = 10 := nn_ne (by omega) c_37
      refine lv_aload_n hx hb dL_act_42 rfl (lv_at hl 4 rfl) ?_
      refine lv_aload_n hx hb dL_act_43 rfl (lv_at hl 4 rfl) ?_
      refine qg_ps hC hK hP mF_RL_9 dL_act_44 ?_
      refine lv_iconst (v := 5) hx hb dL_act_47 (by decide) ?_
      refine qn_i hC hK hP hD hS hA (N := 5) rfl (by omega) (by show _ ≤ 3; omega) (by show _ ≤ 69; omega) dL_act_48 (fun q48 H hP hD hS => ?_)
      have hP : va_P D vwCl (((q48, .inl (z.1, 5, .inl (fun _ => 0))) :: F) ++ (qW z cG b rp rw rm lv lk pu fa he n nv du w mp mi k nt fu re ++ xW z a lv lk pu fa he n nv du ta w mp mi k nt fu re)) H := hP
      have hD : va_D A (((q48, .inl (z.1, 5, .inl (fun _ => 0))) :: F) ++ (qW z cG b rp rw rm lv lk pu fa he n nv du w mp mi k nt fu re ++ xW z a lv lk pu fa he n nv du ta w mp mi k nt fu re)) := hD
      refine lv_dup hx hb dL_act_50 rfl ?_
      refine lv_iconst (v := 0) hx hb dL_act_51 (by decide) ?_
      refine lv_iconst (v := 1) hx hb dL_act_52 (by decide) ?_
      refine qi_st (q0 := 0) (L := 5) (g := (fun _ => 0)) 0 hC hK hP hD hS rfl nI_0.symm (by omega) (by omega) dL_act_53 (fun H locs hP hD hS => ?_)
      have hP : va_P D vwCl (((q48, .inl (z.1, 5, .inl (upd (fun _ => 0) 0 1))) :: F) ++ (qW z cG b rp rw rm lv lk pu fa he n nv du w mp mi k nt fu re ++ xW z a lv lk pu fa he n nv du ta w mp mi k nt fu re)) H := hP
      have hD : va_D A (((q48, .inl (z.1, 5, .inl (upd (fun _ => 0) 0 1))) :: F) ++ (qW z cG b rp rw rm lv lk pu fa he n nv du w mp mi k nt fu re ++ xW z a lv lk pu fa he n nv du ta w mp mi k nt fu re)) := hD
      refine lv_dup hx hb dL_act_54 rfl ?_
      refine lv_iconst (v := 1) hx hb dL_act_55 (by decide) ?_
      refine lv_iload_n hx hb dL_act_56 rfl (lv_at hl 5 rfl) ?_
      refine lv_iconst (v := 2) hx hb dL_act_57 (by decide) ?_
      refine lv_ishr hx hb dL_act_58 ?_
      refine lv_bipush (v := 100) hx hb dL_act_59 (by decide) ?_
      refine kL_below (n := 100) hC mM_L_18 hl.1 ⟨Nat.le_of_ble_eq_true rfl, Nat.le_of_ble_eq_true rfl⟩ ⟨(by show _ ≤ 3; omega), (by show _ ≤ 69; omega)⟩ (Nat.le_of_ble_eq_true rfl) rfl (by omega) (by omega) dL_act_61 ?_
      have hx61 : bel (v >>> (2 &&& 31)) 100 < 100 := bel_lt (by omega)
      obtain ⟨x61, ex61⟩ : ∃ x9 : Nat, x9 = bel (v >>> (2 &&& 31)) 100 := ⟨_, rfl⟩
      rw [← ex61] at hx61
      rw [← ex61]
      refine qi_st (q0 := 0) (L := 5) (g := (upd (fun _ => 0) 0 1)) 1 hC hK hP hD hS rfl rfl (by omega) (by omega) dL_act_64 (fun H locs hP hD hS => ?_)
      have hP : va_P D vwCl (((q48, .inl (z.1, 5, .inl (upd (upd (fun _ => 0) 0 1) 1 (nI x61)))) :: F) ++ (qW z cG b rp rw rm lv lk pu fa he n nv du w mp mi k nt fu re ++ xW z a lv lk pu fa he n nv du ta w mp mi k nt fu re)) H := hP
      have hD : va_D A (((q48, .inl (z.1, 5, .inl (upd (upd (fun _ => 0) 0 1) 1 (nI x61)))) :: F) ++ (qW z cG b rp rw rm lv lk pu fa he n nv du w mp mi k nt fu re ++ xW z a lv lk pu fa he n nv du ta w mp mi k nt fu re)) := hD
      refine lv_dup hx hb dL_act_65 rfl ?_
      refine lv_iconst (v := 2) hx hb dL_act_66 (by decide) ?_
      refine lv_bipush (v := 100) hx hb dL_act_67 (by decide) ?_
      refine qi_st (q0 := 0) (L := 5) (g := (upd (upd (fun _ => 0) 0 1) 1 (nI x61))) 2 hC hK hP hD hS rfl rfl (by omega) (by omega) dL_act_69 (fun H locs hP hD hS => ?_)
      have hP : va_P D vwCl (((q48, .inl (z.1, 5, .inl (upd (upd (upd (fun _ => 0) 0 1) 1 (nI x61)) 2 100))) :: F) ++ (qW z cG b rp rw rm lv lk pu fa he n nv du w mp mi k nt fu re ++ xW z a lv lk pu fa he n nv du ta w mp mi k nt fu re)) H := hP
      have hD : va_D A (((q48, .inl (z.1, 5, .inl (upd (upd (upd (fun _ => 0) 0 1) 1 (nI x61)) 2 100))) :: F) ++ (qW z cG b rp rw rm lv lk pu fa he n nv du w mp mi k nt fu re ++ xW z a lv lk pu fa he n nv du ta w mp mi k nt fu re)) := hD
      refine lv_dup hx hb dL_act_70 rfl ?_
      refine lv_iconst (v := 3) hx hb dL_act_71 (by decide) ?_
      refine lv_iconst (v := 0) hx hb dL_act_72 (by decide) ?_
      refine qi_st (q0 := 0) (L := 5) (g := (upd (upd (upd (fun _ => 0) 0 1) 1 (nI x61)) 2 100)) 3 hC hK hP hD hS rfl rfl (by omega) (by omega) dL_act_73 (fun H locs hP hD hS => ?_)
      have hP : va_P D vwCl (((q48, .inl (z.1, 5, .inl (upd (upd (upd (upd (fun _ => 0) 0 1) 1 (nI x61)) 2 100) 3 0))) :: F) ++ (qW z cG b rp rw rm lv lk pu fa he n nv du w mp mi k nt fu re ++ xW z a lv lk pu fa he n nv du ta w mp mi k nt fu re)) H := hP
      have hD : va_D A (((q48, .inl (z.1, 5, .inl (upd (upd (upd (upd (fun _ => 0) 0 1) 1 (nI x61)) 2 100) 3 0))) :: F) ++ (qW z cG b rp rw rm lv lk pu fa he n nv du w mp mi k nt fu re ++ xW z a lv lk pu fa he n nv du ta w mp mi k nt fu re)) := hD
      refine lv_dup hx hb dL_act_74 rfl ?_
      refine lv_iconst (v := 4) hx hb dL_act_75 (by decide) ?_
      refine lv_iconst (v := (-1)) hx hb dL_act_76 (by decide) ?_
      refine qi_st (q0 := 0) (L := 5) (g := (upd (upd (upd (upd (fun _ => 0) 0 1) 1 (nI x61)) 2 100) 3 0)) 4 hC hK hP hD hS rfl rfl (by omega) (by omega) dL_act_77 (fun H locs hP hD hS => ?_)
      have hP : va_P D vwCl (((q48, .inl (z.1, 5, .inl (upd (upd (upd (upd (upd (fun _ => 0) 0 1) 1 (nI x61)) 2 100) 3 0) 4 (-1)))) :: F) ++ (qW z cG b rp rw rm lv lk pu fa he n nv du w mp mi k nt fu re ++ xW z a lv lk pu fa he n nv du ta w mp mi k nt fu re)) H := hP
      have hD : va_D A (((q48, .inl (z.1, 5, .inl (upd (upd (upd (upd (upd (fun _ => 0) 0 1) 1 (nI x61)) 2 100) 3 0) 4 (-1)))) :: F) ++ (qW z cG b rp rw rm lv lk pu fa he n nv du w mp mi k nt fu re ++ xW z a lv lk pu fa he n nv du ta w mp mi k nt fu re)) := hD
      refine k_X1_with (q0 := ((q48, .inl (z.1, 5, .inl (upd (upd (upd (upd (upd (fun _ => 0) 0 1) 1 (nI x61)) 2 100) 3 0) 4 (-1)))) :: F).length + 1) (ql := 0) (n := n) hC mM_L_24 hK hG hO hP hD hS hA hl.1 ⟨Nat.le_of_ble_eq_true rfl, Nat.le_of_ble_eq_true rfl⟩ ⟨(by show _ ≤ 3; omega), (by show _ ≤ 69; omega)⟩ (Nat.le_of_ble_eq_true rfl) (wj_rt (X := ((q48, .inl (z.1, 5, .inl (upd (upd (upd (upd (upd (fun _ => 0) 0 1) 1 (nI x61)) 2 100) 3 0) 4 (-1)))) :: F)) (k := 1) rfl) (fun i9 hi9 => ⟨_, _, _, wj_rt (X := ((q48, .inl (z.1, 5, .inl (upd (upd (upd (upd (upd (fun _ => 0) 0 1) 1 (nI x61)) 2 100) 3 0) 4 (-1)))) :: F)) (qW_p hi9)⟩) rfl (by omega) dL_act_78 (fun ra H locs hP hD hS => ?_)
      refine qp_ps (lv' := upd lv n 1) (lk' := upd lk n (nI x61)) (pu' := upd pu n 100) (fa' := upd fa n 0) (he' := upd he n (-1)) hC hK hP hD hS mF_RL_9 (fun t9 ht9 => by rcases (show t9 = 0 ∨ t9 = 1 ∨ t9 = 2 ∨ t9 = 3 ∨ t9 = 4 by omega) with rfl | rfl | rfl | rfl | rfl <;> simp [upd, prow]) (fun i9 hi9 => ⟨if_neg (by omega), if_neg (by omega), if_neg (by omega), if_neg (by omega), if_neg (by omega)⟩) dL_act_81 (fun H locs hP hD hS => ?_)
      refine lv_aload_n hx hb dL_act_84 rfl (lv_at hl 3 rfl) ?_
      refine lv_iload_n hx hb dL_act_85 rfl (lv_at hl 5 rfl) ?_
      refine lv_iconst (v := 2) hx hb dL_act_86 (by decide) ?_
      refine lv_ishr hx hb dL_act_87 ?_
      refine lv_bipush (v := 100) hx hb dL_act_88 (by decide) ?_
      refine kL_below (n := 100) hC mM_L_18 hl.1 ⟨Nat.le_of_ble_eq_true rfl, Nat.le_of_ble_eq_true rfl⟩ ⟨(by show _ ≤ 3; omega), (by show _ ≤ 69; omega)⟩ (Nat.le_of_ble_eq_true rfl) rfl (by omega) (by omega) dL_act_90 ?_
      rw [← ex61]
      refine kx_X0_addPerson hC mM_L_28 hK hP hD hS hA hl.1 ⟨Nat.le_of_ble_eq_true rfl, Nat.le_of_ble_eq_true rfl⟩ ⟨(by show _ ≤ 3; omega), (by show _ ≤ 69; omega)⟩ (Nat.le_of_ble_eq_true rfl)  (nI_pos (by omega)) (le_c (b := 99) (by omega) (by decide)) (by omega) dL_act_93 (fun H locs hP hD hS => ?_)
      refine lv_iload_n hx hb dL_act_96 rfl (lv_at hl 2 rfl) ?_
      refine lv_icmp_ne (tgt := 104) hx hb dL_act_97 (by decide) (fun c_97 => ?_) (fun c_97 => ?_)
      · exact absurd rfl c_97
      · have nc_97 : n = n := nn_eq (by omega) c_97
        refine lv_iconst (v := 1) hx hb dL_act_100 (by decide) ?_
        refine lv_goto (tgt := 105) hx hb dL_act_101 (by decide) ?_
        refine W.widen (k := 3) (n := 69) (by omega) (by omega) ?_
        exact W.zret (v := 1) hx hb hr (by decide) (fun t ht hW => ⟨⟨1, (), rfl, rfl, show Bk D z cG a A F (b 0) n lv t.heap by rw [ht]; exact ⟨va_up b 1 ra, va_up rp n q48, rw, rm, upd lv n 1, upd lk n (nI x61), upd pu n 100, upd fa n 0, upd he n (-1), n + 1, nv, du, ta, w, mp, mi, k, nt, fu, re, rfl, (iv_addPerson hIV (by omega) (y := x61) (by omega) rfl), ⟨Nat.le_succ _, fun j hj h => by rw [pk_un (by omega)]; exact h⟩, hP, hD⟩⟩, hS.F ht⟩) hS.2.2 dL_act_105
    · have nc_37 : n = 10 := nn_eq (by omega) c_37
      refine lv_iconst (v := 1) hx hb dL_act_40 (by decide) ?_
      refine W.widen (k := 3) (n := 69) (by omega) (by omega) ?_
      exact W.zret (v := 1) hx hb hr (by decide) (fun t ht hW => ⟨⟨1, (), rfl, rfl, show Bk D z cG a A F (b 0) n lv t.heap by rw [ht]; exact ⟨b, rp, rw, rm, lv, lk, pu, fa, he, n, nv, du, ta, w, mp, mi, k, nt, fu, re, rfl, hIV, ⟨Nat.le_refl _, fun j _ h => h⟩, hP, hD⟩⟩, hS.F ht⟩) hS.2.2 dL_act_41
  · have nc_25 : ¬ n = 0 := nn_ne (by omega) c_25
    refine lv_iload hx hb dL_act_28 (lv_at hl 0 rfl) ?_
    refine lv_iconst (v := 2) hx hb dL_act_30 (by decide) ?_
    refine lv_icmp_ge (tgt := 106) hx hb dL_act_31 (by decide) (fun c_31 => ?_) (fun c_31 => ?_)
    · have nc_31 : 2 ≤ x19 := nn_le (by omega) c_31
      refine lv_iload hx hb dL_act_106 (lv_at hl 1 rfl) ?_
      refine lv_if_eq (tgt := 117) hx hb dL_act_108 (by decide) (fun c_108 => ?_) (fun c_108 => ?_)
      · have nc_108 : w = 0 := nn_eq (by omega) c_108
        refine lv_iload hx hb dL_act_117 (lv_at hl 1 rfl) ?_
        refine lv_bipush (v := 6) hx hb dL_act_119 (by decide) ?_
        refine lv_icmp_ne (tgt := 126) hx hb dL_act_121 (by decide) (fun c_121 => ?_) (fun c_121 => ?_)
        · have nc_121 : ¬ w = 6 := nn_ne (by omega) c_121
          refine lv_aload_n hx hb dL_act_126 rfl (lv_at hl 4 rfl) ?_
          refine lv_aload_n hx hb dL_act_127 rfl (lv_at hl 4 rfl) ?_
          refine qg_ws hC hK hP mF_RL_15 dL_act_128 ?_
          refine lv_iconst (v := 2) hx hb dL_act_131 (by decide) ?_
          refine qn_i hC hK hP hD hS hA (N := 2) rfl (by omega) (by show _ ≤ 3; omega) (by show _ ≤ 69; omega) dL_act_132 (fun q132 H hP hD hS => ?_)
          have hP : va_P D vwCl (((q132, .inl (z.1, 2, .inl (fun _ => 0))) :: F) ++ (qW z cG b rp rw rm lv lk pu fa he n nv du w mp mi k nt fu re ++ xW z a lv lk pu fa he n nv du ta w mp mi k nt fu re)) H := hP
          have hD : va_D A (((q132, .inl (z.1, 2, .inl (fun _ => 0))) :: F) ++ (qW z cG b rp rw rm lv lk pu fa he n nv du w mp mi k nt fu re ++ xW z a lv lk pu fa he n nv du ta w mp mi k nt fu re)) := hD
          refine lv_dup hx hb dL_act_134 rfl ?_
          refine lv_iconst (v := 0) hx hb dL_act_135 (by decide) ?_
          refine lv_iload_n hx hb dL_act_136 rfl (lv_at hl 5 rfl) ?_
          refine lv_iconst (v := 2) hx hb dL_act_137 (by decide) ?_
          refine lv_ishr hx hb dL_act_138 ?_
          refine lv_bipush (v := 10) hx hb dL_act_139 (by decide) ?_
          refine kL_below (n := 10) hC mM_L_18 hl.1 ⟨Nat.le_of_ble_eq_true rfl, Nat.le_of_ble_eq_true rfl⟩ ⟨(by show _ ≤ 3; omega), (by show _ ≤ 69; omega)⟩ (Nat.le_of_ble_eq_true rfl) rfl (by omega) (by omega) dL_act_141 ?_
          have hx141 : bel (v >>> (2 &&& 31)) 10 < 10 := bel_lt (by omega)
          obtain ⟨x141, ex141⟩ : ∃ x9 : Nat, x9 = bel (v >>> (2 &&& 31)) 10 := ⟨_, rfl⟩
          rw [← ex141] at hx141
          rw [← ex141]
          refine qi_st (q0 := 0) (L := 2) (g := (fun _ => 0)) 0 hC hK hP hD hS rfl nI_0.symm (by omega) (by omega) dL_act_144 (fun H locs hP hD hS => ?_)
          have hP : va_P D vwCl (((q132, .inl (z.1, 2, .inl (upd (fun _ => 0) 0 (nI x141)))) :: F) ++ (qW z cG b rp rw rm lv lk pu fa he n nv du w mp mi k nt fu re ++ xW z a lv lk pu fa he n nv du ta w mp mi k nt fu re)) H := hP
          have hD : va_D A (((q132, .inl (z.1, 2, .inl (upd (fun _ => 0) 0 (nI x141)))) :: F) ++ (qW z cG b rp rw rm lv lk pu fa he n nv du w mp mi k nt fu re ++ xW z a lv lk pu fa he n nv du ta w mp mi k nt fu re)) := hD
          refine lv_dup hx hb dL_act_145 rfl ?_
          refine lv_iconst (v := 1) hx hb dL_act_146 (by decide) ?_
          refine lv_iconst (v := 1) hx hb dL_act_147 (by decide) ?_
          refine qi_st (q0 := 0) (L := 2) (g := (upd (fun _ => 0) 0 (nI x141))) 1 hC hK hP hD hS rfl rfl (by omega) (by omega) dL_act_148 (fun H locs hP hD hS => ?_)
          have hP : va_P D vwCl (((q132, .inl (z.1, 2, .inl (upd (upd (fun _ => 0) 0 (nI x141)) 1 1))) :: F) ++ (qW z cG b rp rw rm lv lk pu fa he n nv du w mp mi k nt fu re ++ xW z a lv lk pu fa he n nv du ta w mp mi k nt fu re)) H := hP
          have hD : va_D A (((q132, .inl (z.1, 2, .inl (upd (upd (fun _ => 0) 0 (nI x141)) 1 1))) :: F) ++ (qW z cG b rp rw rm lv lk pu fa he n nv du w mp mi k nt fu re ++ xW z a lv lk pu fa he n nv du ta w mp mi k nt fu re)) := hD
          refine k_X1_with (q0 := ((q132, .inl (z.1, 2, .inl (upd (upd (fun _ => 0) 0 (nI x141)) 1 1))) :: F).length + 2) (ql := 0) (n := w) hC mM_L_24 hK hG hO hP hD hS hA hl.1 ⟨Nat.le_of_ble_eq_true rfl, Nat.le_of_ble_eq_true rfl⟩ ⟨(by show _ ≤ 3; omega), (by show _ ≤ 69; omega)⟩ (Nat.le_of_ble_eq_true rfl) (wj_rt (X := ((q132, .inl (z.1, 2, .inl (upd (upd (fun _ => 0) 0 (nI x141)) 1 1))) :: F)) (k := 2) rfl) (fun i9 hi9 => ⟨_, _, _, wj_rt (X := ((q132, .inl (z.1, 2, .inl (upd (upd (fun _ => 0) 0 (nI x141)) 1 1))) :: F)) (qW_w hi9)⟩) rfl (by omega) dL_act_149 (fun ra H locs hP hD hS => ?_)
          refine qp_ws (nv' := upd nv w (nI x141)) (du' := upd du w 1) hC hK hP hD hS mF_RL_15 (fun t9 ht9 => by rcases (show t9 = 0 ∨ t9 = 1 by omega) with rfl | rfl <;> simp [upd, wrow]) (fun i9 hi9 => ⟨if_neg (by omega), if_neg (by omega)⟩) dL_act_152 (fun H locs hP hD hS => ?_)
          refine lv_aload_n hx hb dL_act_155 rfl (lv_at hl 3 rfl) ?_
          refine lv_iload_n hx hb dL_act_156 rfl (lv_at hl 5 rfl) ?_
          refine lv_iconst (v := 2) hx hb dL_act_157 (by decide) ?_
          refine lv_ishr hx hb dL_act_158 ?_
          refine lv_bipush (v := 10) hx hb dL_act_159 (by decide) ?_
          refine kL_below (n := 10) hC mM_L_18 hl.1 ⟨Nat.le_of_ble_eq_true rfl, Nat.le_of_ble_eq_true rfl⟩ ⟨(by show _ ≤ 3; omega), (by show _ ≤ 69; omega)⟩ (Nat.le_of_ble_eq_true rfl) rfl (by omega) (by omega) dL_act_161 ?_
          rw [← ex141]
          refine kx_X0_addWitness hC mM_L_34 hK hP hD hS hA hl.1 ⟨Nat.le_of_ble_eq_true rfl, Nat.le_of_ble_eq_true rfl⟩ ⟨(by show _ ≤ 3; omega), (by show _ ≤ 69; omega)⟩ (Nat.le_of_ble_eq_true rfl)  (nI_pos (by omega)) (le_c (b := 9) (by omega) (by decide)) (by omega) dL_act_164 (fun H locs hP hD hS => ?_)
          refine lv_iload hx hb dL_act_167 (lv_at hl 1 rfl) ?_
          refine lv_icmp_ne (tgt := 176) hx hb dL_act_169 (by decide) (fun c_169 => ?_) (fun c_169 => ?_)
          · exact absurd rfl c_169
          · have nc_169 : w = w := nn_eq (by omega) c_169
            refine lv_iconst (v := 1) hx hb dL_act_172 (by decide) ?_
            refine lv_goto (tgt := 177) hx hb dL_act_173 (by decide) ?_
            refine W.widen (k := 3) (n := 69) (by omega) (by omega) ?_
            exact W.zret (v := 1) hx hb hr (by decide) (fun t ht hW => ⟨⟨1, (), rfl, rfl, show Bk D z cG a A F (b 0) n lv t.heap by rw [ht]; exact ⟨va_up b 2 ra, rp, va_up rw w q132, rm, lv, lk, pu, fa, he, n, upd nv w (nI x141), upd du w 1, ta, w + 1, mp, mi, k, nt, fu, re, rfl, (iv_addWitness hIV (by omega) (y := x141) (by omega) rfl), ⟨Nat.le_refl _, fun j _ h => h⟩, hP, hD⟩⟩, hS.F ht⟩) hS.2.2 dL_act_177
        · have nc_121 : w = 6 := nn_eq (by omega) c_121
          refine lv_iconst (v := 1) hx hb dL_act_124 (by decide) ?_
          refine W.widen (k := 3) (n := 69) (by omega) (by omega) ?_
          exact W.zret (v := 1) hx hb hr (by decide) (fun t ht hW => ⟨⟨1, (), rfl, rfl, show Bk D z cG a A F (b 0) n lv t.heap by rw [ht]; exact ⟨b, rp, rw, rm, lv, lk, pu, fa, he, n, nv, du, ta, w, mp, mi, k, nt, fu, re, rfl, hIV, ⟨Nat.le_refl _, fun j _ h => h⟩, hP, hD⟩⟩, hS.F ht⟩) hS.2.2 dL_act_125
      · have nc_108 : ¬ w = 0 := nn_ne (by omega) c_108
        refine lv_iload hx hb dL_act_111 (lv_at hl 0 rfl) ?_
        refine lv_iconst (v := 2) hx hb dL_act_113 (by decide) ?_
        refine lv_icmp_ne (tgt := 178) hx hb dL_act_114 (by decide) (fun c_114 => ?_) (fun c_114 => ?_)
        · have nc_114 : ¬ x19 = 2 := nn_ne (by omega) c_114
          refine lv_iload_n hx hb dL_act_178 rfl (lv_at hl 5 rfl) ?_
          refine lv_iconst (v := 1) hx hb dL_act_179 (by decide) ?_
          refine lv_ishr hx hb dL_act_180 ?_
          refine lv_iload_n hx hb dL_act_181 rfl (lv_at hl 2 rfl) ?_
          refine kL_below (n := n) hC mM_L_18 hl.1 ⟨Nat.le_of_ble_eq_true rfl, Nat.le_of_ble_eq_true rfl⟩ ⟨(Nat.zero_le _), (Nat.zero_le _)⟩ (Nat.le_of_ble_eq_true rfl) rfl (by omega) (by omega) dL_act_182 ?_
          have hx182 : bel (v >>> (1 &&& 31)) n < n := bel_lt (by omega)
          obtain ⟨x182, ex182⟩ : ∃ x9 : Nat, x9 = bel (v >>> (1 &&& 31)) n := ⟨_, rfl⟩
          rw [← ex182] at hx182
          rw [← ex182]
          have hi : x182 < n := hx182
          refine lv_istore (lv' := [(6, .int (nI x182)), (5, .int (nI x19)), (4, .int (nI w)), (3, .int (nI n)), (0, .ref (a 0)), (1, .ref (b 0)), (2, .int v)]) hx hb dL_act_185 hl (by decide) rfl (fun ls hl => ?_)
          refine lv_aload_n hx hb dL_act_187 rfl (lv_at hl 5 rfl) ?_
          refine qg_ps hC hK hP mF_RL_9 dL_act_188 ?_
          refine lv_iload hx hb dL_act_191 (lv_at hl 0 rfl) ?_
          refine qr_p x182 hC hK hP hG rfl hi (by omega) dL_act_193 ?_
          refine lv_astore (lv' := [(7, .ref (rp x182)), (6, .int (nI x182)), (5, .int (nI x19)), (4, .int (nI w)), (3, .int (nI n)), (0, .ref (a 0)), (1, .ref (b 0)), (2, .int v)]) hx hb dL_act_194 hl (by decide) rfl (fun ls hl => ?_)
          refine lv_iload_n hx hb dL_act_196 rfl (lv_at hl 7 rfl) ?_
          refine lv_iconst (v := 3) hx hb dL_act_197 (by decide) ?_
          refine lv_ishr hx hb dL_act_198 ?_
          refine lv_iload hx hb dL_act_199 (lv_at hl 3 rfl) ?_
          refine kL_below (n := w) hC mM_L_18 hl.1 ⟨Nat.le_of_ble_eq_true rfl, Nat.le_of_ble_eq_true rfl⟩ ⟨(Nat.zero_le _), (Nat.zero_le _)⟩ (Nat.le_of_ble_eq_true rfl) rfl (by omega) (by omega) dL_act_201 ?_
          have hx201 : bel (v >>> (3 &&& 31)) w < w := bel_lt (by omega)
          obtain ⟨x201, ex201⟩ : ∃ x9 : Nat, x9 = bel (v >>> (3 &&& 31)) w := ⟨_, rfl⟩
          rw [← ex201] at hx201
          rw [← ex201]
          refine lv_istore (lv' := [(8, .int (nI x201)), (7, .ref (rp x182)), (6, .int (nI x182)), (5, .int (nI x19)), (4, .int (nI w)), (3, .int (nI n)), (0, .ref (a 0)), (1, .ref (b 0)), (2, .int v)]) hx hb dL_act_204 hl (by decide) rfl (fun ls hl => ?_)
          refine lv_iload hx hb dL_act_206 (lv_at hl 3 rfl) ?_
          clear ex19
          have t264 : W p l e ({ frames := 4, cells := 3, slots := 69, locals := 90 } : Room) s m ([.ref (a 0), .ref (b 0), .int v] : List Value).toArray below meth c H locs (0) (0) (MQ below (va_Qi (fun (r : Int32) (u : Unit) => r = 1) (fun u t9 => Bk D z cG a A F (b 0) n lv t9.heap) A) ([.ref (a 0), .ref (b 0), .int v] : List Value).toArray s 3 69 A) (F0 m 264 ls []) := by
            refine lv_iload_n hx hb dL_act_264 rfl (lv_at hl 8 rfl) ?_
            refine lv_iconst (v := 4) hx hb dL_act_265 (by decide) ?_
            refine lv_ishr hx hb dL_act_266 ?_
            refine lv_iload_n hx hb dL_act_267 rfl (lv_at hl 5 rfl) ?_
            refine lv_iconst (v := 1) hx hb dL_act_268 (by decide) ?_
            refine lv_iadd hx hb dL_act_269 ?_
            refine kL_below (n := (n + 1)) hC mM_L_18 hl.1 ⟨Nat.le_of_ble_eq_true rfl, Nat.le_of_ble_eq_true rfl⟩ ⟨(Nat.zero_le _), (Nat.zero_le _)⟩ (Nat.le_of_ble_eq_true rfl) (nI_1 n) (by omega) (by omega) dL_act_270 ?_
            have hx270 : bel (v >>> (4 &&& 31)) (n + 1) < n + 1 := bel_lt (by omega)
            obtain ⟨x270, ex270⟩ : ∃ x9 : Nat, x9 = bel (v >>> (4 &&& 31)) (n + 1) := ⟨_, rfl⟩
            rw [← ex270] at hx270
            rw [← ex270]
            refine lv_iconst (v := 1) hx hb dL_act_273 (by decide) ?_
            refine lv_isub hx hb dL_act_274 ?_
            obtain ⟨v9, ev9, hv9⟩ := pred_is hx270 hn
            rw [ev9]
            refine lv_istore (lv' := [(9, .int v9), (8, .int (nI x201)), (7, .ref (rp x182)), (6, .int (nI x182)), (5, .int (nI x19)), (4, .int (nI w)), (3, .int (nI n)), (0, .ref (a 0)), (1, .ref (b 0)), (2, .int v)]) hx hb dL_act_275 hl (by decide) rfl (fun ls hl => ?_)
            refine lv_aload hx hb dL_act_277 (lv_at hl 2 rfl) ?_
            refine lv_iconst (v := 4) hx hb dL_act_279 (by decide) ?_
            refine ql_he x182 hC hK hP hi rfl dL_act_280 ?_
            refine lv_istore (lv' := [(10, .int (he x182)), (9, .int v9), (8, .int (nI x201)), (7, .ref (rp x182)), (6, .int (nI x182)), (5, .int (nI x19)), (4, .int (nI w)), (3, .int (nI n)), (0, .ref (a 0)), (1, .ref (b 0)), (2, .int v)]) hx hb dL_act_281 hl (by decide) rfl (fun ls hl => ?_)
            refine lv_aload hx hb dL_act_283 (lv_at hl 3 rfl) ?_
            refine lv_iconst (v := 0) hx hb dL_act_285 (by decide) ?_
            refine ql_lv x182 hC hK hP hi nI_0.symm dL_act_286 ?_
            refine lv_if_eq (tgt := 297) hx hb dL_act_287 (by decide) (fun c_287 => ?_) (fun c_287 => ?_)
            · refine lv_iconst (v := 1) hx hb dL_act_297 (by decide) ?_
              refine W.widen (k := 3) (n := 69) (by omega) (by omega) ?_
              exact W.zret (v := 1) hx hb hr (by decide) (fun t ht hW => ⟨⟨1, (), rfl, rfl, show Bk D z cG a A F (b 0) n lv t.heap by rw [ht]; exact ⟨b, rp, rw, rm, lv, lk, pu, fa, he, n, nv, du, ta, w, mp, mi, k, nt, fu, re, rfl, hIV, ⟨Nat.le_refl _, fun j _ h => h⟩, hP, hD⟩⟩, hS.F ht⟩) hS.2.2 dL_act_298
            · refine lv_iload hx hb dL_act_290 (lv_at hl 1 rfl) ?_
              refine lv_iload hx hb dL_act_292 (lv_at hl 4 rfl) ?_
              refine lv_icmp_ne (tgt := 299) hx hb dL_act_294 (by decide) (fun c_294 => ?_) (fun c_294 => ?_)
              · refine lv_aload hx hb dL_act_299 (lv_at hl 3 rfl) ?_
                refine lv_iconst (v := 4) hx hb dL_act_301 (by decide) ?_
                refine lv_iload hx hb dL_act_302 (lv_at hl 1 rfl) ?_
                refine qs_he x182 hC hK hP hD hS hi rfl dL_act_304 (fun H locs hP hD hS => ?_)
                refine lv_aload_n hx hb dL_act_305 rfl (lv_at hl 8 rfl) ?_
                refine lv_iload hx hb dL_act_306 (lv_at hl 4 rfl) ?_
                refine lv_iload hx hb dL_act_308 (lv_at hl 1 rfl) ?_
                rcases hv9 with ev | ⟨y9, hy9, ev⟩
                · subst ev
                  refine kx_X0_setHeir_0 hC mM_L_37 hK hP hD hS hA hl.1 ⟨Nat.le_of_ble_eq_true rfl, Nat.le_of_ble_eq_true rfl⟩ ⟨(Nat.zero_le _), (Nat.zero_le _)⟩ (Nat.le_of_ble_eq_true rfl) rfl (by first | assumption | omega) (by first | assumption | omega) c_287 dL_act_310 (fun H locs hP hD hS => ?_)
                  refine lv_iload hx hb dL_act_313 (lv_at hl 0 rfl) ?_
                  refine lv_icmp_ne (tgt := 322) hx hb dL_act_315 (by decide) (fun c_315 => ?_) (fun c_315 => ?_)
                  · exact absurd rfl c_315
                  · refine lv_iconst (v := 1) hx hb dL_act_318 (by decide) ?_
                    refine lv_goto (tgt := 323) hx hb dL_act_319 (by decide) ?_
                    refine W.widen (k := 3) (n := 69) (by omega) (by omega) ?_
                    exact W.zret (v := 1) hx hb hr (by decide) (fun t ht hW => ⟨⟨1, (), rfl, rfl, show Bk D z cG a A F (b 0) n lv t.heap by rw [ht]; exact ⟨b, rp, rw, rm, lv, lk, pu, fa, upd he x182 (-1), n, nv, du, ta, w, mp, mi, k, nt, fu, re, rfl, (iv_setHeir hIV (Or.inl rfl)), ⟨Nat.le_refl _, fun j _ h => h⟩, hP, hD⟩⟩, hS.F ht⟩) hS.2.2 dL_act_323
                · subst ev
                  refine kx_X0_setHeir_1 hC mM_L_37 hK hP hD hS hA hl.1 ⟨Nat.le_of_ble_eq_true rfl, Nat.le_of_ble_eq_true rfl⟩ ⟨(Nat.zero_le _), (Nat.zero_le _)⟩ (Nat.le_of_ble_eq_true rfl) rfl rfl (by first | assumption | omega) (by first | assumption | omega) (by first | assumption | omega) (fun q9 => c_294 (by rw [q9])) c_287 dL_act_310 (fun H locs hP hD hS => ?_)
                  refine lv_iload hx hb dL_act_313 (lv_at hl 0 rfl) ?_
                  refine lv_icmp_ne (tgt := 322) hx hb dL_act_315 (by decide) (fun c_315 => ?_) (fun c_315 => ?_)
                  · exact absurd rfl c_315
                  · refine lv_iconst (v := 1) hx hb dL_act_318 (by decide) ?_
                    refine lv_goto (tgt := 323) hx hb dL_act_319 (by decide) ?_
                    refine W.widen (k := 3) (n := 69) (by omega) (by omega) ?_
                    exact W.zret (v := 1) hx hb hr (by decide) (fun t ht hW => ⟨⟨1, (), rfl, rfl, show Bk D z cG a A F (b 0) n lv t.heap by rw [ht]; exact ⟨b, rp, rw, rm, lv, lk, pu, fa, upd he x182 (nI y9), n, nv, du, ta, w, mp, mi, k, nt, fu, re, rfl, (iv_setHeir hIV (Or.inr ⟨y9, hy9, rfl⟩)), ⟨Nat.le_refl _, fun j _ h => h⟩, hP, hD⟩⟩, hS.F ht⟩) hS.2.2 dL_act_323
              · refine lv_iconst (v := 1) hx hb dL_act_297 (by decide) ?_
                refine W.widen (k := 3) (n := 69) (by omega) (by omega) ?_
                exact W.zret (v := 1) hx hb hr (by decide) (fun t ht hW => ⟨⟨1, (), rfl, rfl, show Bk D z cG a A F (b 0) n lv t.heap by rw [ht]; exact ⟨b, rp, rw, rm, lv, lk, pu, fa, he, n, nv, du, ta, w, mp, mi, k, nt, fu, re, rfl, hIV, ⟨Nat.le_refl _, fun j _ h => h⟩, hP, hD⟩⟩, hS.F ht⟩) hS.2.2 dL_act_298
          have t324 : W p l e ({ frames := 4, cells := 3, slots := 69, locals := 90 } : Room) s m ([.ref (a 0), .ref (b 0), .int v] : List Value).toArray below meth c H locs (0) (0) (MQ below (va_Qi (fun (r : Int32) (u : Unit) => r = 1) (fun u t9 => Bk D z cG a A F (b 0) n lv t9.heap) A) ([.ref (a 0), .ref (b 0), .int v] : List Value).toArray s 3 69 A) (F0 m 324 ls []) := by
            refine lv_aload hx hb dL_act_324 (lv_at hl 1 rfl) ?_
            refine k_X1_price hC mM_L_40 hK hG hP (wj_rt (X := F) (qW_p hi)) hl.1 ⟨Nat.le_of_ble_eq_true rfl, Nat.le_of_ble_eq_true rfl⟩ ⟨Nat.zero_le _, Nat.zero_le _⟩ (Nat.le_of_ble_eq_true rfl) dL_act_326 ?_
            refine lv_istore (lv' := [(11, .int (sp_price (lk x182))), (8, .int (nI x201)), (7, .ref (rp x182)), (6, .int (nI x182)), (5, .int (nI x19)), (4, .int (nI w)), (3, .int (nI n)), (0, .ref (a 0)), (1, .ref (b 0)), (2, .int v)]) hx hb dL_act_329 hl (by decide) rfl (fun ls hl => ?_)
            refine lv_aload hx hb dL_act_331 (lv_at hl 2 rfl) ?_
            refine lv_iconst (v := 0) hx hb dL_act_333 (by decide) ?_
            refine ql_lv x182 hC hK hP hi nI_0.symm dL_act_334 ?_
            refine lv_if_eq (tgt := 356) hx hb dL_act_335 (by decide) (fun c_335 => ?_) (fun c_335 => ?_)
            · refine lv_iconst (v := 1) hx hb dL_act_356 (by decide) ?_
              refine W.widen (k := 3) (n := 69) (by omega) (by omega) ?_
              exact W.zret (v := 1) hx hb hr (by decide) (fun t ht hW => ⟨⟨1, (), rfl, rfl, show Bk D z cG a A F (b 0) n lv t.heap by rw [ht]; exact ⟨b, rp, rw, rm, lv, lk, pu, fa, he, n, nv, du, ta, w, mp, mi, k, nt, fu, re, rfl, hIV, ⟨Nat.le_refl _, fun j _ h => h⟩, hP, hD⟩⟩, hS.F ht⟩) hS.2.2 dL_act_357
            · refine lv_aload hx hb dL_act_338 (lv_at hl 2 rfl) ?_
              refine lv_iconst (v := 3) hx hb dL_act_340 (by decide) ?_
              refine ql_fa x182 hC hK hP hi rfl dL_act_341 ?_
              refine lv_bipush (v := 9) hx hb dL_act_342 (by decide) ?_
              refine lv_icmp_eq (tgt := 356) hx hb dL_act_344 (by decide) (fun c_344 => ?_) (fun c_344 => ?_)
              · refine lv_iconst (v := 1) hx hb dL_act_356 (by decide) ?_
                refine W.widen (k := 3) (n := 69) (by omega) (by omega) ?_
                exact W.zret (v := 1) hx hb hr (by decide) (fun t ht hW => ⟨⟨1, (), rfl, rfl, show Bk D z cG a A F (b 0) n lv t.heap by rw [ht]; exact ⟨b, rp, rw, rm, lv, lk, pu, fa, he, n, nv, du, ta, w, mp, mi, k, nt, fu, re, rfl, hIV, ⟨Nat.le_refl _, fun j _ h => h⟩, hP, hD⟩⟩, hS.F ht⟩) hS.2.2 dL_act_357
              · refine lv_aload hx hb dL_act_347 (lv_at hl 2 rfl) ?_
                refine lv_iconst (v := 2) hx hb dL_act_349 (by decide) ?_
                refine ql_pu x182 hC hK hP hi rfl dL_act_350 ?_
                refine lv_iload hx hb dL_act_351 (lv_at hl 0 rfl) ?_
                refine lv_icmp_ge (tgt := 358) hx hb dL_act_353 (by decide) (fun c_353 => ?_) (fun c_353 => ?_)
                · refine lv_aload hx hb dL_act_358 (lv_at hl 2 rfl) ?_
                  refine lv_iconst (v := 2) hx hb dL_act_360 (by decide) ?_
                  refine lv_dup2_11 hx hb dL_act_361 rfl rfl ?_
                  refine ql_pu x182 hC hK hP hi rfl dL_act_362 ?_
                  refine lv_iload hx hb dL_act_363 (lv_at hl 0 rfl) ?_
                  refine lv_isub hx hb dL_act_365 ?_
                  refine qs_pu x182 hC hK hP hD hS hi rfl dL_act_366 (fun H locs hP hD hS => ?_)
                  refine lv_aload hx hb dL_act_367 (lv_at hl 2 rfl) ?_
                  refine lv_iconst (v := 3) hx hb dL_act_369 (by decide) ?_
                  refine lv_dup2_11 hx hb dL_act_370 rfl rfl ?_
                  refine ql_fa x182 hC hK hP hi rfl dL_act_371 ?_
                  refine lv_iconst (v := 1) hx hb dL_act_372 (by decide) ?_
                  refine lv_iadd hx hb dL_act_373 ?_
                  refine qs_fa x182 hC hK hP hD hS hi rfl dL_act_374 (fun H locs hP hD hS => ?_)
                  refine lv_aload_n hx hb dL_act_375 rfl (lv_at hl 8 rfl) ?_
                  refine lv_dup hx hb dL_act_376 rfl ?_
                  refine qg_fu hC hK hP mF_RL_44 dL_act_377 ?_
                  refine lv_iload hx hb dL_act_380 (lv_at hl 0 rfl) ?_
                  refine lv_iadd hx hb dL_act_382 ?_
                  refine qp_fu hC hK hP hD hS mF_RL_44 dL_act_383 (fun H locs hP hD hS => ?_)
                  refine lv_aload_n hx hb dL_act_386 rfl (lv_at hl 7 rfl) ?_
                  refine lv_iload hx hb dL_act_387 (lv_at hl 3 rfl) ?_
                  refine kx_X0_buyFate hC mM_L_48 hK hP hD hS hA hl.1 ⟨Nat.le_of_ble_eq_true rfl, Nat.le_of_ble_eq_true rfl⟩ ⟨(Nat.zero_le _), (Nat.zero_le _)⟩ (Nat.le_of_ble_eq_true rfl) rfl (by first | assumption | omega) (by first | assumption | omega) c_335 (fa_lt hfa hi c_344) c_353 dL_act_389 (fun H locs hP hD hS => ?_)
                  refine lv_iload hx hb dL_act_392 (lv_at hl 0 rfl) ?_
                  refine lv_icmp_ne (tgt := 401) hx hb dL_act_394 (by decide) (fun c_394 => ?_) (fun c_394 => ?_)
                  · exact absurd rfl c_394
                  · refine lv_iconst (v := 1) hx hb dL_act_397 (by decide) ?_
                    refine lv_goto (tgt := 402) hx hb dL_act_398 (by decide) ?_
                    refine W.widen (k := 3) (n := 69) (by omega) (by omega) ?_
                    exact W.zret (v := 1) hx hb hr (by decide) (fun t ht hW => ⟨⟨1, (), rfl, rfl, show Bk D z cG a A F (b 0) n lv t.heap by rw [ht]; exact ⟨b, rp, rw, rm, lv, lk, upd pu x182 (pu x182 - sp_price (lk x182)), upd fa x182 (fa x182 + 1), he, n, nv, du, ta, w, mp, mi, k, nt, fu + sp_price (lk x182), re, rfl, (iv_buyFate hIV hi c_335 c_344 c_353), ⟨Nat.le_refl _, fun j _ h => h⟩, hP, hD⟩⟩, hS.F ht⟩) hS.2.2 dL_act_402
                · refine lv_iconst (v := 1) hx hb dL_act_356 (by decide) ?_
                  refine W.widen (k := 3) (n := 69) (by omega) (by omega) ?_
                  exact W.zret (v := 1) hx hb hr (by decide) (fun t ht hW => ⟨⟨1, (), rfl, rfl, show Bk D z cG a A F (b 0) n lv t.heap by rw [ht]; exact ⟨b, rp, rw, rm, lv, lk, pu, fa, he, n, nv, du, ta, w, mp, mi, k, nt, fu, re, rfl, hIV, ⟨Nat.le_refl _, fun j _ h => h⟩, hP, hD⟩⟩, hS.F ht⟩) hS.2.2 dL_act_357
          have t403 : W p l e ({ frames := 4, cells := 3, slots := 69, locals := 90 } : Room) s m ([.ref (a 0), .ref (b 0), .int v] : List Value).toArray below meth c H locs (0) (0) (MQ below (va_Qi (fun (r : Int32) (u : Unit) => r = 1) (fun u t9 => Bk D z cG a A F (b 0) n lv t9.heap) A) ([.ref (a 0), .ref (b 0), .int v] : List Value).toArray s 3 69 A) (F0 m 403 ls []) := by
            refine lv_aload_n hx hb dL_act_403 rfl (lv_at hl 7 rfl) ?_
            refine qg_ws hC hK hP mF_RL_15 dL_act_404 ?_
            refine lv_iload hx hb dL_act_407 (lv_at hl 0 rfl) ?_
            refine qr_w x201 hC hK hP hG rfl hx201 (by omega) dL_act_409 ?_
            refine lv_iconst (v := 1) hx hb dL_act_410 (by decide) ?_
            refine lv_iconst (v := 1) hx hb dL_act_411 (by decide) ?_
            refine lv_aload_n hx hb dL_act_412 rfl (lv_at hl 7 rfl) ?_
            refine qg_ws hC hK hP mF_RL_15 dL_act_413 ?_
            refine lv_iload hx hb dL_act_416 (lv_at hl 0 rfl) ?_
            refine qr_w x201 hC hK hP hG rfl hx201 (by omega) dL_act_418 ?_
            refine lv_iconst (v := 1) hx hb dL_act_419 (by decide) ?_
            refine ql_du x201 hC hK hP hx201 rfl dL_act_420 ?_
            refine lv_isub hx hb dL_act_421 ?_
            rw [show (1 - (du x201) : Int32) = sp_not (du x201) from (not_is (hdu x201 hx201))]
            refine qs_du x201 hC hK hP hD hS hx201 rfl dL_act_422 (fun H locs hP hD hS => ?_)
            refine lv_aload_n hx hb dL_act_423 rfl (lv_at hl 6 rfl) ?_
            refine lv_iload hx hb dL_act_424 (lv_at hl 0 rfl) ?_
            refine kx_X0_turnDuty hC mM_L_51 hK hP hD hS hA hl.1 ⟨Nat.le_of_ble_eq_true rfl, Nat.le_of_ble_eq_true rfl⟩ ⟨(Nat.zero_le _), (Nat.zero_le _)⟩ (Nat.le_of_ble_eq_true rfl) rfl hx201 (by first | assumption | omega) dL_act_426 (fun H locs hP hD hS => ?_)
            refine lv_aload_n hx hb dL_act_429 rfl (lv_at hl 7 rfl) ?_
            refine qg_ws hC hK hP mF_RL_15 dL_act_430 ?_
            refine lv_iload hx hb dL_act_433 (lv_at hl 0 rfl) ?_
            refine qr_w x201 hC hK hP hG rfl hx201 (by omega) dL_act_435 ?_
            refine lv_iconst (v := 1) hx hb dL_act_436 (by decide) ?_
            refine ql_du x201 hC hK hP hx201 rfl dL_act_437 ?_
            rw [show ((upd du x201 (sp_not (du x201))) x201 : Int32) = sp_not (du x201) from pk_us]
            refine lv_iconst (v := 1) hx hb dL_act_438 (by decide) ?_
            refine lv_icmp_ne (tgt := 446) hx hb dL_act_439 (by decide) (fun c_439 => ?_) (fun c_439 => ?_)
            · refine lv_iconst (v := 0) hx hb dL_act_446 (by decide) ?_
              refine lv_icmp_ne (tgt := 454) hx hb dL_act_447 (by decide) (fun c_447 => ?_) (fun c_447 => ?_)
              · exact absurd ((not_01 (hdu x201 hx201)).resolve_right c_439) c_447
              · refine lv_iconst (v := 1) hx hb dL_act_450 (by decide) ?_
                refine lv_goto (tgt := 455) hx hb dL_act_451 (by decide) ?_
                refine W.widen (k := 3) (n := 69) (by omega) (by omega) ?_
                exact W.zret (v := 1) hx hb hr (by decide) (fun t ht hW => ⟨⟨1, (), rfl, rfl, show Bk D z cG a A F (b 0) n lv t.heap by rw [ht]; exact ⟨b, rp, rw, rm, lv, lk, pu, fa, he, n, nv, upd du x201 (sp_not (du x201)), ta, w, mp, mi, k, nt, fu, re, rfl, (iv_turnDuty hIV (not_01 (hdu x201 hx201))), ⟨Nat.le_refl _, fun j _ h => h⟩, hP, hD⟩⟩, hS.F ht⟩) hS.2.2 dL_act_455
            · refine lv_iconst (v := 1) hx hb dL_act_442 (by decide) ?_
              refine lv_goto (tgt := 447) hx hb dL_act_443 (by decide) ?_
              refine lv_icmp_ne (tgt := 454) hx hb dL_act_447 (by decide) (fun c_447 => ?_) (fun c_447 => ?_)
              · exact absurd c_439 c_447
              · refine lv_iconst (v := 1) hx hb dL_act_450 (by decide) ?_
                refine lv_goto (tgt := 455) hx hb dL_act_451 (by decide) ?_
                refine W.widen (k := 3) (n := 69) (by omega) (by omega) ?_
                exact W.zret (v := 1) hx hb hr (by decide) (fun t ht hW => ⟨⟨1, (), rfl, rfl, show Bk D z cG a A F (b 0) n lv t.heap by rw [ht]; exact ⟨b, rp, rw, rm, lv, lk, pu, fa, he, n, nv, upd du x201 (sp_not (du x201)), ta, w, mp, mi, k, nt, fu, re, rfl, (iv_turnDuty hIV (not_01 (hdu x201 hx201))), ⟨Nat.le_refl _, fun j _ h => h⟩, hP, hD⟩⟩, hS.F ht⟩) hS.2.2 dL_act_455
          have t456 : W p l e ({ frames := 4, cells := 3, slots := 69, locals := 90 } : Room) s m ([.ref (a 0), .ref (b 0), .int v] : List Value).toArray below meth c H locs (0) (0) (MQ below (va_Qi (fun (r : Int32) (u : Unit) => r = 1) (fun u t9 => Bk D z cG a A F (b 0) n lv t9.heap) A) ([.ref (a 0), .ref (b 0), .int v] : List Value).toArray s 3 69 A) (F0 m 456 ls []) := by
            refine lv_aload hx hb dL_act_456 (lv_at hl 1 rfl) ?_
            refine lv_iconst (v := 0) hx hb dL_act_458 (by decide) ?_
            refine ql_lv x182 hC hK hP hi nI_0.symm dL_act_459 ?_
            refine lv_if_eq (tgt := 471) hx hb dL_act_460 (by decide) (fun c_460 => ?_) (fun c_460 => ?_)
            · refine lv_iconst (v := 1) hx hb dL_act_471 (by decide) ?_
              refine W.widen (k := 3) (n := 69) (by omega) (by omega) ?_
              exact W.zret (v := 1) hx hb hr (by decide) (fun t ht hW => ⟨⟨1, (), rfl, rfl, show Bk D z cG a A F (b 0) n lv t.heap by rw [ht]; exact ⟨b, rp, rw, rm, lv, lk, pu, fa, he, n, nv, du, ta, w, mp, mi, k, nt, fu, re, rfl, hIV, ⟨Nat.le_refl _, fun j _ h => h⟩, hP, hD⟩⟩, hS.F ht⟩) hS.2.2 dL_act_472
            · refine lv_iload_n hx hb dL_act_463 rfl (lv_at hl 8 rfl) ?_
              refine lv_iconst (v := 3) hx hb dL_act_464 (by decide) ?_
              refine kL_below (n := 3) hC mM_L_18 hl.1 ⟨Nat.le_of_ble_eq_true rfl, Nat.le_of_ble_eq_true rfl⟩ ⟨(Nat.zero_le _), (Nat.zero_le _)⟩ (Nat.le_of_ble_eq_true rfl) rfl (by omega) (by omega) dL_act_465 ?_
              have hx465 : bel v 3 < 3 := bel_lt (by omega)
              obtain ⟨x465, ex465⟩ : ∃ x9 : Nat, x9 = bel v 3 := ⟨_, rfl⟩
              rw [← ex465] at hx465
              rw [← ex465]
              refine lv_if_le (tgt := 473) hx hb dL_act_468 (by decide) (fun c_468 => ?_) (fun c_468 => ?_)
              · have nc_468 : x465 ≤ 0 := nn_le (by omega) c_468
                refine lv_aload_n hx hb dL_act_473 rfl (lv_at hl 6 rfl) ?_
                refine lv_iload hx hb dL_act_474 (lv_at hl 2 rfl) ?_
                refine kx_X0_hit hC mM_L_55 hK hP hD hS hA hl.1 ⟨Nat.le_of_ble_eq_true rfl, Nat.le_of_ble_eq_true rfl⟩ ⟨(Nat.zero_le _), (Nat.zero_le _)⟩ (Nat.le_of_ble_eq_true rfl) rfl (by first | assumption | omega) (by first | assumption | omega) c_460 dL_act_476 (fun H locs hP hD hS => ?_)
                refine lv_aload_n hx hb dL_act_479 rfl (lv_at hl 7 rfl) ?_
                refine lv_iload hx hb dL_act_480 (lv_at hl 2 rfl) ?_
                refine k_X1_hit hC mM_L_58 hK hG hP hD hS hA hl.1 ⟨Nat.le_of_ble_eq_true rfl, Nat.le_of_ble_eq_true rfl⟩ ⟨(by show _ ≤ 3; omega), (by show _ ≤ 69; omega)⟩ (Nat.le_of_ble_eq_true rfl) hi hn hH h01 dL_act_482 (fun H locs hP hD hS => ?_)
                refine lv_icmp_ne (tgt := 492) hx hb dL_act_485 (by decide) (fun c_485 => ?_) (fun c_485 => ?_)
                · exact absurd (heir_upd hn _ _) c_485
                · refine lv_iconst (v := 1) hx hb dL_act_488 (by decide) ?_
                  refine lv_goto (tgt := 493) hx hb dL_act_489 (by decide) ?_
                  refine W.widen (k := 3) (n := 69) (by omega) (by omega) ?_
                  exact W.zret (v := 1) hx hb hr (by decide) (fun t ht hW => ⟨⟨1, (), rfl, rfl, show Bk D z cG a A F (b 0) n lv t.heap by rw [ht]; exact ⟨b, rp, rw, rm, upd lv x182 0, if sp_isP n (sp_heir he (upd lv x182 0) n x182 n (he x182)) = 0 then lk else upd lk (sp_heir he (upd lv x182 0) n x182 n (he x182)).toNatClampNeg (imin 99 (lk (sp_heir he (upd lv x182 0) n x182 n (he x182)).toNatClampNeg + lk x182 / 2)), upd (if sp_isP n (sp_heir he (upd lv x182 0) n x182 n (he x182)) = 0 then pu else upd pu (sp_heir he (upd lv x182 0) n x182 n (he x182)).toNatClampNeg (pu (sp_heir he (upd lv x182 0) n x182 n (he x182)).toNatClampNeg + pu x182)) x182 0, upd fa x182 0, he, n, nv, du, ta, w, mp, mi, k, nt, if sp_isP n (sp_heir he (upd lv x182 0) n x182 n (he x182)) = 0 then fu + pu x182 else fu, re, rfl, (iv_hit hIV hi), ⟨Nat.le_refl _, gone_upd⟩, hP, hD⟩⟩, hS.F ht⟩) hS.2.2 dL_act_493
              · have nc_468 : 0 < x465 := nn_nle (by omega) c_468
                refine lv_iconst (v := 1) hx hb dL_act_471 (by decide) ?_
                refine W.widen (k := 3) (n := 69) (by omega) (by omega) ?_
                exact W.zret (v := 1) hx hb hr (by decide) (fun t ht hW => ⟨⟨1, (), rfl, rfl, show Bk D z cG a A F (b 0) n lv t.heap by rw [ht]; exact ⟨b, rp, rw, rm, lv, lk, pu, fa, he, n, nv, du, ta, w, mp, mi, k, nt, fu, re, rfl, hIV, ⟨Nat.le_refl _, fun j _ h => h⟩, hP, hD⟩⟩, hS.F ht⟩) hS.2.2 dL_act_472
          have t494 : W p l e ({ frames := 4, cells := 3, slots := 69, locals := 90 } : Room) s m ([.ref (a 0), .ref (b 0), .int v] : List Value).toArray below meth c H locs (0) (0) (MQ below (va_Qi (fun (r : Int32) (u : Unit) => r = 1) (fun u t9 => Bk D z cG a A F (b 0) n lv t9.heap) A) ([.ref (a 0), .ref (b 0), .int v] : List Value).toArray s 3 69 A) (F0 m 494 ls []) := by
            refine lv_iconst (v := 1) hx hb dL_act_494 (by decide) ?_
            refine lv_iload_n hx hb dL_act_495 rfl (lv_at hl 8 rfl) ?_
            refine lv_iconst (v := 2) hx hb dL_act_496 (by decide) ?_
            refine lv_ishr hx hb dL_act_497 ?_
            refine lv_iload_n hx hb dL_act_498 rfl (lv_at hl 8 rfl) ?_
            refine lv_bipush (v := 8) hx hb dL_act_499 (by decide) ?_
            refine kL_below (n := 8) hC mM_L_18 hl.1 ⟨Nat.le_of_ble_eq_true rfl, Nat.le_of_ble_eq_true rfl⟩ ⟨(Nat.zero_le _), (Nat.zero_le _)⟩ (Nat.le_of_ble_eq_true rfl) rfl (by omega) (by omega) dL_act_501 ?_
            have hx501 : bel v 8 < 8 := bel_lt (by omega)
            obtain ⟨x501, ex501⟩ : ∃ x9 : Nat, x9 = bel v 8 := ⟨_, rfl⟩
            rw [← ex501] at hx501
            rw [← ex501]
            refine lv_if_ne (tgt := 512) hx hb dL_act_504 (by decide) (fun c_504 => ?_) (fun c_504 => ?_)
            · have nc_504 : ¬ x501 = 0 := nn_ne (by omega) c_504
              refine lv_iconst (v := 3) hx hb dL_act_512 (by decide) ?_
              refine kL_below (n := 3) hC mM_L_18 hl.1 ⟨Nat.le_of_ble_eq_true rfl, Nat.le_of_ble_eq_true rfl⟩ ⟨(Nat.zero_le _), (Nat.zero_le _)⟩ (Nat.le_of_ble_eq_true rfl) rfl (by omega) (by omega) dL_act_513 ?_
              have hx513 : bel (v >>> (2 &&& 31)) 3 < 3 := bel_lt (by omega)
              obtain ⟨x513, ex513⟩ : ∃ x9 : Nat, x9 = bel (v >>> (2 &&& 31)) 3 := ⟨_, rfl⟩
              rw [← ex513] at hx513
              rw [← ex513]
              refine lv_iadd hx hb dL_act_516 ?_
              rw [show (1 + (nI x513) : Int32) = nI (1 + x513) from (nI_add 1 x513)]
              refine lv_istore (lv' := [(12, .int (nI (1 + x513))), (8, .int (nI x201)), (7, .ref (rp x182)), (6, .int (nI x182)), (5, .int (nI x19)), (4, .int (nI w)), (3, .int (nI n)), (0, .ref (a 0)), (1, .ref (b 0)), (2, .int v)]) hx hb dL_act_517 hl (by decide) rfl (fun ls hl => ?_)
              refine lv_aload_n hx hb dL_act_519 rfl (lv_at hl 7 rfl) ?_
              refine lv_iload hx hb dL_act_520 (lv_at hl 0 rfl) ?_
              refine kx_X0_pass hC mM_L_59 hK hP hD hS hA hl.1 ⟨Nat.le_of_ble_eq_true rfl, Nat.le_of_ble_eq_true rfl⟩ ⟨(Nat.zero_le _), (Nat.zero_le _)⟩ (Nat.le_of_ble_eq_true rfl) rfl (by omega) (by omega) (by first | assumption | omega) (by first | assumption | omega) dL_act_522 (fun H locs hP hD hS => ?_)
              refine lv_aload_n hx hb dL_act_525 rfl (lv_at hl 8 rfl) ?_
              refine lv_iload hx hb dL_act_526 (lv_at hl 0 rfl) ?_
              refine k_X1_pass hC mM_L_62 hK hG hP hD hS hA hl.1 ⟨Nat.le_of_ble_eq_true rfl, Nat.le_of_ble_eq_true rfl⟩ ⟨(by show _ ≤ 3; omega), (by show _ ≤ 69; omega)⟩ (Nat.le_of_ble_eq_true rfl) (by omega) hn hw h01 hlk hdu dL_act_528 (fun H locs hP hD hS => ?_)
              refine lv_icmp_ne (tgt := 538) hx hb dL_act_531 (by decide) (fun c_531 => ?_) (fun c_531 => ?_)
              · exact absurd rfl c_531
              · refine lv_iconst (v := 1) hx hb dL_act_534 (by decide) ?_
                refine lv_goto (tgt := 539) hx hb dL_act_535 (by decide) ?_
                refine W.widen (k := 3) (n := 69) (by omega) (by omega) ?_
                exact W.zret (v := 1) hx hb hr (by decide) (fun t ht hW => ⟨⟨1, (), rfl, rfl, show Bk D z cG a A F (b 0) n lv t.heap by rw [ht]; exact ⟨b, rp, rw, rm, lv, sp_pl lv n lk (1 + x513), pu, fa, he, n, sp_pn du w nv (1 + x513), du, ta, w, mp, mi, k, nt + nI (1 + x513), fu, re, rfl, (iv_pass hIV _), ⟨Nat.le_refl _, fun j _ h => h⟩, hP, hD⟩⟩, hS.F ht⟩) hS.2.2 dL_act_539
            · have nc_504 : x501 = 0 := nn_eq (by omega) c_504
              refine lv_bipush (v := 30) hx hb dL_act_507 (by decide) ?_
              refine lv_goto (tgt := 513) hx hb dL_act_509 (by decide) ?_
              refine kL_below (n := 30) hC mM_L_18 hl.1 ⟨Nat.le_of_ble_eq_true rfl, Nat.le_of_ble_eq_true rfl⟩ ⟨(Nat.zero_le _), (Nat.zero_le _)⟩ (Nat.le_of_ble_eq_true rfl) rfl (by omega) (by omega) dL_act_513 ?_
              have hx513 : bel (v >>> (2 &&& 31)) 30 < 30 := bel_lt (by omega)
              obtain ⟨x513, ex513⟩ : ∃ x9 : Nat, x9 = bel (v >>> (2 &&& 31)) 30 := ⟨_, rfl⟩
              rw [← ex513] at hx513
              rw [← ex513]
              refine lv_iadd hx hb dL_act_516 ?_
              rw [show (1 + (nI x513) : Int32) = nI (1 + x513) from (nI_add 1 x513)]
              refine lv_istore (lv' := [(12, .int (nI (1 + x513))), (8, .int (nI x201)), (7, .ref (rp x182)), (6, .int (nI x182)), (5, .int (nI x19)), (4, .int (nI w)), (3, .int (nI n)), (0, .ref (a 0)), (1, .ref (b 0)), (2, .int v)]) hx hb dL_act_517 hl (by decide) rfl (fun ls hl => ?_)
              refine lv_aload_n hx hb dL_act_519 rfl (lv_at hl 7 rfl) ?_
              refine lv_iload hx hb dL_act_520 (lv_at hl 0 rfl) ?_
              refine kx_X0_pass hC mM_L_59 hK hP hD hS hA hl.1 ⟨Nat.le_of_ble_eq_true rfl, Nat.le_of_ble_eq_true rfl⟩ ⟨(Nat.zero_le _), (Nat.zero_le _)⟩ (Nat.le_of_ble_eq_true rfl) rfl (by omega) (by omega) (by first | assumption | omega) (by first | assumption | omega) dL_act_522 (fun H locs hP hD hS => ?_)
              refine lv_aload_n hx hb dL_act_525 rfl (lv_at hl 8 rfl) ?_
              refine lv_iload hx hb dL_act_526 (lv_at hl 0 rfl) ?_
              refine k_X1_pass hC mM_L_62 hK hG hP hD hS hA hl.1 ⟨Nat.le_of_ble_eq_true rfl, Nat.le_of_ble_eq_true rfl⟩ ⟨(by show _ ≤ 3; omega), (by show _ ≤ 69; omega)⟩ (Nat.le_of_ble_eq_true rfl) (by omega) hn hw h01 hlk hdu dL_act_528 (fun H locs hP hD hS => ?_)
              refine lv_icmp_ne (tgt := 538) hx hb dL_act_531 (by decide) (fun c_531 => ?_) (fun c_531 => ?_)
              · exact absurd rfl c_531
              · refine lv_iconst (v := 1) hx hb dL_act_534 (by decide) ?_
                refine lv_goto (tgt := 539) hx hb dL_act_535 (by decide) ?_
                refine W.widen (k := 3) (n := 69) (by omega) (by omega) ?_
                exact W.zret (v := 1) hx hb hr (by decide) (fun t ht hW => ⟨⟨1, (), rfl, rfl, show Bk D z cG a A F (b 0) n lv t.heap by rw [ht]; exact ⟨b, rp, rw, rm, lv, sp_pl lv n lk (1 + x513), pu, fa, he, n, sp_pn du w nv (1 + x513), du, ta, w, mp, mi, k, nt + nI (1 + x513), fu, re, rfl, (iv_pass hIV _), ⟨Nat.le_refl _, fun j _ h => h⟩, hP, hD⟩⟩, hS.F ht⟩) hS.2.2 dL_act_539
          have t540 : W p l e ({ frames := 4, cells := 3, slots := 69, locals := 90 } : Room) s m ([.ref (a 0), .ref (b 0), .int v] : List Value).toArray below meth c H locs (0) (0) (MQ below (va_Qi (fun (r : Int32) (u : Unit) => r = 1) (fun u t9 => Bk D z cG a A F (b 0) n lv t9.heap) A) ([.ref (a 0), .ref (b 0), .int v] : List Value).toArray s 3 69 A) (F0 m 540 ls []) := by
            refine lv_iconst (v := 1) hx hb dL_act_540 (by decide) ?_
            refine lv_iload_n hx hb dL_act_541 rfl (lv_at hl 8 rfl) ?_
            refine lv_iconst (v := 3) hx hb dL_act_542 (by decide) ?_
            refine lv_ishr hx hb dL_act_543 ?_
            refine lv_iload_n hx hb dL_act_544 rfl (lv_at hl 8 rfl) ?_
            refine lv_iconst (v := 3) hx hb dL_act_545 (by decide) ?_
            refine kL_below (n := 3) hC mM_L_18 hl.1 ⟨Nat.le_of_ble_eq_true rfl, Nat.le_of_ble_eq_true rfl⟩ ⟨(Nat.zero_le _), (Nat.zero_le _)⟩ (Nat.le_of_ble_eq_true rfl) rfl (by omega) (by omega) dL_act_546 ?_
            have hx546 : bel v 3 < 3 := bel_lt (by omega)
            obtain ⟨x546, ex546⟩ : ∃ x9 : Nat, x9 = bel v 3 := ⟨_, rfl⟩
            rw [← ex546] at hx546
            rw [← ex546]
            refine lv_if_ne (tgt := 557) hx hb dL_act_549 (by decide) (fun c_549 => ?_) (fun c_549 => ?_)
            · have nc_549 : ¬ x546 = 0 := nn_ne (by omega) c_549
              refine lv_bipush (v := 30) hx hb dL_act_557 (by decide) ?_
              refine kL_below (n := 30) hC mM_L_18 hl.1 ⟨Nat.le_of_ble_eq_true rfl, Nat.le_of_ble_eq_true rfl⟩ ⟨(Nat.zero_le _), (Nat.zero_le _)⟩ (Nat.le_of_ble_eq_true rfl) rfl (by omega) (by omega) dL_act_559 ?_
              have hx559 : bel (v >>> (3 &&& 31)) 30 < 30 := bel_lt (by omega)
              obtain ⟨x559, ex559⟩ : ∃ x9 : Nat, x9 = bel (v >>> (3 &&& 31)) 30 := ⟨_, rfl⟩
              rw [← ex559] at hx559
              rw [← ex559]
              refine lv_iadd hx hb dL_act_562 ?_
              rw [show (1 + (nI x559) : Int32) = nI (1 + x559) from (nI_add 1 x559)]
              refine lv_istore (lv' := [(13, .int (nI (1 + x559))), (8, .int (nI x201)), (7, .ref (rp x182)), (6, .int (nI x182)), (5, .int (nI x19)), (4, .int (nI w)), (3, .int (nI n)), (0, .ref (a 0)), (1, .ref (b 0)), (2, .int v)]) hx hb dL_act_563 hl (by decide) rfl (fun ls hl => ?_)
              refine lv_aload hx hb dL_act_565 (lv_at hl 2 rfl) ?_
              refine lv_iconst (v := 0) hx hb dL_act_567 (by decide) ?_
              refine ql_lv x182 hC hK hP hi nI_0.symm dL_act_568 ?_
              refine lv_if_eq (tgt := 582) hx hb dL_act_569 (by decide) (fun c_569 => ?_) (fun c_569 => ?_)
              · refine lv_iconst (v := 1) hx hb dL_act_582 (by decide) ?_
                refine W.widen (k := 3) (n := 69) (by omega) (by omega) ?_
                exact W.zret (v := 1) hx hb hr (by decide) (fun t ht hW => ⟨⟨1, (), rfl, rfl, show Bk D z cG a A F (b 0) n lv t.heap by rw [ht]; exact ⟨b, rp, rw, rm, lv, lk, pu, fa, he, n, nv, du, ta, w, mp, mi, k, nt, fu, re, rfl, hIV, ⟨Nat.le_refl _, fun j _ h => h⟩, hP, hD⟩⟩, hS.F ht⟩) hS.2.2 dL_act_583
              · refine lv_aload_n hx hb dL_act_572 rfl (lv_at hl 8 rfl) ?_
                refine qg_ms hC hK hP mF_RL_63 dL_act_573 ?_
                refine qlen_m hC hK hP hG dL_act_576 ?_
                refine lv_bipush (v := 60) hx hb dL_act_577 (by decide) ?_
                refine lv_icmp_ne (tgt := 584) hx hb dL_act_579 (by decide) (fun c_579 => ?_) (fun c_579 => ?_)
                · have nc_579 : ¬ k = 60 := nn_ne (by omega) c_579
                  have nk : k < 60 := by have h9 : ¬ k = 60 := nc_579; omega
                  refine lv_aload_n hx hb dL_act_584 rfl (lv_at hl 7 rfl) ?_
                  refine lv_iload hx hb dL_act_585 (lv_at hl 3 rfl) ?_
                  refine lv_iload hx hb dL_act_587 (lv_at hl 0 rfl) ?_
                  refine kx_X0_miss hC mM_L_66 hK hP hD hS hA hl.1 ⟨Nat.le_of_ble_eq_true rfl, Nat.le_of_ble_eq_true rfl⟩ ⟨(Nat.zero_le _), (Nat.zero_le _)⟩ (Nat.le_of_ble_eq_true rfl) rfl (by first | assumption | omega) (by first | assumption | omega) (by first | assumption | omega) nk (nle1 (by omega) (by omega)) (le_c (b := 60) (by omega) (by decide)) c_569 dL_act_589 (fun H locs hP hD hS => ?_)
                  rw [show sp_mid du nv (nI (1 + x559)) ta w = sp_mid du nv (nI (1 + x559)) (fun _ => 0) w from mid_eq] at hP hD ⊢
                  refine lv_aload_n hx hb dL_act_592 rfl (lv_at hl 8 rfl) ?_
                  refine lv_iload hx hb dL_act_593 (lv_at hl 3 rfl) ?_
                  refine lv_iload hx hb dL_act_595 (lv_at hl 0 rfl) ?_
                  refine k_X1_miss hC mM_L_69 hK hG hO hP hD hS hA hl.1 ⟨Nat.le_of_ble_eq_true rfl, Nat.le_of_ble_eq_true rfl⟩ ⟨(by show _ ≤ 3; omega), (by show _ ≤ 69; omega)⟩ (Nat.le_of_ble_eq_true rfl) hi hn hw nk c_569 hdu dL_act_597 (fun u9 H locs hP hD hS => ?_)
                  refine lv_icmp_ne (tgt := 607) hx hb dL_act_600 (by decide) (fun c_600 => ?_) (fun c_600 => ?_)
                  · exact absurd rfl c_600
                  · refine lv_iconst (v := 1) hx hb dL_act_603 (by decide) ?_
                    refine lv_goto (tgt := 608) hx hb dL_act_604 (by decide) ?_
                    refine W.widen (k := 3) (n := 69) (by omega) (by omega) ?_
                    exact W.zret (v := 1) hx hb hr (by decide) (fun t ht hW => ⟨⟨1, (), rfl, rfl, show Bk D z cG a A F (b 0) n lv t.heap by rw [ht]; exact ⟨va_up b 3 u9.1, rp, rw, va_up rm k u9.2, lv, upd lk x182 (imax 0 (lk x182 - (60 - (nI (1 + x559))) / 10)), if sp_uses (lv x182) (fa x182) (sp_mid du nv (nI (1 + x559)) (fun _ => 0) w) = 0 then pu else upd pu x182 (pu x182 + sp_coins (lv x182) (fa x182) (lk x182) fu (sp_mid du nv (nI (1 + x559)) (fun _ => 0) w)), if sp_uses (lv x182) (fa x182) (sp_mid du nv (nI (1 + x559)) (fun _ => 0) w) = 0 then fa else upd fa x182 (fa x182 - 1), he, n, sp_fr du (sp_loss (nI (1 + x559))) nv w, du, sp_tarr du nv (nI (1 + x559)) ta w, w, upd mp k (nI x182), upd mi k (sp_mid du nv (nI (1 + x559)) (fun _ => 0) w), k + 1, nt, if sp_uses (lv x182) (fa x182) (sp_mid du nv (nI (1 + x559)) (fun _ => 0) w) = 0 then fu else fu - sp_coins (lv x182) (fa x182) (lk x182) fu (sp_mid du nv (nI (1 + x559)) (fun _ => 0) w), if sp_uses (lv x182) (fa x182) (sp_mid du nv (nI (1 + x559)) (fun _ => 0) w) = 0 then re else re + sp_coins (lv x182) (fa x182) (lk x182) fu (sp_mid du nv (nI (1 + x559)) (fun _ => 0) w), rfl, (iv_miss hIV hi (by omega) (by omega) nk c_569 rfl), ⟨Nat.le_refl _, fun j _ h => h⟩, hP, hD⟩⟩, hS.F ht⟩) hS.2.2 dL_act_608
                · have nc_579 : k = 60 := nn_eq (by omega) c_579
                  refine lv_iconst (v := 1) hx hb dL_act_582 (by decide) ?_
                  refine W.widen (k := 3) (n := 69) (by omega) (by omega) ?_
                  exact W.zret (v := 1) hx hb hr (by decide) (fun t ht hW => ⟨⟨1, (), rfl, rfl, show Bk D z cG a A F (b 0) n lv t.heap by rw [ht]; exact ⟨b, rp, rw, rm, lv, lk, pu, fa, he, n, nv, du, ta, w, mp, mi, k, nt, fu, re, rfl, hIV, ⟨Nat.le_refl _, fun j _ h => h⟩, hP, hD⟩⟩, hS.F ht⟩) hS.2.2 dL_act_583
            · have nc_549 : x546 = 0 := nn_eq (by omega) c_549
              refine lv_bipush (v := 60) hx hb dL_act_552 (by decide) ?_
              refine lv_goto (tgt := 559) hx hb dL_act_554 (by decide) ?_
              refine kL_below (n := 60) hC mM_L_18 hl.1 ⟨Nat.le_of_ble_eq_true rfl, Nat.le_of_ble_eq_true rfl⟩ ⟨(Nat.zero_le _), (Nat.zero_le _)⟩ (Nat.le_of_ble_eq_true rfl) rfl (by omega) (by omega) dL_act_559 ?_
              have hx559 : bel (v >>> (3 &&& 31)) 60 < 60 := bel_lt (by omega)
              obtain ⟨x559, ex559⟩ : ∃ x9 : Nat, x9 = bel (v >>> (3 &&& 31)) 60 := ⟨_, rfl⟩
              rw [← ex559] at hx559
              rw [← ex559]
              refine lv_iadd hx hb dL_act_562 ?_
              rw [show (1 + (nI x559) : Int32) = nI (1 + x559) from (nI_add 1 x559)]
              refine lv_istore (lv' := [(13, .int (nI (1 + x559))), (8, .int (nI x201)), (7, .ref (rp x182)), (6, .int (nI x182)), (5, .int (nI x19)), (4, .int (nI w)), (3, .int (nI n)), (0, .ref (a 0)), (1, .ref (b 0)), (2, .int v)]) hx hb dL_act_563 hl (by decide) rfl (fun ls hl => ?_)
              refine lv_aload hx hb dL_act_565 (lv_at hl 2 rfl) ?_
              refine lv_iconst (v := 0) hx hb dL_act_567 (by decide) ?_
              refine ql_lv x182 hC hK hP hi nI_0.symm dL_act_568 ?_
              refine lv_if_eq (tgt := 582) hx hb dL_act_569 (by decide) (fun c_569 => ?_) (fun c_569 => ?_)
              · refine lv_iconst (v := 1) hx hb dL_act_582 (by decide) ?_
                refine W.widen (k := 3) (n := 69) (by omega) (by omega) ?_
                exact W.zret (v := 1) hx hb hr (by decide) (fun t ht hW => ⟨⟨1, (), rfl, rfl, show Bk D z cG a A F (b 0) n lv t.heap by rw [ht]; exact ⟨b, rp, rw, rm, lv, lk, pu, fa, he, n, nv, du, ta, w, mp, mi, k, nt, fu, re, rfl, hIV, ⟨Nat.le_refl _, fun j _ h => h⟩, hP, hD⟩⟩, hS.F ht⟩) hS.2.2 dL_act_583
              · refine lv_aload_n hx hb dL_act_572 rfl (lv_at hl 8 rfl) ?_
                refine qg_ms hC hK hP mF_RL_63 dL_act_573 ?_
                refine qlen_m hC hK hP hG dL_act_576 ?_
                refine lv_bipush (v := 60) hx hb dL_act_577 (by decide) ?_
                refine lv_icmp_ne (tgt := 584) hx hb dL_act_579 (by decide) (fun c_579 => ?_) (fun c_579 => ?_)
                · have nc_579 : ¬ k = 60 := nn_ne (by omega) c_579
                  have nk : k < 60 := by have h9 : ¬ k = 60 := nc_579; omega
                  refine lv_aload_n hx hb dL_act_584 rfl (lv_at hl 7 rfl) ?_
                  refine lv_iload hx hb dL_act_585 (lv_at hl 3 rfl) ?_
                  refine lv_iload hx hb dL_act_587 (lv_at hl 0 rfl) ?_
                  refine kx_X0_miss hC mM_L_66 hK hP hD hS hA hl.1 ⟨Nat.le_of_ble_eq_true rfl, Nat.le_of_ble_eq_true rfl⟩ ⟨(Nat.zero_le _), (Nat.zero_le _)⟩ (Nat.le_of_ble_eq_true rfl) rfl (by first | assumption | omega) (by first | assumption | omega) (by first | assumption | omega) nk (nle1 (by omega) (by omega)) (le_c (b := 60) (by omega) (by decide)) c_569 dL_act_589 (fun H locs hP hD hS => ?_)
                  rw [show sp_mid du nv (nI (1 + x559)) ta w = sp_mid du nv (nI (1 + x559)) (fun _ => 0) w from mid_eq] at hP hD ⊢
                  refine lv_aload_n hx hb dL_act_592 rfl (lv_at hl 8 rfl) ?_
                  refine lv_iload hx hb dL_act_593 (lv_at hl 3 rfl) ?_
                  refine lv_iload hx hb dL_act_595 (lv_at hl 0 rfl) ?_
                  refine k_X1_miss hC mM_L_69 hK hG hO hP hD hS hA hl.1 ⟨Nat.le_of_ble_eq_true rfl, Nat.le_of_ble_eq_true rfl⟩ ⟨(by show _ ≤ 3; omega), (by show _ ≤ 69; omega)⟩ (Nat.le_of_ble_eq_true rfl) hi hn hw nk c_569 hdu dL_act_597 (fun u9 H locs hP hD hS => ?_)
                  refine lv_icmp_ne (tgt := 607) hx hb dL_act_600 (by decide) (fun c_600 => ?_) (fun c_600 => ?_)
                  · exact absurd rfl c_600
                  · refine lv_iconst (v := 1) hx hb dL_act_603 (by decide) ?_
                    refine lv_goto (tgt := 608) hx hb dL_act_604 (by decide) ?_
                    refine W.widen (k := 3) (n := 69) (by omega) (by omega) ?_
                    exact W.zret (v := 1) hx hb hr (by decide) (fun t ht hW => ⟨⟨1, (), rfl, rfl, show Bk D z cG a A F (b 0) n lv t.heap by rw [ht]; exact ⟨va_up b 3 u9.1, rp, rw, va_up rm k u9.2, lv, upd lk x182 (imax 0 (lk x182 - (60 - (nI (1 + x559))) / 10)), if sp_uses (lv x182) (fa x182) (sp_mid du nv (nI (1 + x559)) (fun _ => 0) w) = 0 then pu else upd pu x182 (pu x182 + sp_coins (lv x182) (fa x182) (lk x182) fu (sp_mid du nv (nI (1 + x559)) (fun _ => 0) w)), if sp_uses (lv x182) (fa x182) (sp_mid du nv (nI (1 + x559)) (fun _ => 0) w) = 0 then fa else upd fa x182 (fa x182 - 1), he, n, sp_fr du (sp_loss (nI (1 + x559))) nv w, du, sp_tarr du nv (nI (1 + x559)) ta w, w, upd mp k (nI x182), upd mi k (sp_mid du nv (nI (1 + x559)) (fun _ => 0) w), k + 1, nt, if sp_uses (lv x182) (fa x182) (sp_mid du nv (nI (1 + x559)) (fun _ => 0) w) = 0 then fu else fu - sp_coins (lv x182) (fa x182) (lk x182) fu (sp_mid du nv (nI (1 + x559)) (fun _ => 0) w), if sp_uses (lv x182) (fa x182) (sp_mid du nv (nI (1 + x559)) (fun _ => 0) w) = 0 then re else re + sp_coins (lv x182) (fa x182) (lk x182) fu (sp_mid du nv (nI (1 + x559)) (fun _ => 0) w), rfl, (iv_miss hIV hi (by omega) (by omega) nk c_569 rfl), ⟨Nat.le_refl _, fun j _ h => h⟩, hP, hD⟩⟩, hS.F ht⟩) hS.2.2 dL_act_608
                · have nc_579 : k = 60 := nn_eq (by omega) c_579
                  refine lv_iconst (v := 1) hx hb dL_act_582 (by decide) ?_
                  refine W.widen (k := 3) (n := 69) (by omega) (by omega) ?_
                  exact W.zret (v := 1) hx hb hr (by decide) (fun t ht hW => ⟨⟨1, (), rfl, rfl, show Bk D z cG a A F (b 0) n lv t.heap by rw [ht]; exact ⟨b, rp, rw, rm, lv, lk, pu, fa, he, n, nv, du, ta, w, mp, mi, k, nt, fu, re, rfl, hIV, ⟨Nat.le_refl _, fun j _ h => h⟩, hP, hD⟩⟩, hS.F ht⟩) hS.2.2 dL_act_583
          by_cases h312 : 3 ≤ x19 ∧ x19 ≤ 12
          · rcases (show x19 = 3 ∨ x19 = 4 ∨ x19 = 5 ∨ x19 = 6 ∨ x19 = 7 ∨ x19 = 8 ∨ x19 = 9 ∨ x19 = 10 ∨ x19 = 11 ∨ x19 = 12 by omega) with h3 | h3 | h3 | h3 | h3 | h3 | h3 | h3 | h3 | h3
            all_goals rw [h3]
            · exact lv_tableIn (x := nI 3) (off := 56) (tgt := 264) hx hb dL_act_208 (by decide +kernel) (by decide +kernel) (by decide +kernel) (by decide) t264
            · exact lv_tableIn (x := nI 4) (off := 56) (tgt := 264) hx hb dL_act_208 (by decide +kernel) (by decide +kernel) (by decide +kernel) (by decide) t264
            · exact lv_tableIn (x := nI 5) (off := 116) (tgt := 324) hx hb dL_act_208 (by decide +kernel) (by decide +kernel) (by decide +kernel) (by decide) t324
            · exact lv_tableIn (x := nI 6) (off := 116) (tgt := 324) hx hb dL_act_208 (by decide +kernel) (by decide +kernel) (by decide +kernel) (by decide) t324
            · exact lv_tableIn (x := nI 7) (off := 116) (tgt := 324) hx hb dL_act_208 (by decide +kernel) (by decide +kernel) (by decide +kernel) (by decide) t324
            · exact lv_tableIn (x := nI 8) (off := 195) (tgt := 403) hx hb dL_act_208 (by decide +kernel) (by decide +kernel) (by decide +kernel) (by decide) t403
            · exact lv_tableIn (x := nI 9) (off := 248) (tgt := 456) hx hb dL_act_208 (by decide +kernel) (by decide +kernel) (by decide +kernel) (by decide) t456
            · exact lv_tableIn (x := nI 10) (off := 286) (tgt := 494) hx hb dL_act_208 (by decide +kernel) (by decide +kernel) (by decide +kernel) (by decide) t494
            · exact lv_tableIn (x := nI 11) (off := 286) (tgt := 494) hx hb dL_act_208 (by decide +kernel) (by decide +kernel) (by decide +kernel) (by decide) t494
            · exact lv_tableIn (x := nI 12) (off := 286) (tgt := 494) hx hb dL_act_208 (by decide +kernel) (by decide +kernel) (by decide +kernel) (by decide) t494
          · exact lv_tableOut (x := nI x19) (tgt := 540) hx hb dL_act_208 (by rw [nI_toInt (by omega)]; omega) (by decide) t540
        · have nc_114 : x19 = 2 := nn_eq (by omega) c_114
          refine lv_iload hx hb dL_act_117 (lv_at hl 1 rfl) ?_
          refine lv_bipush (v := 6) hx hb dL_act_119 (by decide) ?_
          refine lv_icmp_ne (tgt := 126) hx hb dL_act_121 (by decide) (fun c_121 => ?_) (fun c_121 => ?_)
          · have nc_121 : ¬ w = 6 := nn_ne (by omega) c_121
            refine lv_aload_n hx hb dL_act_126 rfl (lv_at hl 4 rfl) ?_
            refine lv_aload_n hx hb dL_act_127 rfl (lv_at hl 4 rfl) ?_
            refine qg_ws hC hK hP mF_RL_15 dL_act_128 ?_
            refine lv_iconst (v := 2) hx hb dL_act_131 (by decide) ?_
            refine qn_i hC hK hP hD hS hA (N := 2) rfl (by omega) (by show _ ≤ 3; omega) (by show _ ≤ 69; omega) dL_act_132 (fun q132 H hP hD hS => ?_)
            have hP : va_P D vwCl (((q132, .inl (z.1, 2, .inl (fun _ => 0))) :: F) ++ (qW z cG b rp rw rm lv lk pu fa he n nv du w mp mi k nt fu re ++ xW z a lv lk pu fa he n nv du ta w mp mi k nt fu re)) H := hP
            have hD : va_D A (((q132, .inl (z.1, 2, .inl (fun _ => 0))) :: F) ++ (qW z cG b rp rw rm lv lk pu fa he n nv du w mp mi k nt fu re ++ xW z a lv lk pu fa he n nv du ta w mp mi k nt fu re)) := hD
            refine lv_dup hx hb dL_act_134 rfl ?_
            refine lv_iconst (v := 0) hx hb dL_act_135 (by decide) ?_
            refine lv_iload_n hx hb dL_act_136 rfl (lv_at hl 5 rfl) ?_
            refine lv_iconst (v := 2) hx hb dL_act_137 (by decide) ?_
            refine lv_ishr hx hb dL_act_138 ?_
            refine lv_bipush (v := 10) hx hb dL_act_139 (by decide) ?_
            refine kL_below (n := 10) hC mM_L_18 hl.1 ⟨Nat.le_of_ble_eq_true rfl, Nat.le_of_ble_eq_true rfl⟩ ⟨(by show _ ≤ 3; omega), (by show _ ≤ 69; omega)⟩ (Nat.le_of_ble_eq_true rfl) rfl (by omega) (by omega) dL_act_141 ?_
            have hx141 : bel (v >>> (2 &&& 31)) 10 < 10 := bel_lt (by omega)
            obtain ⟨x141, ex141⟩ : ∃ x9 : Nat, x9 = bel (v >>> (2 &&& 31)) 10 := ⟨_, rfl⟩
            rw [← ex141] at hx141
            rw [← ex141]
            refine qi_st (q0 := 0) (L := 2) (g := (fun _ => 0)) 0 hC hK hP hD hS rfl nI_0.symm (by omega) (by omega) dL_act_144 (fun H locs hP hD hS => ?_)
            have hP : va_P D vwCl (((q132, .inl (z.1, 2, .inl (upd (fun _ => 0) 0 (nI x141)))) :: F) ++ (qW z cG b rp rw rm lv lk pu fa he n nv du w mp mi k nt fu re ++ xW z a lv lk pu fa he n nv du ta w mp mi k nt fu re)) H := hP
            have hD : va_D A (((q132, .inl (z.1, 2, .inl (upd (fun _ => 0) 0 (nI x141)))) :: F) ++ (qW z cG b rp rw rm lv lk pu fa he n nv du w mp mi k nt fu re ++ xW z a lv lk pu fa he n nv du ta w mp mi k nt fu re)) := hD
            refine lv_dup hx hb dL_act_145 rfl ?_
            refine lv_iconst (v := 1) hx hb dL_act_146 (by decide) ?_
            refine lv_iconst (v := 1) hx hb dL_act_147 (by decide) ?_
            refine qi_st (q0 := 0) (L := 2) (g := (upd (fun _ => 0) 0 (nI x141))) 1 hC hK hP hD hS rfl rfl (by omega) (by omega) dL_act_148 (fun H locs hP hD hS => ?_)
            have hP : va_P D vwCl (((q132, .inl (z.1, 2, .inl (upd (upd (fun _ => 0) 0 (nI x141)) 1 1))) :: F) ++ (qW z cG b rp rw rm lv lk pu fa he n nv du w mp mi k nt fu re ++ xW z a lv lk pu fa he n nv du ta w mp mi k nt fu re)) H := hP
            have hD : va_D A (((q132, .inl (z.1, 2, .inl (upd (upd (fun _ => 0) 0 (nI x141)) 1 1))) :: F) ++ (qW z cG b rp rw rm lv lk pu fa he n nv du w mp mi k nt fu re ++ xW z a lv lk pu fa he n nv du ta w mp mi k nt fu re)) := hD
            refine k_X1_with (q0 := ((q132, .inl (z.1, 2, .inl (upd (upd (fun _ => 0) 0 (nI x141)) 1 1))) :: F).length + 2) (ql := 0) (n := w) hC mM_L_24 hK hG hO hP hD hS hA hl.1 ⟨Nat.le_of_ble_eq_true rfl, Nat.le_of_ble_eq_true rfl⟩ ⟨(by show _ ≤ 3; omega), (by show _ ≤ 69; omega)⟩ (Nat.le_of_ble_eq_true rfl) (wj_rt (X := ((q132, .inl (z.1, 2, .inl (upd (upd (fun _ => 0) 0 (nI x141)) 1 1))) :: F)) (k := 2) rfl) (fun i9 hi9 => ⟨_, _, _, wj_rt (X := ((q132, .inl (z.1, 2, .inl (upd (upd (fun _ => 0) 0 (nI x141)) 1 1))) :: F)) (qW_w hi9)⟩) rfl (by omega) dL_act_149 (fun ra H locs hP hD hS => ?_)
            refine qp_ws (nv' := upd nv w (nI x141)) (du' := upd du w 1) hC hK hP hD hS mF_RL_15 (fun t9 ht9 => by rcases (show t9 = 0 ∨ t9 = 1 by omega) with rfl | rfl <;> simp [upd, wrow]) (fun i9 hi9 => ⟨if_neg (by omega), if_neg (by omega)⟩) dL_act_152 (fun H locs hP hD hS => ?_)
            refine lv_aload_n hx hb dL_act_155 rfl (lv_at hl 3 rfl) ?_
            refine lv_iload_n hx hb dL_act_156 rfl (lv_at hl 5 rfl) ?_
            refine lv_iconst (v := 2) hx hb dL_act_157 (by decide) ?_
            refine lv_ishr hx hb dL_act_158 ?_
            refine lv_bipush (v := 10) hx hb dL_act_159 (by decide) ?_
            refine kL_below (n := 10) hC mM_L_18 hl.1 ⟨Nat.le_of_ble_eq_true rfl, Nat.le_of_ble_eq_true rfl⟩ ⟨(by show _ ≤ 3; omega), (by show _ ≤ 69; omega)⟩ (Nat.le_of_ble_eq_true rfl) rfl (by omega) (by omega) dL_act_161 ?_
            rw [← ex141]
            refine kx_X0_addWitness hC mM_L_34 hK hP hD hS hA hl.1 ⟨Nat.le_of_ble_eq_true rfl, Nat.le_of_ble_eq_true rfl⟩ ⟨(by show _ ≤ 3; omega), (by show _ ≤ 69; omega)⟩ (Nat.le_of_ble_eq_true rfl)  (nI_pos (by omega)) (le_c (b := 9) (by omega) (by decide)) (by omega) dL_act_164 (fun H locs hP hD hS => ?_)
            refine lv_iload hx hb dL_act_167 (lv_at hl 1 rfl) ?_
            refine lv_icmp_ne (tgt := 176) hx hb dL_act_169 (by decide) (fun c_169 => ?_) (fun c_169 => ?_)
            · exact absurd rfl c_169
            · have nc_169 : w = w := nn_eq (by omega) c_169
              refine lv_iconst (v := 1) hx hb dL_act_172 (by decide) ?_
              refine lv_goto (tgt := 177) hx hb dL_act_173 (by decide) ?_
              refine W.widen (k := 3) (n := 69) (by omega) (by omega) ?_
              exact W.zret (v := 1) hx hb hr (by decide) (fun t ht hW => ⟨⟨1, (), rfl, rfl, show Bk D z cG a A F (b 0) n lv t.heap by rw [ht]; exact ⟨va_up b 2 ra, rp, va_up rw w q132, rm, lv, lk, pu, fa, he, n, upd nv w (nI x141), upd du w 1, ta, w + 1, mp, mi, k, nt, fu, re, rfl, (iv_addWitness hIV (by omega) (y := x141) (by omega) rfl), ⟨Nat.le_refl _, fun j _ h => h⟩, hP, hD⟩⟩, hS.F ht⟩) hS.2.2 dL_act_177
          · have nc_121 : w = 6 := nn_eq (by omega) c_121
            refine lv_iconst (v := 1) hx hb dL_act_124 (by decide) ?_
            refine W.widen (k := 3) (n := 69) (by omega) (by omega) ?_
            exact W.zret (v := 1) hx hb hr (by decide) (fun t ht hW => ⟨⟨1, (), rfl, rfl, show Bk D z cG a A F (b 0) n lv t.heap by rw [ht]; exact ⟨b, rp, rw, rm, lv, lk, pu, fa, he, n, nv, du, ta, w, mp, mi, k, nt, fu, re, rfl, hIV, ⟨Nat.le_refl _, fun j _ h => h⟩, hP, hD⟩⟩, hS.F ht⟩) hS.2.2 dL_act_125
    · have nc_31 : x19 < 2 := nn_nle (by omega) c_31
      refine lv_iload_n hx hb dL_act_34 rfl (lv_at hl 2 rfl) ?_
      refine lv_bipush (v := 10) hx hb dL_act_35 (by decide) ?_
      refine lv_icmp_ne (tgt := 42) hx hb dL_act_37 (by decide) (fun c_37 => ?_) (fun c_37 => ?_)
      · have nc_37 : ¬ n = 10 := nn_ne (by omega) c_37
        refine lv_aload_n hx hb dL_act_42 rfl (lv_at hl 4 rfl) ?_
        refine lv_aload_n hx hb dL_act_43 rfl (lv_at hl 4 rfl) ?_
        refine qg_ps hC hK hP mF_RL_9 dL_act_44 ?_
        refine lv_iconst (v := 5) hx hb dL_act_47 (by decide) ?_
        refine qn_i hC hK hP hD hS hA (N := 5) rfl (by omega) (by show _ ≤ 3; omega) (by show _ ≤ 69; omega) dL_act_48 (fun q48 H hP hD hS => ?_)
        have hP : va_P D vwCl (((q48, .inl (z.1, 5, .inl (fun _ => 0))) :: F) ++ (qW z cG b rp rw rm lv lk pu fa he n nv du w mp mi k nt fu re ++ xW z a lv lk pu fa he n nv du ta w mp mi k nt fu re)) H := hP
        have hD : va_D A (((q48, .inl (z.1, 5, .inl (fun _ => 0))) :: F) ++ (qW z cG b rp rw rm lv lk pu fa he n nv du w mp mi k nt fu re ++ xW z a lv lk pu fa he n nv du ta w mp mi k nt fu re)) := hD
        refine lv_dup hx hb dL_act_50 rfl ?_
        refine lv_iconst (v := 0) hx hb dL_act_51 (by decide) ?_
        refine lv_iconst (v := 1) hx hb dL_act_52 (by decide) ?_
        refine qi_st (q0 := 0) (L := 5) (g := (fun _ => 0)) 0 hC hK hP hD hS rfl nI_0.symm (by omega) (by omega) dL_act_53 (fun H locs hP hD hS => ?_)
        have hP : va_P D vwCl (((q48, .inl (z.1, 5, .inl (upd (fun _ => 0) 0 1))) :: F) ++ (qW z cG b rp rw rm lv lk pu fa he n nv du w mp mi k nt fu re ++ xW z a lv lk pu fa he n nv du ta w mp mi k nt fu re)) H := hP
        have hD : va_D A (((q48, .inl (z.1, 5, .inl (upd (fun _ => 0) 0 1))) :: F) ++ (qW z cG b rp rw rm lv lk pu fa he n nv du w mp mi k nt fu re ++ xW z a lv lk pu fa he n nv du ta w mp mi k nt fu re)) := hD
        refine lv_dup hx hb dL_act_54 rfl ?_
        refine lv_iconst (v := 1) hx hb dL_act_55 (by decide) ?_
        refine lv_iload_n hx hb dL_act_56 rfl (lv_at hl 5 rfl) ?_
        refine lv_iconst (v := 2) hx hb dL_act_57 (by decide) ?_
        refine lv_ishr hx hb dL_act_58 ?_
        refine lv_bipush (v := 100) hx hb dL_act_59 (by decide) ?_
        refine kL_below (n := 100) hC mM_L_18 hl.1 ⟨Nat.le_of_ble_eq_true rfl, Nat.le_of_ble_eq_true rfl⟩ ⟨(by show _ ≤ 3; omega), (by show _ ≤ 69; omega)⟩ (Nat.le_of_ble_eq_true rfl) rfl (by omega) (by omega) dL_act_61 ?_
        have hx61 : bel (v >>> (2 &&& 31)) 100 < 100 := bel_lt (by omega)
        obtain ⟨x61, ex61⟩ : ∃ x9 : Nat, x9 = bel (v >>> (2 &&& 31)) 100 := ⟨_, rfl⟩
        rw [← ex61] at hx61
        rw [← ex61]
        refine qi_st (q0 := 0) (L := 5) (g := (upd (fun _ => 0) 0 1)) 1 hC hK hP hD hS rfl rfl (by omega) (by omega) dL_act_64 (fun H locs hP hD hS => ?_)
        have hP : va_P D vwCl (((q48, .inl (z.1, 5, .inl (upd (upd (fun _ => 0) 0 1) 1 (nI x61)))) :: F) ++ (qW z cG b rp rw rm lv lk pu fa he n nv du w mp mi k nt fu re ++ xW z a lv lk pu fa he n nv du ta w mp mi k nt fu re)) H := hP
        have hD : va_D A (((q48, .inl (z.1, 5, .inl (upd (upd (fun _ => 0) 0 1) 1 (nI x61)))) :: F) ++ (qW z cG b rp rw rm lv lk pu fa he n nv du w mp mi k nt fu re ++ xW z a lv lk pu fa he n nv du ta w mp mi k nt fu re)) := hD
        refine lv_dup hx hb dL_act_65 rfl ?_
        refine lv_iconst (v := 2) hx hb dL_act_66 (by decide) ?_
        refine lv_bipush (v := 100) hx hb dL_act_67 (by decide) ?_
        refine qi_st (q0 := 0) (L := 5) (g := (upd (upd (fun _ => 0) 0 1) 1 (nI x61))) 2 hC hK hP hD hS rfl rfl (by omega) (by omega) dL_act_69 (fun H locs hP hD hS => ?_)
        have hP : va_P D vwCl (((q48, .inl (z.1, 5, .inl (upd (upd (upd (fun _ => 0) 0 1) 1 (nI x61)) 2 100))) :: F) ++ (qW z cG b rp rw rm lv lk pu fa he n nv du w mp mi k nt fu re ++ xW z a lv lk pu fa he n nv du ta w mp mi k nt fu re)) H := hP
        have hD : va_D A (((q48, .inl (z.1, 5, .inl (upd (upd (upd (fun _ => 0) 0 1) 1 (nI x61)) 2 100))) :: F) ++ (qW z cG b rp rw rm lv lk pu fa he n nv du w mp mi k nt fu re ++ xW z a lv lk pu fa he n nv du ta w mp mi k nt fu re)) := hD
        refine lv_dup hx hb dL_act_70 rfl ?_
        refine lv_iconst (v := 3) hx hb dL_act_71 (by decide) ?_
        refine lv_iconst (v := 0) hx hb dL_act_72 (by decide) ?_
        refine qi_st (q0 := 0) (L := 5) (g := (upd (upd (upd (fun _ => 0) 0 1) 1 (nI x61)) 2 100)) 3 hC hK hP hD hS rfl rfl (by omega) (by omega) dL_act_73 (fun H locs hP hD hS => ?_)
        have hP : va_P D vwCl (((q48, .inl (z.1, 5, .inl (upd (upd (upd (upd (fun _ => 0) 0 1) 1 (nI x61)) 2 100) 3 0))) :: F) ++ (qW z cG b rp rw rm lv lk pu fa he n nv du w mp mi k nt fu re ++ xW z a lv lk pu fa he n nv du ta w mp mi k nt fu re)) H := hP
        have hD : va_D A (((q48, .inl (z.1, 5, .inl (upd (upd (upd (upd (fun _ => 0) 0 1) 1 (nI x61)) 2 100) 3 0))) :: F) ++ (qW z cG b rp rw rm lv lk pu fa he n nv du w mp mi k nt fu re ++ xW z a lv lk pu fa he n nv du ta w mp mi k nt fu re)) := hD
        refine lv_dup hx hb dL_act_74 rfl ?_
        refine lv_iconst (v := 4) hx hb dL_act_75 (by decide) ?_
        refine lv_iconst (v := (-1)) hx hb dL_act_76 (by decide) ?_
        refine qi_st (q0 := 0) (L := 5) (g := (upd (upd (upd (upd (fun _ => 0) 0 1) 1 (nI x61)) 2 100) 3 0)) 4 hC hK hP hD hS rfl rfl (by omega) (by omega) dL_act_77 (fun H locs hP hD hS => ?_)
        have hP : va_P D vwCl (((q48, .inl (z.1, 5, .inl (upd (upd (upd (upd (upd (fun _ => 0) 0 1) 1 (nI x61)) 2 100) 3 0) 4 (-1)))) :: F) ++ (qW z cG b rp rw rm lv lk pu fa he n nv du w mp mi k nt fu re ++ xW z a lv lk pu fa he n nv du ta w mp mi k nt fu re)) H := hP
        have hD : va_D A (((q48, .inl (z.1, 5, .inl (upd (upd (upd (upd (upd (fun _ => 0) 0 1) 1 (nI x61)) 2 100) 3 0) 4 (-1)))) :: F) ++ (qW z cG b rp rw rm lv lk pu fa he n nv du w mp mi k nt fu re ++ xW z a lv lk pu fa he n nv du ta w mp mi k nt fu re)) := hD
        refine k_X1_with (q0 := ((q48, .inl (z.1, 5, .inl (upd (upd (upd (upd (upd (fun _ => 0) 0 1) 1 (nI x61)) 2 100) 3 0) 4 (-1)))) :: F).length + 1) (ql := 0) (n := n) hC mM_L_24 hK hG hO hP hD hS hA hl.1 ⟨Nat.le_of_ble_eq_true rfl, Nat.le_of_ble_eq_true rfl⟩ ⟨(by show _ ≤ 3; omega), (by show _ ≤ 69; omega)⟩ (Nat.le_of_ble_eq_true rfl) (wj_rt (X := ((q48, .inl (z.1, 5, .inl (upd (upd (upd (upd (upd (fun _ => 0) 0 1) 1 (nI x61)) 2 100) 3 0) 4 (-1)))) :: F)) (k := 1) rfl) (fun i9 hi9 => ⟨_, _, _, wj_rt (X := ((q48, .inl (z.1, 5, .inl (upd (upd (upd (upd (upd (fun _ => 0) 0 1) 1 (nI x61)) 2 100) 3 0) 4 (-1)))) :: F)) (qW_p hi9)⟩) rfl (by omega) dL_act_78 (fun ra H locs hP hD hS => ?_)
        refine qp_ps (lv' := upd lv n 1) (lk' := upd lk n (nI x61)) (pu' := upd pu n 100) (fa' := upd fa n 0) (he' := upd he n (-1)) hC hK hP hD hS mF_RL_9 (fun t9 ht9 => by rcases (show t9 = 0 ∨ t9 = 1 ∨ t9 = 2 ∨ t9 = 3 ∨ t9 = 4 by omega) with rfl | rfl | rfl | rfl | rfl <;> simp [upd, prow]) (fun i9 hi9 => ⟨if_neg (by omega), if_neg (by omega), if_neg (by omega), if_neg (by omega), if_neg (by omega)⟩) dL_act_81 (fun H locs hP hD hS => ?_)
        refine lv_aload_n hx hb dL_act_84 rfl (lv_at hl 3 rfl) ?_
        refine lv_iload_n hx hb dL_act_85 rfl (lv_at hl 5 rfl) ?_
        refine lv_iconst (v := 2) hx hb dL_act_86 (by decide) ?_
        refine lv_ishr hx hb dL_act_87 ?_
        refine lv_bipush (v := 100) hx hb dL_act_88 (by decide) ?_
        refine kL_below (n := 100) hC mM_L_18 hl.1 ⟨Nat.le_of_ble_eq_true rfl, Nat.le_of_ble_eq_true rfl⟩ ⟨(by show _ ≤ 3; omega), (by show _ ≤ 69; omega)⟩ (Nat.le_of_ble_eq_true rfl) rfl (by omega) (by omega) dL_act_90 ?_
        rw [← ex61]
        refine kx_X0_addPerson hC mM_L_28 hK hP hD hS hA hl.1 ⟨Nat.le_of_ble_eq_true rfl, Nat.le_of_ble_eq_true rfl⟩ ⟨(by show _ ≤ 3; omega), (by show _ ≤ 69; omega)⟩ (Nat.le_of_ble_eq_true rfl)  (nI_pos (by omega)) (le_c (b := 99) (by omega) (by decide)) (by omega) dL_act_93 (fun H locs hP hD hS => ?_)
        refine lv_iload_n hx hb dL_act_96 rfl (lv_at hl 2 rfl) ?_
        refine lv_icmp_ne (tgt := 104) hx hb dL_act_97 (by decide) (fun c_97 => ?_) (fun c_97 => ?_)
        · exact absurd rfl c_97
        · have nc_97 : n = n := nn_eq (by omega) c_97
          refine lv_iconst (v := 1) hx hb dL_act_100 (by decide) ?_
          refine lv_goto (tgt := 105) hx hb dL_act_101 (by decide) ?_
          refine W.widen (k := 3) (n := 69) (by omega) (by omega) ?_
          exact W.zret (v := 1) hx hb hr (by decide) (fun t ht hW => ⟨⟨1, (), rfl, rfl, show Bk D z cG a A F (b 0) n lv t.heap by rw [ht]; exact ⟨va_up b 1 ra, va_up rp n q48, rw, rm, upd lv n 1, upd lk n (nI x61), upd pu n 100, upd fa n 0, upd he n (-1), n + 1, nv, du, ta, w, mp, mi, k, nt, fu, re, rfl, (iv_addPerson hIV (by omega) (y := x61) (by omega) rfl), ⟨Nat.le_succ _, fun j hj h => by rw [pk_un (by omega)]; exact h⟩, hP, hD⟩⟩, hS.F ht⟩) hS.2.2 dL_act_105
      · have nc_37 : n = 10 := nn_eq (by omega) c_37
        refine lv_iconst (v := 1) hx hb dL_act_40 (by decide) ?_
        refine W.widen (k := 3) (n := 69) (by omega) (by omega) ?_
        exact W.zret (v := 1) hx hb hr (by decide) (fun t ht hW => ⟨⟨1, (), rfl, rfl, show Bk D z cG a A F (b 0) n lv t.heap by rw [ht]; exact ⟨b, rp, rw, rm, lv, lk, pu, fa, he, n, nv, du, ta, w, mp, mi, k, nt, fu, re, rfl, hIV, ⟨Nat.le_refl _, fun j _ h => h⟩, hP, hD⟩⟩, hS.F ht⟩) hS.2.2 dL_act_41

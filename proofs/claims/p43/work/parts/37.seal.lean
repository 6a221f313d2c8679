theorem tL0 : tL 0 = 7 := rfl
theorem tL1 : tL 1 = 2 := rfl
theorem tL2 : tL 2 = 13 := rfl
theorem tL3 : tL 3 = 7 := rfl
theorem tF_fit (i : Nat) (hi : i < 4) : sb_Fit (tF i) := by
  intro j
  by_cases h : j < 13
  · exact (by decide +kernel : ∀ i, i < 4 → ∀ j, j < 13 → fits .byte (.int (tF i j)) = true) i hi j h
  · have e : tF i j = 0 := by
      unfold tF
      rw [List.getD_eq_getElem?_getD, List.getElem?_eq_none]
      · rfl
      · have : ∀ i, i < 4 → (bytS.getD i []).length ≤ 13 := by decide
        have := this i hi
        omega
    rw [e]
    decide
/-- texts one behind the other -/
def cat (T : Nat → Int32) (c : Nat) (F : Nat → Int32) : Nat → Int32 := fun j => if j < c then T j else F (j - c)
theorem cat_of {T F g g' : Nat → Int32} {c N : Nat} (h : ∀ j, j < c → g j = T j) (h1 : ∀ j, j < c → g' j = g j) (h2 : ∀ j, j < N → g' (c + j) = F j) : ∀ j, j < c + N → g' j = cat T c F j := by
  intro j hj
  unfold cat
  by_cases q : j < c
  · rw [if_pos q, h1 j q, h j q]
  · rw [if_neg q, ← h2 (j - c) (by omega), show c + (j - c) = j by omega]
theorem txt_eq {f f' : Nat → Int32} {x : Int32} : ∀ {N : Nat}, (∀ j, j < N → f j = f' j) → sp_txt f x N = sp_txt f' x N
  | 0, _ => rfl
  | N + 1, h => by
    simp only [sp_txt]
    rw [txt_eq (fun j hj => h j (by omega)), h N (by omega)]
theorem txt_cat {T F : Nat → Int32} {x : Int32} {c : Nat} : ∀ N : Nat, sp_txt (cat T c F) x (c + N) = sp_txt F (sp_txt T x c) N
  | 0 => txt_eq (fun j hj => if_pos hj)
  | N + 1 => by
    show sp_txt (cat T c F) x (c + N + 1) = _
    simp only [sp_txt]
    rw [txt_cat N, show cat T c F (c + N) = F N by unfold cat; rw [if_neg (by omega), show c + N - c = N by omega]]
theorem byte_n {d : Nat} (h : d < 256) : nI d &&& 255 = nI d := by
  rw [pk_andN (by omega) 8 (by decide), Nat.mod_eq_of_lt h]
theorem txt_dgt {x : Nat} (hx : x < 100) (s : Int32) : sp_txt (dgt x) s (k9 x) = sp_num s (nI x) := by
  have e1 : nI x / 10 = nI (x / 10) := pk_div (a := x) (d := 10) (by omega) (by decide) (by decide)
  have e2 : nI x - nI x / 10 * 10 = nI (x % 10) := pk_rem (a := x) (d := 10) (by omega) (by decide) (by decide)
  have e3 : ∀ d : Nat, nI (48 + d) = 48 + nI d := fun d => (nI_add 48 d).symm
  unfold sp_num k9
  by_cases h : x < 10
  · rw [if_pos h, if_pos (show nI x < 10 from nI_lt (b := 10) h (by decide)), e2]
    simp only [sp_txt, dgt, h, if_true]
    rw [byte_n (by omega), e3]
    grind
  · rw [if_neg h, if_neg (show ¬ nI x < 10 from nI_nlt (b := 10) (by omega) (by omega)), e2, e1]
    have d0 : dgt x 0 = nI (48 + x / 10) := by unfold dgt; rw [if_neg h, if_pos rfl]
    have d1 : dgt x 1 = nI (48 + x % 10) := by unfold dgt; rw [if_neg h, if_neg (by decide)]
    simp only [sp_txt]
    rw [d0, d1, byte_n (by omega), byte_n (by omega), e3, e3]
    grind
set_option maxHeartbeats 4000000 in
set_option maxRecDepth 100000 in
theorem c_X1_seal (l : Launch) (sz : Nat) {D : va_G} {z : ClassId × ClassId} {cG : ClassId} {q9 t9 : Nat → Nat} {t8 : Nat × Nat} {Wd : va_W} {q0 a9 : Nat} {g9 : Nat → Int32} (ha : Wd[q0]? = some (a9, .inl (z.1, 2, .inl g9))) (x y : Nat) (hx9 : x < 100) (hy9 : y < 100) (ex : g9 0 = nI x) (ey : g9 1 = nI y) : Met l yX1_seal (ws_ yX1_seal cX1_seal 4 (some .int)) ({ frames := 6, cells := 14, slots := 320, locals := 135 } : Room) (va_Pc [.ref a9] (fun U => U.heap.size = sz ∧ qI D z cG Wd U ∧ va_D (fun _ => True) Wd ∧ cH q9 t9 (va_A (Wd) sz) U U.heap ∧ dH t8 (va_A (Wd) sz) U U.heap)) (va_Qi (fun (r : Int32) (u : Unit) => r = sp_seal (nI x) (nI y)) (fun u t9 => va_P D vwCl (Wd) t9.heap ∧ va_D (va_A (Wd) sz) (Wd)) (va_A (Wd) sz)) 14 320 (va_A (Wd) sz) := by
  refine Met.ofW (cc := cX1_seal) (maxL := 4) (ret := (some .int)) (by decide) rfl ?_
  intro p e s m args below meth c s₁ B hml hv
  obtain ⟨rfl, hsz, ⟨hP, hKz, hG0⟩, hD0, hE, hG⟩ := hv
  have hx := B.exec
  have hb := B.bytes
  have hr := B.returns
  have hts := atoms_spec (ws := ws_ yX1_seal cX1_seal 4 (some .int)) B.pre
  have hts : ∀ w ∈ lw_all, w.before _ s = true := fun w h => hts w (List.mem_cons_of_mem _ h)
  have hown : s.vm.findClass RX1 = some m.cls := findClass_of_methodNamed B.named
  have hlocks := B.notSynchronized
  have hC : CallFix p m c cX1_seal 4 s _ lw_all RX1 := ⟨hx, hb, hml, hown, hts⟩
  subst hsz
  have hD := hD0.self (sz := s.heap.size)
  generalize hAe : va_A Wd s.heap.size = A at hD hE hG ⊢
  have hA : ∀ q : Nat, s.heap.size ≤ q → A q := fun q h => by rw [← hAe]; exact Or.inr h
  have hJ := hE.2.1
  have hK0 : va_K D vwCl [] s := hKz.sub [] rfl
  have hl := lv_entry ([.ref a9]) (n := 4) (Nat.le_of_ble_eq_true rfl)
  rw [lg_entry_eq]
  generalize (lg_sl ([.ref a9]) ++ List.replicate (4 - (lg_sl ([.ref a9])).length) Slot.unset).toArray = ls at hl ⊢
  have hl : lv_has ls 4 [(0, .ref a9)] := hl
  obtain ⟨H, hH⟩ : ∃ H : Heap, H = s.heap := ⟨_, rfl⟩
  rw [← hH] at hP
  have hS : va_S A s.heap H [] := by rw [hH]; exact va_S.rf
  rw [← hH]
  refine va_new (ci := 3) (fs := [.null, .int 0, .int 0, .int 0]) (C := RJ4) (T := TJ4) (N := 4) hx hb hts lays_J4 tyJ4 tyJ4_ok hown (hts _ mK_X1_66) (hts _ mB_StringBuilder) (hts _ mI_StringBuilder) hK0 hP hD hS hA rfl (fun j hj => by
        match j, hj with
        | 0, _ => rfl
        | 1, _ => rfl
        | 2, _ => rfl
        | 3, _ => rfl
        | k + 4, h => exact absurd h (by omega)) (by show _ ≤ 14; omega) (by show _ ≤ 320; omega) dX1_seal_0 (fun b91 H hP hD hS => ?_)
  have hP := wj_sP (M := [(b91, .inr (3, [.null, .int 0, .int 0, .int 0]))]) hP
  have hD := wj_sD (M := [(b91, .inr (3, [.null, .int 0, .int 0, .int 0]))]) hD
  have hP : va_P D vwCl ((b91, .inr (3, [.null, .int 0, .int 0, .int 0])) :: Wd) H := hP
  have hD : va_D A ((b91, .inr (3, [.null, .int 0, .int 0, .int 0])) :: Wd) := hD
  refine lv_dup hx hb dX1_seal_3 rfl ?_
  have hF := wj_Fl (X := [(b91, .inr (3, [.null, .int 0, .int 0, .int 0]))]) (M := Wd) hD hS hA
  have hPl : va_P D vwCl [(b91, .inr (3, [.null, .int 0, .int 0, .int 0]))] H := wj_Pl (X := [(b91, .inr (3, [.null, .int 0, .int 0, .int 0]))]) (M := Wd) hP
  have hDl := wj_Dl (X := [(b91, .inr (3, [.null, .int 0, .int 0, .int 0]))]) (M := Wd) hD
  refine va_callv (va_runI (As := []) (rest := [.ref b91]) hC (c_J4_init_da8c8 l H.size ) (cwI 0 hts (gi_cons mC_J4_init_da8c8) rfl rfl rfl (hts _ mI_StringBuilder) (hts _ mM_X1_68) (hts _ mV_J4_init_da8c8) rfl (by decide +kernel) ⟨Nat.le_of_ble_eq_true rfl, Nat.le_of_ble_eq_true rfl⟩) ⟨fun a1 U g mk q9 => ⟨q9.1, q9.2.1, ⟨q9.2.2.1.1, va_K.moved (u := U) (U := U.calling g mk a1) (Vm.Alike.refl U.vm) q9.2.2.1.2⟩, q9.2.2.2.1, jH.moved (u := U) (U := U.calling g mk a1) (Vm.Alike.refl U.vm) q9.2.2.2.2⟩, fun U hU hW => ⟨rfl, by rw [hU], ⟨by rw [hU]; exact hPl, va_K.moved hW.alike hK0⟩, hDl.weaken (fun _ _ _ _ => trivial), (by rw [hU]; exact ((hJ.kept hS.2.1).narrow hF).moved hW.alike)⟩⟩ rfl rfl hl.1 rfl (lv_room (Nat.le_of_ble_eq_true rfl)) dX1_seal_4 ⟨(by show _ ≤ 14; omega), (by show _ ≤ 320; omega)⟩) hS (fun q _ h => hF q h) hF (fun u9 t H1 locs ht hvm hw hB hz1 hk1 hS => ?_)
  obtain ⟨hP1, hD1, hx1⟩ := hB
  rw [ht] at hP1
  obtain ⟨hP, hD⟩ := wj_l (X := [(b91, .inr (3, [.null, .int 0, .int 0, .int 0]))]) (M := Wd) hP hD hk1 hF hP1 hD1
  clear hP1 hD1 hPl hDl hF
  generalize H1 = H at hP hS ⊢
  obtain ⟨cB, v91⟩ := u9
  have hK := va_K.moved hvm.symm hx1
  have hKn := va_K.moved hvm.symm hx1
  have hK : va_K D vwCl [(cB, .byte)] s := hKn
  have hP : va_P D vwCl ((b91, .inr (3, [.ref v91, .int 0, .int 0, .int 0])) :: (v91, .inl (cB, 16, .inl (fun _ => 0))) :: Wd) H := hP
  have hD : va_D A ((b91, .inr (3, [.ref v91, .int 0, .int 0, .int 0])) :: (v91, .inl (cB, 16, .inl (fun _ => 0))) :: Wd) := hD
  refine va_ldcS hx hb hown hE.2.2.2.2.2.2.1 dX1_seal_7 ?_
  have hF := wj_Fl (X := [(b91, .inr (3, [.ref v91, .int 0, .int 0, .int 0])), (v91, .inl (cB, 16, .inl (fun _ => 0)))]) (M := Wd) hD hS hA
  have hPl : va_P D vwCl [(b91, .inr (3, [.ref v91, .int 0, .int 0, .int 0])), (v91, .inl (cB, 16, .inl (fun _ => 0)))] H := wj_Pl (X := [(b91, .inr (3, [.ref v91, .int 0, .int 0, .int 0])), (v91, .inl (cB, 16, .inl (fun _ => 0)))]) (M := Wd) hP
  have hDl := wj_Dl (X := [(b91, .inr (3, [.ref v91, .int 0, .int 0, .int 0])), (v91, .inl (cB, 16, .inl (fun _ => 0)))]) (M := Wd) hD
  refine va_callr (va_runV (As := [.ref (q9 0)]) (rest := []) hC (c_J4_append_15ec4 l H.size (Or.inl rfl) (Nat.zero_le _) sb_fit0 (show 0 + (tL 0) ≤ 34 from by have h8 := k9_le x; have h7 := k9_le y; have l0 := tL0; have l1 := tL1; have l2 := tL2; have l3 := tL3; omega) (tF_fit 0 (by decide))) (cwV 1 hts (gi_V mM_X1_71 mV_J4_append_15ec4 mS_J4_append_15ec4 mI_StringBuilder mC_J4_append_15ec4) rfl rfl rfl (by decide +kernel) ⟨Nat.le_of_ble_eq_true rfl, Nat.le_of_ble_eq_true rfl⟩) ⟨fun a1 U g mk q9 => ⟨q9.1, q9.2.1, ⟨q9.2.2.1.1, va_K.moved (u := U) (U := U.calling g mk a1) (Vm.Alike.refl U.vm) q9.2.2.1.2⟩, q9.2.2.2.1, ⟨sH.moved (u := U) (U := U.calling g mk a1) (Vm.Alike.refl U.vm) q9.2.2.2.2.1, jH.moved (u := U) (U := U.calling g mk a1) (Vm.Alike.refl U.vm) q9.2.2.2.2.2⟩⟩, va_recv (q := (RJ4, TJ4, 4)) hK hPl (ci := 3) (q0 := 0) rfl rfl, fun U hU hW => ⟨rfl, by rw [hU], ⟨by rw [hU]; exact hPl, va_K.moved hW.alike hK⟩, hDl.weaken (fun _ _ _ _ => trivial), ⟨by rw [hU]; exact ((((hE.1 0 (by decide)).kept hS.2.1).narrow hF)).moved hW.alike, by rw [hU]; exact (((hJ.kept hS.2.1).narrow hF)).moved hW.alike⟩⟩⟩ rfl rfl hl.1 rfl (lv_room (Nat.le_of_ble_eq_true rfl)) dX1_seal_9 ⟨(by show _ ≤ 14; omega), (by show _ ≤ 320; omega)⟩) hS (fun q _ h => hF q h) hF (fun u9 ra9 t H1 locs ht hvm hw hB hz1 hk1 hS => ?_)
  obtain ⟨hP1, hD1, hx1⟩ := hB
  rw [ht] at hP1
  obtain ⟨hP, hD⟩ := wj_l (X := [(b91, .inr (3, [.ref v91, .int 0, .int 0, .int 0])), (v91, .inl (cB, 16, .inl (fun _ => 0)))]) (M := Wd) hP hD hk1 hF hP1 hD1
  clear hP1 hD1 hPl hDl hF
  generalize H1 = H at hP hS ⊢
  obtain ⟨v_9, m_9, g_9⟩ := u9
  obtain ⟨hm_9, hc_9, hf_9, heq9, hnew9⟩ := hw
  have hT_9 : ∀ j, j < 0 + (tL 0) → g_9 j = cat (fun _ => 0) 0 (tF 0) j := cat_of (T := (fun _ => 0)) (fun j hj => absurd hj (Nat.not_lt_zero j)) heq9 hnew9
  have hm_9 : m_9 = 16 ∨ m_9 = 34 := hm_9
  have hc_9 : 0 + (tL 0) ≤ m_9 := hc_9
  have hf_9 : sb_Fit g_9 := hf_9
  have hP : va_P D vwCl ((b91, .inr (3, [.ref v_9, .int 0, .int 0, .int (nI (0 + (tL 0)))])) :: (v_9, .inl (cB, m_9, .inl g_9)) :: Wd) H := hP
  have hD : va_D A ((b91, .inr (3, [.ref v_9, .int 0, .int 0, .int (nI (0 + (tL 0)))])) :: (v_9, .inl (cB, m_9, .inl g_9)) :: Wd) := hD
  have ebr : ra9 = b91 := hx1
  rw [ebr]
  refine lv_aload_n hx hb dX1_seal_12 rfl (lv_at hl 0 rfl) ?_
  refine lv_iconst (v := 0) hx hb dX1_seal_13 (by decide) ?_
  refine qi_ld (q0 := (2 + q0)) 0 hC hKz hP (wj_rt (X := [_, _]) ha) nI_0.symm (by decide) (by decide) dX1_seal_14 ?_
  rw [ex]
  have hF := wj_Fl (X := [(b91, .inr (3, [.ref v_9, .int 0, .int 0, .int (nI (0 + (tL 0)))])), (v_9, .inl (cB, m_9, .inl g_9))]) (M := Wd) hD hS hA
  have hPl : va_P D vwCl [(b91, .inr (3, [.ref v_9, .int 0, .int 0, .int (nI (0 + (tL 0)))])), (v_9, .inl (cB, m_9, .inl g_9))] H := wj_Pl (X := [(b91, .inr (3, [.ref v_9, .int 0, .int 0, .int (nI (0 + (tL 0)))])), (v_9, .inl (cB, m_9, .inl g_9))]) (M := Wd) hP
  have hDl := wj_Dl (X := [(b91, .inr (3, [.ref v_9, .int 0, .int 0, .int (nI (0 + (tL 0)))])), (v_9, .inl (cB, m_9, .inl g_9))]) (M := Wd) hD
  refine va_callr (va_runV (As := [.int (nI x)]) (rest := []) hC (c_J4_append_bf812 l H.size x hx9 hm_9 hc_9 hf_9 (show (0 + (tL 0)) + (k9 x) ≤ 34 from by have h8 := k9_le x; have h7 := k9_le y; have l0 := tL0; have l1 := tL1; have l2 := tL2; have l3 := tL3; omega)) (cwV 1 hts (gi_V mM_X1_75 mV_J4_append_bf812 mS_J4_append_bf812 mI_StringBuilder mC_J4_append_bf812) rfl rfl rfl (by decide +kernel) ⟨Nat.le_of_ble_eq_true rfl, Nat.le_of_ble_eq_true rfl⟩) ⟨fun a1 U g mk q9 => ⟨q9.1, q9.2.1, ⟨q9.2.2.1.1, va_K.moved (u := U) (U := U.calling g mk a1) (Vm.Alike.refl U.vm) q9.2.2.1.2⟩, q9.2.2.2.1, ⟨jH.moved (u := U) (U := U.calling g mk a1) (Vm.Alike.refl U.vm) q9.2.2.2.2.1, dH.moved (u := U) (U := U.calling g mk a1) (Vm.Alike.refl U.vm) q9.2.2.2.2.2⟩⟩, va_recv (q := (RJ4, TJ4, 4)) hK hPl (ci := 3) (q0 := 0) rfl rfl, fun U hU hW => ⟨rfl, by rw [hU], ⟨by rw [hU]; exact hPl, va_K.moved hW.alike hK⟩, hDl.weaken (fun _ _ _ _ => trivial), ⟨by rw [hU]; exact (((hJ.kept hS.2.1).narrow hF)).moved hW.alike, by rw [hU]; exact (((hG.kept hS.2.1).narrow hF)).moved hW.alike⟩⟩⟩ rfl rfl hl.1 rfl (lv_room (Nat.le_of_ble_eq_true rfl)) dX1_seal_15 ⟨(by show _ ≤ 14; omega), (by show _ ≤ 320; omega)⟩) hS (fun q _ h => hF q h) hF (fun u9 ra9 t H1 locs ht hvm hw hB hz1 hk1 hS => ?_)
  obtain ⟨hP1, hD1, hx1⟩ := hB
  rw [ht] at hP1
  obtain ⟨hP, hD⟩ := wj_l (X := [(b91, .inr (3, [.ref v_9, .int 0, .int 0, .int (nI (0 + (tL 0)))])), (v_9, .inl (cB, m_9, .inl g_9))]) (M := Wd) hP hD hk1 hF hP1 hD1
  clear hP1 hD1 hPl hDl hF
  generalize H1 = H at hP hS ⊢
  obtain ⟨v_15, m_15, g_15⟩ := u9
  obtain ⟨hm_15, hc_15, hf_15, heq9, hnew9⟩ := hw
  have hT_15 : ∀ j, j < (0 + (tL 0)) + (k9 x) → g_15 j = cat (cat (fun _ => 0) 0 (tF 0)) (0 + (tL 0)) (dgt x) j := cat_of (T := cat (fun _ => 0) 0 (tF 0)) hT_9 heq9 hnew9
  have hm_15 : m_15 = 16 ∨ m_15 = 34 := hm_15
  have hc_15 : (0 + (tL 0)) + (k9 x) ≤ m_15 := hc_15
  have hf_15 : sb_Fit g_15 := hf_15
  have hP : va_P D vwCl ((b91, .inr (3, [.ref v_15, .int 0, .int 0, .int (nI ((0 + (tL 0)) + (k9 x)))])) :: (v_15, .inl (cB, m_15, .inl g_15)) :: Wd) H := hP
  have hD : va_D A ((b91, .inr (3, [.ref v_15, .int 0, .int 0, .int (nI ((0 + (tL 0)) + (k9 x)))])) :: (v_15, .inl (cB, m_15, .inl g_15)) :: Wd) := hD
  have ebr : ra9 = b91 := hx1
  rw [ebr]
  refine va_ldcS hx hb hown hE.2.2.2.2.2.2.2.1 dX1_seal_18 ?_
  have hF := wj_Fl (X := [(b91, .inr (3, [.ref v_15, .int 0, .int 0, .int (nI ((0 + (tL 0)) + (k9 x)))])), (v_15, .inl (cB, m_15, .inl g_15))]) (M := Wd) hD hS hA
  have hPl : va_P D vwCl [(b91, .inr (3, [.ref v_15, .int 0, .int 0, .int (nI ((0 + (tL 0)) + (k9 x)))])), (v_15, .inl (cB, m_15, .inl g_15))] H := wj_Pl (X := [(b91, .inr (3, [.ref v_15, .int 0, .int 0, .int (nI ((0 + (tL 0)) + (k9 x)))])), (v_15, .inl (cB, m_15, .inl g_15))]) (M := Wd) hP
  have hDl := wj_Dl (X := [(b91, .inr (3, [.ref v_15, .int 0, .int 0, .int (nI ((0 + (tL 0)) + (k9 x)))])), (v_15, .inl (cB, m_15, .inl g_15))]) (M := Wd) hD
  refine va_callr (va_runV (As := [.ref (q9 1)]) (rest := []) hC (c_J4_append_15ec4 l H.size hm_15 hc_15 hf_15 (show ((0 + (tL 0)) + (k9 x)) + (tL 1) ≤ 34 from by have h8 := k9_le x; have h7 := k9_le y; have l0 := tL0; have l1 := tL1; have l2 := tL2; have l3 := tL3; omega) (tF_fit 1 (by decide))) (cwV 1 hts (gi_V mM_X1_71 mV_J4_append_15ec4 mS_J4_append_15ec4 mI_StringBuilder mC_J4_append_15ec4) rfl rfl rfl (by decide +kernel) ⟨Nat.le_of_ble_eq_true rfl, Nat.le_of_ble_eq_true rfl⟩) ⟨fun a1 U g mk q9 => ⟨q9.1, q9.2.1, ⟨q9.2.2.1.1, va_K.moved (u := U) (U := U.calling g mk a1) (Vm.Alike.refl U.vm) q9.2.2.1.2⟩, q9.2.2.2.1, ⟨sH.moved (u := U) (U := U.calling g mk a1) (Vm.Alike.refl U.vm) q9.2.2.2.2.1, jH.moved (u := U) (U := U.calling g mk a1) (Vm.Alike.refl U.vm) q9.2.2.2.2.2⟩⟩, va_recv (q := (RJ4, TJ4, 4)) hK hPl (ci := 3) (q0 := 0) rfl rfl, fun U hU hW => ⟨rfl, by rw [hU], ⟨by rw [hU]; exact hPl, va_K.moved hW.alike hK⟩, hDl.weaken (fun _ _ _ _ => trivial), ⟨by rw [hU]; exact ((((hE.1 1 (by decide)).kept hS.2.1).narrow hF)).moved hW.alike, by rw [hU]; exact (((hJ.kept hS.2.1).narrow hF)).moved hW.alike⟩⟩⟩ rfl rfl hl.1 rfl (lv_room (Nat.le_of_ble_eq_true rfl)) dX1_seal_20 ⟨(by show _ ≤ 14; omega), (by show _ ≤ 320; omega)⟩) hS (fun q _ h => hF q h) hF (fun u9 ra9 t H1 locs ht hvm hw hB hz1 hk1 hS => ?_)
  obtain ⟨hP1, hD1, hx1⟩ := hB
  rw [ht] at hP1
  obtain ⟨hP, hD⟩ := wj_l (X := [(b91, .inr (3, [.ref v_15, .int 0, .int 0, .int (nI ((0 + (tL 0)) + (k9 x)))])), (v_15, .inl (cB, m_15, .inl g_15))]) (M := Wd) hP hD hk1 hF hP1 hD1
  clear hP1 hD1 hPl hDl hF
  generalize H1 = H at hP hS ⊢
  obtain ⟨v_20, m_20, g_20⟩ := u9
  obtain ⟨hm_20, hc_20, hf_20, heq9, hnew9⟩ := hw
  have hT_20 : ∀ j, j < ((0 + (tL 0)) + (k9 x)) + (tL 1) → g_20 j = cat (cat (cat (fun _ => 0) 0 (tF 0)) (0 + (tL 0)) (dgt x)) ((0 + (tL 0)) + (k9 x)) (tF 1) j := cat_of (T := cat (cat (fun _ => 0) 0 (tF 0)) (0 + (tL 0)) (dgt x)) hT_15 heq9 hnew9
  have hm_20 : m_20 = 16 ∨ m_20 = 34 := hm_20
  have hc_20 : ((0 + (tL 0)) + (k9 x)) + (tL 1) ≤ m_20 := hc_20
  have hf_20 : sb_Fit g_20 := hf_20
  have hP : va_P D vwCl ((b91, .inr (3, [.ref v_20, .int 0, .int 0, .int (nI (((0 + (tL 0)) + (k9 x)) + (tL 1)))])) :: (v_20, .inl (cB, m_20, .inl g_20)) :: Wd) H := hP
  have hD : va_D A ((b91, .inr (3, [.ref v_20, .int 0, .int 0, .int (nI (((0 + (tL 0)) + (k9 x)) + (tL 1)))])) :: (v_20, .inl (cB, m_20, .inl g_20)) :: Wd) := hD
  have ebr : ra9 = b91 := hx1
  rw [ebr]
  refine lv_aload_n hx hb dX1_seal_23 rfl (lv_at hl 0 rfl) ?_
  refine lv_iconst (v := 1) hx hb dX1_seal_24 (by decide) ?_
  refine qi_ld (q0 := (2 + q0)) 1 hC hKz hP (wj_rt (X := [_, _]) ha) rfl (by decide) (by decide) dX1_seal_25 ?_
  rw [ey]
  refine lv_if_ne (tgt := 34) hx hb dX1_seal_26 (by decide) (fun c_26 => ?_) (fun c_26 => ?_)
  · have nc_26 : ¬ y = 0 := nn_ne (by omega) c_26
    refine va_new (ci := 3) (fs := [.null, .int 0, .int 0, .int 0]) (C := RJ4) (T := TJ4) (N := 4) hx hb hts lays_J4 tyJ4 tyJ4_ok hown (hts _ mK_X1_66) (hts _ mB_StringBuilder) (hts _ mI_StringBuilder) hK0 hP hD hS hA rfl (fun j hj => by
          match j, hj with
          | 0, _ => rfl
          | 1, _ => rfl
          | 2, _ => rfl
          | 3, _ => rfl
          | k + 4, h => exact absurd h (by omega)) (by show _ ≤ 14; omega) (by show _ ≤ 320; omega) dX1_seal_34 (fun b92 H hP hD hS => ?_)
    have hP := wj_sP (M := [(b92, .inr (3, [.null, .int 0, .int 0, .int 0]))]) hP
    have hD := wj_sD (M := [(b92, .inr (3, [.null, .int 0, .int 0, .int 0]))]) hD
    have hP : va_P D vwCl ((b92, .inr (3, [.null, .int 0, .int 0, .int 0])) :: (b91, .inr (3, [.ref v_20, .int 0, .int 0, .int (nI (((0 + (tL 0)) + (k9 x)) + (tL 1)))])) :: (v_20, .inl (cB, m_20, .inl g_20)) :: Wd) H := hP
    have hD : va_D A ((b92, .inr (3, [.null, .int 0, .int 0, .int 0])) :: (b91, .inr (3, [.ref v_20, .int 0, .int 0, .int (nI (((0 + (tL 0)) + (k9 x)) + (tL 1)))])) :: (v_20, .inl (cB, m_20, .inl g_20)) :: Wd) := hD
    refine lv_dup hx hb dX1_seal_37 rfl ?_
    have hF := wj_Fl (X := [(b92, .inr (3, [.null, .int 0, .int 0, .int 0]))]) (M := (b91, .inr (3, [.ref v_20, .int 0, .int 0, .int (nI (((0 + (tL 0)) + (k9 x)) + (tL 1)))])) :: (v_20, .inl (cB, m_20, .inl g_20)) :: Wd) hD hS hA
    have hPl : va_P D vwCl [(b92, .inr (3, [.null, .int 0, .int 0, .int 0]))] H := wj_Pl (X := [(b92, .inr (3, [.null, .int 0, .int 0, .int 0]))]) (M := (b91, .inr (3, [.ref v_20, .int 0, .int 0, .int (nI (((0 + (tL 0)) + (k9 x)) + (tL 1)))])) :: (v_20, .inl (cB, m_20, .inl g_20)) :: Wd) hP
    have hDl := wj_Dl (X := [(b92, .inr (3, [.null, .int 0, .int 0, .int 0]))]) (M := (b91, .inr (3, [.ref v_20, .int 0, .int 0, .int (nI (((0 + (tL 0)) + (k9 x)) + (tL 1)))])) :: (v_20, .inl (cB, m_20, .inl g_20)) :: Wd) hD
    refine va_callv (va_runI (As := []) (rest := [.ref b92, .ref b91]) hC (c_J4_init_da8c8 l H.size ) (cwI 0 hts (gi_cons mC_J4_init_da8c8) rfl rfl rfl (hts _ mI_StringBuilder) (hts _ mM_X1_68) (hts _ mV_J4_init_da8c8) rfl (by decide +kernel) ⟨Nat.le_of_ble_eq_true rfl, Nat.le_of_ble_eq_true rfl⟩) ⟨fun a1 U g mk q9 => ⟨q9.1, q9.2.1, ⟨q9.2.2.1.1, va_K.moved (u := U) (U := U.calling g mk a1) (Vm.Alike.refl U.vm) q9.2.2.1.2⟩, q9.2.2.2.1, jH.moved (u := U) (U := U.calling g mk a1) (Vm.Alike.refl U.vm) q9.2.2.2.2⟩, fun U hU hW => ⟨rfl, by rw [hU], ⟨by rw [hU]; exact hPl, va_K.moved hW.alike hK0⟩, hDl.weaken (fun _ _ _ _ => trivial), (by rw [hU]; exact ((hJ.kept hS.2.1).narrow hF).moved hW.alike)⟩⟩ rfl rfl hl.1 rfl (lv_room (Nat.le_of_ble_eq_true rfl)) dX1_seal_38 ⟨(by show _ ≤ 14; omega), (by show _ ≤ 320; omega)⟩) hS (fun q _ h => hF q h) hF (fun u9 t H1 locs ht hvm hw hB hz1 hk1 hS => ?_)
    obtain ⟨hP1, hD1, hx1⟩ := hB
    rw [ht] at hP1
    obtain ⟨hP, hD⟩ := wj_l (X := [(b92, .inr (3, [.null, .int 0, .int 0, .int 0]))]) (M := (b91, .inr (3, [.ref v_20, .int 0, .int 0, .int (nI (((0 + (tL 0)) + (k9 x)) + (tL 1)))])) :: (v_20, .inl (cB, m_20, .inl g_20)) :: Wd) hP hD hk1 hF hP1 hD1
    clear hP1 hD1 hPl hDl hF
    generalize H1 = H at hP hS ⊢
    obtain ⟨cb92, v92⟩ := u9
    have hKn := va_K.moved hvm.symm hx1
    have ecb : cb92 = cB := Option.some.inj ((show s.vm.findClass _ = some cb92 from (hKn.2 0 _ rfl).2).symm.trans (show s.vm.findClass _ = some cB from (hK.2 0 _ rfl).2))
    rw [show ((cb92, v92) : ClassId × Nat).1 = cB from ecb] at hP hD
    have hP : va_P D vwCl ((b92, .inr (3, [.ref v92, .int 0, .int 0, .int 0])) :: (v92, .inl (cB, 16, .inl (fun _ => 0))) :: (b91, .inr (3, [.ref v_20, .int 0, .int 0, .int (nI (((0 + (tL 0)) + (k9 x)) + (tL 1)))])) :: (v_20, .inl (cB, m_20, .inl g_20)) :: Wd) H := hP
    have hD : va_D A ((b92, .inr (3, [.ref v92, .int 0, .int 0, .int 0])) :: (v92, .inl (cB, 16, .inl (fun _ => 0))) :: (b91, .inr (3, [.ref v_20, .int 0, .int 0, .int (nI (((0 + (tL 0)) + (k9 x)) + (tL 1)))])) :: (v_20, .inl (cB, m_20, .inl g_20)) :: Wd) := hD
    refine lv_aload_n hx hb dX1_seal_41 rfl (lv_at hl 0 rfl) ?_
    refine lv_iconst (v := 1) hx hb dX1_seal_42 (by decide) ?_
    refine qi_ld (q0 := (4 + q0)) 1 hC hKz hP (wj_rt (X := [_, _, _, _]) ha) rfl (by decide) (by decide) dX1_seal_43 ?_
    rw [ey]
    have hF := wj_Fl (X := [(b92, .inr (3, [.ref v92, .int 0, .int 0, .int 0])), (v92, .inl (cB, 16, .inl (fun _ => 0)))]) (M := (b91, .inr (3, [.ref v_20, .int 0, .int 0, .int (nI (((0 + (tL 0)) + (k9 x)) + (tL 1)))])) :: (v_20, .inl (cB, m_20, .inl g_20)) :: Wd) hD hS hA
    have hPl : va_P D vwCl [(b92, .inr (3, [.ref v92, .int 0, .int 0, .int 0])), (v92, .inl (cB, 16, .inl (fun _ => 0)))] H := wj_Pl (X := [(b92, .inr (3, [.ref v92, .int 0, .int 0, .int 0])), (v92, .inl (cB, 16, .inl (fun _ => 0)))]) (M := (b91, .inr (3, [.ref v_20, .int 0, .int 0, .int (nI (((0 + (tL 0)) + (k9 x)) + (tL 1)))])) :: (v_20, .inl (cB, m_20, .inl g_20)) :: Wd) hP
    have hDl := wj_Dl (X := [(b92, .inr (3, [.ref v92, .int 0, .int 0, .int 0])), (v92, .inl (cB, 16, .inl (fun _ => 0)))]) (M := (b91, .inr (3, [.ref v_20, .int 0, .int 0, .int (nI (((0 + (tL 0)) + (k9 x)) + (tL 1)))])) :: (v_20, .inl (cB, m_20, .inl g_20)) :: Wd) hD
    refine va_callr (va_runV (As := [.int (nI y)]) (rest := [.ref b91]) hC (c_J4_append_bf812 l H.size y hy9 (Or.inl rfl) (Nat.zero_le _) sb_fit0 (show 0 + (k9 y) ≤ 34 from by have h8 := k9_le x; have h7 := k9_le y; have l0 := tL0; have l1 := tL1; have l2 := tL2; have l3 := tL3; omega)) (cwV 1 hts (gi_V mM_X1_75 mV_J4_append_bf812 mS_J4_append_bf812 mI_StringBuilder mC_J4_append_bf812) rfl rfl rfl (by decide +kernel) ⟨Nat.le_of_ble_eq_true rfl, Nat.le_of_ble_eq_true rfl⟩) ⟨fun a1 U g mk q9 => ⟨q9.1, q9.2.1, ⟨q9.2.2.1.1, va_K.moved (u := U) (U := U.calling g mk a1) (Vm.Alike.refl U.vm) q9.2.2.1.2⟩, q9.2.2.2.1, ⟨jH.moved (u := U) (U := U.calling g mk a1) (Vm.Alike.refl U.vm) q9.2.2.2.2.1, dH.moved (u := U) (U := U.calling g mk a1) (Vm.Alike.refl U.vm) q9.2.2.2.2.2⟩⟩, va_recv (q := (RJ4, TJ4, 4)) hK hPl (ci := 3) (q0 := 0) rfl rfl, fun U hU hW => ⟨rfl, by rw [hU], ⟨by rw [hU]; exact hPl, va_K.moved hW.alike hK⟩, hDl.weaken (fun _ _ _ _ => trivial), ⟨by rw [hU]; exact (((hJ.kept hS.2.1).narrow hF)).moved hW.alike, by rw [hU]; exact (((hG.kept hS.2.1).narrow hF)).moved hW.alike⟩⟩⟩ rfl rfl hl.1 rfl (lv_room (Nat.le_of_ble_eq_true rfl)) dX1_seal_44 ⟨(by show _ ≤ 14; omega), (by show _ ≤ 320; omega)⟩) hS (fun q _ h => hF q h) hF (fun u9 ra9 t H1 locs ht hvm hw hB hz1 hk1 hS => ?_)
    obtain ⟨hP1, hD1, hx1⟩ := hB
    rw [ht] at hP1
    obtain ⟨hP, hD⟩ := wj_l (X := [(b92, .inr (3, [.ref v92, .int 0, .int 0, .int 0])), (v92, .inl (cB, 16, .inl (fun _ => 0)))]) (M := (b91, .inr (3, [.ref v_20, .int 0, .int 0, .int (nI (((0 + (tL 0)) + (k9 x)) + (tL 1)))])) :: (v_20, .inl (cB, m_20, .inl g_20)) :: Wd) hP hD hk1 hF hP1 hD1
    clear hP1 hD1 hPl hDl hF
    generalize H1 = H at hP hS ⊢
    obtain ⟨v_44, m_44, g_44⟩ := u9
    obtain ⟨hm_44, hc_44, hf_44, heq9, hnew9⟩ := hw
    have hT_44 : ∀ j, j < 0 + (k9 y) → g_44 j = cat (fun _ => 0) 0 (dgt y) j := cat_of (T := (fun _ => 0)) (fun j hj => absurd hj (Nat.not_lt_zero j)) heq9 hnew9
    have hm_44 : m_44 = 16 ∨ m_44 = 34 := hm_44
    have hc_44 : 0 + (k9 y) ≤ m_44 := hc_44
    have hf_44 : sb_Fit g_44 := hf_44
    have hP : va_P D vwCl ((b92, .inr (3, [.ref v_44, .int 0, .int 0, .int (nI (0 + (k9 y)))])) :: (v_44, .inl (cB, m_44, .inl g_44)) :: (b91, .inr (3, [.ref v_20, .int 0, .int 0, .int (nI (((0 + (tL 0)) + (k9 x)) + (tL 1)))])) :: (v_20, .inl (cB, m_20, .inl g_20)) :: Wd) H := hP
    have hD : va_D A ((b92, .inr (3, [.ref v_44, .int 0, .int 0, .int (nI (0 + (k9 y)))])) :: (v_44, .inl (cB, m_44, .inl g_44)) :: (b91, .inr (3, [.ref v_20, .int 0, .int 0, .int (nI (((0 + (tL 0)) + (k9 x)) + (tL 1)))])) :: (v_20, .inl (cB, m_20, .inl g_20)) :: Wd) := hD
    have ebr : ra9 = b92 := hx1
    rw [ebr]
    refine va_ldcS hx hb hown hE.2.2.2.2.2.2.2.2.2 dX1_seal_47 ?_
    have hF := wj_Fl (X := [(b92, .inr (3, [.ref v_44, .int 0, .int 0, .int (nI (0 + (k9 y)))])), (v_44, .inl (cB, m_44, .inl g_44))]) (M := (b91, .inr (3, [.ref v_20, .int 0, .int 0, .int (nI (((0 + (tL 0)) + (k9 x)) + (tL 1)))])) :: (v_20, .inl (cB, m_20, .inl g_20)) :: Wd) hD hS hA
    have hPl : va_P D vwCl [(b92, .inr (3, [.ref v_44, .int 0, .int 0, .int (nI (0 + (k9 y)))])), (v_44, .inl (cB, m_44, .inl g_44))] H := wj_Pl (X := [(b92, .inr (3, [.ref v_44, .int 0, .int 0, .int (nI (0 + (k9 y)))])), (v_44, .inl (cB, m_44, .inl g_44))]) (M := (b91, .inr (3, [.ref v_20, .int 0, .int 0, .int (nI (((0 + (tL 0)) + (k9 x)) + (tL 1)))])) :: (v_20, .inl (cB, m_20, .inl g_20)) :: Wd) hP
    have hDl := wj_Dl (X := [(b92, .inr (3, [.ref v_44, .int 0, .int 0, .int (nI (0 + (k9 y)))])), (v_44, .inl (cB, m_44, .inl g_44))]) (M := (b91, .inr (3, [.ref v_20, .int 0, .int 0, .int (nI (((0 + (tL 0)) + (k9 x)) + (tL 1)))])) :: (v_20, .inl (cB, m_20, .inl g_20)) :: Wd) hD
    refine va_callr (va_runV (As := [.ref (q9 3)]) (rest := [.ref b91]) hC (c_J4_append_15ec4 l H.size hm_44 hc_44 hf_44 (show (0 + (k9 y)) + (tL 3) ≤ 34 from by have h8 := k9_le x; have h7 := k9_le y; have l0 := tL0; have l1 := tL1; have l2 := tL2; have l3 := tL3; omega) (tF_fit 3 (by decide))) (cwV 1 hts (gi_V mM_X1_71 mV_J4_append_15ec4 mS_J4_append_15ec4 mI_StringBuilder mC_J4_append_15ec4) rfl rfl rfl (by decide +kernel) ⟨Nat.le_of_ble_eq_true rfl, Nat.le_of_ble_eq_true rfl⟩) ⟨fun a1 U g mk q9 => ⟨q9.1, q9.2.1, ⟨q9.2.2.1.1, va_K.moved (u := U) (U := U.calling g mk a1) (Vm.Alike.refl U.vm) q9.2.2.1.2⟩, q9.2.2.2.1, ⟨sH.moved (u := U) (U := U.calling g mk a1) (Vm.Alike.refl U.vm) q9.2.2.2.2.1, jH.moved (u := U) (U := U.calling g mk a1) (Vm.Alike.refl U.vm) q9.2.2.2.2.2⟩⟩, va_recv (q := (RJ4, TJ4, 4)) hK hPl (ci := 3) (q0 := 0) rfl rfl, fun U hU hW => ⟨rfl, by rw [hU], ⟨by rw [hU]; exact hPl, va_K.moved hW.alike hK⟩, hDl.weaken (fun _ _ _ _ => trivial), ⟨by rw [hU]; exact ((((hE.1 3 (by decide)).kept hS.2.1).narrow hF)).moved hW.alike, by rw [hU]; exact (((hJ.kept hS.2.1).narrow hF)).moved hW.alike⟩⟩⟩ rfl rfl hl.1 rfl (lv_room (Nat.le_of_ble_eq_true rfl)) dX1_seal_49 ⟨(by show _ ≤ 14; omega), (by show _ ≤ 320; omega)⟩) hS (fun q _ h => hF q h) hF (fun u9 ra9 t H1 locs ht hvm hw hB hz1 hk1 hS => ?_)
    obtain ⟨hP1, hD1, hx1⟩ := hB
    rw [ht] at hP1
    obtain ⟨hP, hD⟩ := wj_l (X := [(b92, .inr (3, [.ref v_44, .int 0, .int 0, .int (nI (0 + (k9 y)))])), (v_44, .inl (cB, m_44, .inl g_44))]) (M := (b91, .inr (3, [.ref v_20, .int 0, .int 0, .int (nI (((0 + (tL 0)) + (k9 x)) + (tL 1)))])) :: (v_20, .inl (cB, m_20, .inl g_20)) :: Wd) hP hD hk1 hF hP1 hD1
    clear hP1 hD1 hPl hDl hF
    generalize H1 = H at hP hS ⊢
    obtain ⟨v_49, m_49, g_49⟩ := u9
    obtain ⟨hm_49, hc_49, hf_49, heq9, hnew9⟩ := hw
    have hT_49 : ∀ j, j < (0 + (k9 y)) + (tL 3) → g_49 j = cat (cat (fun _ => 0) 0 (dgt y)) (0 + (k9 y)) (tF 3) j := cat_of (T := cat (fun _ => 0) 0 (dgt y)) hT_44 heq9 hnew9
    have hm_49 : m_49 = 16 ∨ m_49 = 34 := hm_49
    have hc_49 : (0 + (k9 y)) + (tL 3) ≤ m_49 := hc_49
    have hf_49 : sb_Fit g_49 := hf_49
    have hP : va_P D vwCl ((b92, .inr (3, [.ref v_49, .int 0, .int 0, .int (nI ((0 + (k9 y)) + (tL 3)))])) :: (v_49, .inl (cB, m_49, .inl g_49)) :: (b91, .inr (3, [.ref v_20, .int 0, .int 0, .int (nI (((0 + (tL 0)) + (k9 x)) + (tL 1)))])) :: (v_20, .inl (cB, m_20, .inl g_20)) :: Wd) H := hP
    have hD : va_D A ((b92, .inr (3, [.ref v_49, .int 0, .int 0, .int (nI ((0 + (k9 y)) + (tL 3)))])) :: (v_49, .inl (cB, m_49, .inl g_49)) :: (b91, .inr (3, [.ref v_20, .int 0, .int 0, .int (nI (((0 + (tL 0)) + (k9 x)) + (tL 1)))])) :: (v_20, .inl (cB, m_20, .inl g_20)) :: Wd) := hD
    have ebr : ra9 = b92 := hx1
    rw [ebr]
    have hF := wj_F hD hS hA
    refine va_callr (va_runV (As := []) (rest := [.ref b91]) hC (c_J4_toString_0e30d l H.size (q0 := 0) (q1 := 1) rfl rfl (by have h9 := hm_49; have h6 := hc_49; have h8 := k9_le x; have h7 := k9_le y; have l0 := tL0; have l1 := tL1; have l2 := tL2; have l3 := tL3; omega) (by have h9 := hm_49; omega) hf_49) (cwV 0 hts (gi_V mM_X1_84 mV_J4_toString_0e30d mS_J4_toString_0e30d mI_StringBuilder mC_J4_toString_0e30d) rfl rfl rfl (by decide +kernel) ⟨Nat.le_of_ble_eq_true rfl, Nat.le_of_ble_eq_true rfl⟩) ⟨fun a1 U g mk q9 => ⟨q9.1, q9.2.1, ⟨q9.2.2.1.1, va_K.moved (u := U) (U := U.calling g mk a1) (Vm.Alike.refl U.vm) q9.2.2.1.2⟩, q9.2.2.2.1, jH.moved (u := U) (U := U.calling g mk a1) (Vm.Alike.refl U.vm) q9.2.2.2.2⟩, va_recv (q := (RJ4, TJ4, 4)) hK hP (ci := 3) (q0 := 0) rfl rfl, fun U hU hW => ⟨rfl, by rw [hU], ⟨by rw [hU]; exact hP, va_K.moved hW.alike hK⟩, hD.weaken (fun _ _ _ _ => trivial), (by rw [hU]; exact ((hJ.kept hS.2.1).narrow hF).moved hW.alike)⟩⟩ rfl rfl hl.1 rfl (lv_room (Nat.le_of_ble_eq_true rfl)) dX1_seal_52 ⟨(by show _ ≤ 14; omega), (by show _ ≤ 320; omega)⟩) hS (fun q _ h => hF q h) hF (fun u9 ra9 t H locs ht hvm hw hB hz1 hk1 hS => ?_)
    obtain ⟨hP, hD⟩ := hB
    rw [ht] at hP
    have hD := hD.weaken (fun _ q9 _ h => hF q9.1 h)
    have hTs_52 : ∀ j, j < (0 + (k9 y)) + (tL 3) → (va_cpy g_49 (fun _ => 0) 0 0 ((0 + (k9 y)) + (tL 3))) j = (cat (cat (fun _ => 0) 0 (dgt y)) (0 + (k9 y)) (tF 3)) j := fun j hj => (sb_cpy0 hj).trans (hT_49 j hj)
    obtain ⟨u_52, hu_52⟩ : ∃ z9, z9 = u9 := ⟨_, rfl⟩
    obtain ⟨s_52, hs_52⟩ : ∃ z9, z9 = ra9 := ⟨_, rfl⟩
    rw [← hu_52, ← hs_52] at hP hD
    rw [← hs_52]
    have hP : va_P D vwCl ((u_52, .inl (cB, ((0 + (k9 y)) + (tL 3)), .inl (va_cpy g_49 (fun _ => 0) 0 0 ((0 + (k9 y)) + (tL 3))))) :: (s_52, .inr (2, [.ref u_52, .int 0, .int 0, .int 0])) :: (b92, .inr (3, [.ref v_49, .int 0, .int 0, .int (nI ((0 + (k9 y)) + (tL 3)))])) :: (v_49, .inl (cB, m_49, .inl g_49)) :: (b91, .inr (3, [.ref v_20, .int 0, .int 0, .int (nI (((0 + (tL 0)) + (k9 x)) + (tL 1)))])) :: (v_20, .inl (cB, m_20, .inl g_20)) :: Wd) H := hP
    have hD : va_D A ((u_52, .inl (cB, ((0 + (k9 y)) + (tL 3)), .inl (va_cpy g_49 (fun _ => 0) 0 0 ((0 + (k9 y)) + (tL 3))))) :: (s_52, .inr (2, [.ref u_52, .int 0, .int 0, .int 0])) :: (b92, .inr (3, [.ref v_49, .int 0, .int 0, .int (nI ((0 + (k9 y)) + (tL 3)))])) :: (v_49, .inl (cB, m_49, .inl g_49)) :: (b91, .inr (3, [.ref v_20, .int 0, .int 0, .int (nI (((0 + (tL 0)) + (k9 x)) + (tL 1)))])) :: (v_20, .inl (cB, m_20, .inl g_20)) :: Wd) := hD
    have hP := wj_xP (X := [(u_52, .inl (cB, ((0 + (k9 y)) + (tL 3)), .inl (va_cpy g_49 (fun _ => 0) 0 0 ((0 + (k9 y)) + (tL 3))))), (s_52, .inr (2, [.ref u_52, .int 0, .int 0, .int 0])), (b92, .inr (3, [.ref v_49, .int 0, .int 0, .int (nI ((0 + (k9 y)) + (tL 3)))])), (v_49, .inl (cB, m_49, .inl g_49))]) (Y := [(b91, .inr (3, [.ref v_20, .int 0, .int 0, .int (nI (((0 + (tL 0)) + (k9 x)) + (tL 1)))])), (v_20, .inl (cB, m_20, .inl g_20))]) (M := Wd) hP
    have hD := wj_xD (X := [(u_52, .inl (cB, ((0 + (k9 y)) + (tL 3)), .inl (va_cpy g_49 (fun _ => 0) 0 0 ((0 + (k9 y)) + (tL 3))))), (s_52, .inr (2, [.ref u_52, .int 0, .int 0, .int 0])), (b92, .inr (3, [.ref v_49, .int 0, .int 0, .int (nI ((0 + (k9 y)) + (tL 3)))])), (v_49, .inl (cB, m_49, .inl g_49))]) (Y := [(b91, .inr (3, [.ref v_20, .int 0, .int 0, .int (nI (((0 + (tL 0)) + (k9 x)) + (tL 1)))])), (v_20, .inl (cB, m_20, .inl g_20))]) (M := Wd) hD
    have hP : va_P D vwCl ((b91, .inr (3, [.ref v_20, .int 0, .int 0, .int (nI (((0 + (tL 0)) + (k9 x)) + (tL 1)))])) :: (v_20, .inl (cB, m_20, .inl g_20)) :: (u_52, .inl (cB, ((0 + (k9 y)) + (tL 3)), .inl (va_cpy g_49 (fun _ => 0) 0 0 ((0 + (k9 y)) + (tL 3))))) :: (s_52, .inr (2, [.ref u_52, .int 0, .int 0, .int 0])) :: (b92, .inr (3, [.ref v_49, .int 0, .int 0, .int (nI ((0 + (k9 y)) + (tL 3)))])) :: (v_49, .inl (cB, m_49, .inl g_49)) :: Wd) H := hP
    have hD : va_D A ((b91, .inr (3, [.ref v_20, .int 0, .int 0, .int (nI (((0 + (tL 0)) + (k9 x)) + (tL 1)))])) :: (v_20, .inl (cB, m_20, .inl g_20)) :: (u_52, .inl (cB, ((0 + (k9 y)) + (tL 3)), .inl (va_cpy g_49 (fun _ => 0) 0 0 ((0 + (k9 y)) + (tL 3))))) :: (s_52, .inr (2, [.ref u_52, .int 0, .int 0, .int 0])) :: (b92, .inr (3, [.ref v_49, .int 0, .int 0, .int (nI ((0 + (k9 y)) + (tL 3)))])) :: (v_49, .inl (cB, m_49, .inl g_49)) :: Wd) := hD
    have hF := wj_Fl (X := [(b91, .inr (3, [.ref v_20, .int 0, .int 0, .int (nI (((0 + (tL 0)) + (k9 x)) + (tL 1)))])), (v_20, .inl (cB, m_20, .inl g_20))]) (M := (u_52, .inl (cB, ((0 + (k9 y)) + (tL 3)), .inl (va_cpy g_49 (fun _ => 0) 0 0 ((0 + (k9 y)) + (tL 3))))) :: (s_52, .inr (2, [.ref u_52, .int 0, .int 0, .int 0])) :: (b92, .inr (3, [.ref v_49, .int 0, .int 0, .int (nI ((0 + (k9 y)) + (tL 3)))])) :: (v_49, .inl (cB, m_49, .inl g_49)) :: Wd) hD hS hA
    have hPl : va_P D vwCl [(b91, .inr (3, [.ref v_20, .int 0, .int 0, .int (nI (((0 + (tL 0)) + (k9 x)) + (tL 1)))])), (v_20, .inl (cB, m_20, .inl g_20))] H := wj_Pl (X := [(b91, .inr (3, [.ref v_20, .int 0, .int 0, .int (nI (((0 + (tL 0)) + (k9 x)) + (tL 1)))])), (v_20, .inl (cB, m_20, .inl g_20))]) (M := (u_52, .inl (cB, ((0 + (k9 y)) + (tL 3)), .inl (va_cpy g_49 (fun _ => 0) 0 0 ((0 + (k9 y)) + (tL 3))))) :: (s_52, .inr (2, [.ref u_52, .int 0, .int 0, .int 0])) :: (b92, .inr (3, [.ref v_49, .int 0, .int 0, .int (nI ((0 + (k9 y)) + (tL 3)))])) :: (v_49, .inl (cB, m_49, .inl g_49)) :: Wd) hP
    have hDl := wj_Dl (X := [(b91, .inr (3, [.ref v_20, .int 0, .int 0, .int (nI (((0 + (tL 0)) + (k9 x)) + (tL 1)))])), (v_20, .inl (cB, m_20, .inl g_20))]) (M := (u_52, .inl (cB, ((0 + (k9 y)) + (tL 3)), .inl (va_cpy g_49 (fun _ => 0) 0 0 ((0 + (k9 y)) + (tL 3))))) :: (s_52, .inr (2, [.ref u_52, .int 0, .int 0, .int 0])) :: (b92, .inr (3, [.ref v_49, .int 0, .int 0, .int (nI ((0 + (k9 y)) + (tL 3)))])) :: (v_49, .inl (cB, m_49, .inl g_49)) :: Wd) hD
    have hEm : sH s_52 u_52 ((0 + (k9 y)) + (tL 3)) (va_cpy g_49 (fun _ => 0) 0 0 ((0 + (k9 y)) + (tL 3))) (va_A [(b91, .inr (3, [.ref v_20, .int 0, .int 0, .int (nI (((0 + (tL 0)) + (k9 x)) + (tL 1)))])), (v_20, .inl (cB, m_20, .inl g_20))] H.size) s H := sH_of hts hK hP (i := 2) (j := 3) rfl rfl (fun h9 => h9.elim (fun ⟨k9_, e9_, h9⟩ => wj_ne (X := [(b91, .inr (3, [.ref v_20, .int 0, .int 0, .int (nI (((0 + (tL 0)) + (k9 x)) + (tL 1)))])), (v_20, .inl (cB, m_20, .inl g_20))]) (M := (u_52, .inl (cB, ((0 + (k9 y)) + (tL 3)), .inl (va_cpy g_49 (fun _ => 0) 0 0 ((0 + (k9 y)) + (tL 3))))) :: (s_52, .inr (2, [.ref u_52, .int 0, .int 0, .int 0])) :: (b92, .inr (3, [.ref v_49, .int 0, .int 0, .int (nI ((0 + (k9 y)) + (tL 3)))])) :: (v_49, .inl (cB, m_49, .inl g_49)) :: Wd) hD h9 (j := 0) rfl rfl) (fun h9 => absurd (hP 2 _ rfl).lt (Nat.not_lt.mpr h9))) (fun h9 => h9.elim (fun ⟨k9_, e9_, h9⟩ => wj_ne (X := [(b91, .inr (3, [.ref v_20, .int 0, .int 0, .int (nI (((0 + (tL 0)) + (k9 x)) + (tL 1)))])), (v_20, .inl (cB, m_20, .inl g_20))]) (M := (u_52, .inl (cB, ((0 + (k9 y)) + (tL 3)), .inl (va_cpy g_49 (fun _ => 0) 0 0 ((0 + (k9 y)) + (tL 3))))) :: (s_52, .inr (2, [.ref u_52, .int 0, .int 0, .int 0])) :: (b92, .inr (3, [.ref v_49, .int 0, .int 0, .int (nI ((0 + (k9 y)) + (tL 3)))])) :: (v_49, .inl (cB, m_49, .inl g_49)) :: Wd) hD h9 (j := 1) rfl rfl) (fun h9 => absurd (hP 3 _ rfl).lt (Nat.not_lt.mpr h9)))
    refine va_callr (va_runV (As := [.ref s_52]) (rest := []) hC (c_J4_append_15ec4 l H.size hm_20 hc_20 hf_20 (show (((0 + (tL 0)) + (k9 x)) + (tL 1)) + ((0 + (k9 y)) + (tL 3)) ≤ 34 from by have h8 := k9_le x; have h7 := k9_le y; have l0 := tL0; have l1 := tL1; have l2 := tL2; have l3 := tL3; omega) (sb_fitC hf_49 sb_fit0)) (cwV 1 hts (gi_V mM_X1_71 mV_J4_append_15ec4 mS_J4_append_15ec4 mI_StringBuilder mC_J4_append_15ec4) rfl rfl rfl (by decide +kernel) ⟨Nat.le_of_ble_eq_true rfl, Nat.le_of_ble_eq_true rfl⟩) ⟨fun a1 U g mk q9 => ⟨q9.1, q9.2.1, ⟨q9.2.2.1.1, va_K.moved (u := U) (U := U.calling g mk a1) (Vm.Alike.refl U.vm) q9.2.2.1.2⟩, q9.2.2.2.1, ⟨sH.moved (u := U) (U := U.calling g mk a1) (Vm.Alike.refl U.vm) q9.2.2.2.2.1, jH.moved (u := U) (U := U.calling g mk a1) (Vm.Alike.refl U.vm) q9.2.2.2.2.2⟩⟩, va_recv (q := (RJ4, TJ4, 4)) hK hPl (ci := 3) (q0 := 0) rfl rfl, fun U hU hW => ⟨rfl, by rw [hU], ⟨by rw [hU]; exact hPl, va_K.moved hW.alike hK⟩, hDl.weaken (fun _ _ _ _ => trivial), ⟨by rw [hU]; exact (hEm).moved hW.alike, by rw [hU]; exact (((hJ.kept hS.2.1).narrow hF)).moved hW.alike⟩⟩⟩ rfl rfl hl.1 rfl (lv_room (Nat.le_of_ble_eq_true rfl)) dX1_seal_55 ⟨(by show _ ≤ 14; omega), (by show _ ≤ 320; omega)⟩) hS (fun q _ h => hF q h) hF (fun u9 ra9 t H1 locs ht hvm hw hB hz1 hk1 hS => ?_)
    obtain ⟨hP1, hD1, hx1⟩ := hB
    rw [ht] at hP1
    obtain ⟨hP, hD⟩ := wj_l (X := [(b91, .inr (3, [.ref v_20, .int 0, .int 0, .int (nI (((0 + (tL 0)) + (k9 x)) + (tL 1)))])), (v_20, .inl (cB, m_20, .inl g_20))]) (M := (u_52, .inl (cB, ((0 + (k9 y)) + (tL 3)), .inl (va_cpy g_49 (fun _ => 0) 0 0 ((0 + (k9 y)) + (tL 3))))) :: (s_52, .inr (2, [.ref u_52, .int 0, .int 0, .int 0])) :: (b92, .inr (3, [.ref v_49, .int 0, .int 0, .int (nI ((0 + (k9 y)) + (tL 3)))])) :: (v_49, .inl (cB, m_49, .inl g_49)) :: Wd) hP hD hk1 hF hP1 hD1
    clear hP1 hD1 hPl hDl hF
    generalize H1 = H at hP hS ⊢
    obtain ⟨v_55, m_55, g_55⟩ := u9
    obtain ⟨hm_55, hc_55, hf_55, heq9, hnew9⟩ := hw
    have hT_55 : ∀ j, j < (((0 + (tL 0)) + (k9 x)) + (tL 1)) + ((0 + (k9 y)) + (tL 3)) → g_55 j = cat (cat (cat (cat (fun _ => 0) 0 (tF 0)) (0 + (tL 0)) (dgt x)) ((0 + (tL 0)) + (k9 x)) (tF 1)) (((0 + (tL 0)) + (k9 x)) + (tL 1)) (va_cpy g_49 (fun _ => 0) 0 0 ((0 + (k9 y)) + (tL 3))) j := cat_of (T := cat (cat (cat (fun _ => 0) 0 (tF 0)) (0 + (tL 0)) (dgt x)) ((0 + (tL 0)) + (k9 x)) (tF 1)) hT_20 heq9 hnew9
    have hm_55 : m_55 = 16 ∨ m_55 = 34 := hm_55
    have hc_55 : (((0 + (tL 0)) + (k9 x)) + (tL 1)) + ((0 + (k9 y)) + (tL 3)) ≤ m_55 := hc_55
    have hf_55 : sb_Fit g_55 := hf_55
    have hP : va_P D vwCl ((b91, .inr (3, [.ref v_55, .int 0, .int 0, .int (nI ((((0 + (tL 0)) + (k9 x)) + (tL 1)) + ((0 + (k9 y)) + (tL 3))))])) :: (v_55, .inl (cB, m_55, .inl g_55)) :: (u_52, .inl (cB, ((0 + (k9 y)) + (tL 3)), .inl (va_cpy g_49 (fun _ => 0) 0 0 ((0 + (k9 y)) + (tL 3))))) :: (s_52, .inr (2, [.ref u_52, .int 0, .int 0, .int 0])) :: (b92, .inr (3, [.ref v_49, .int 0, .int 0, .int (nI ((0 + (k9 y)) + (tL 3)))])) :: (v_49, .inl (cB, m_49, .inl g_49)) :: Wd) H := hP
    have hD : va_D A ((b91, .inr (3, [.ref v_55, .int 0, .int 0, .int (nI ((((0 + (tL 0)) + (k9 x)) + (tL 1)) + ((0 + (k9 y)) + (tL 3))))])) :: (v_55, .inl (cB, m_55, .inl g_55)) :: (u_52, .inl (cB, ((0 + (k9 y)) + (tL 3)), .inl (va_cpy g_49 (fun _ => 0) 0 0 ((0 + (k9 y)) + (tL 3))))) :: (s_52, .inr (2, [.ref u_52, .int 0, .int 0, .int 0])) :: (b92, .inr (3, [.ref v_49, .int 0, .int 0, .int (nI ((0 + (k9 y)) + (tL 3)))])) :: (v_49, .inl (cB, m_49, .inl g_49)) :: Wd) := hD
    have ebr : ra9 = b91 := hx1
    rw [ebr]
    have hF := wj_F hD hS hA
    refine va_callr (va_runV (As := []) (rest := []) hC (c_J4_toString_0e30d l H.size (q0 := 0) (q1 := 1) rfl rfl (by have h9 := hm_55; have h6 := hc_55; have h8 := k9_le x; have h7 := k9_le y; have l0 := tL0; have l1 := tL1; have l2 := tL2; have l3 := tL3; omega) (by have h9 := hm_55; omega) hf_55) (cwV 0 hts (gi_V mM_X1_84 mV_J4_toString_0e30d mS_J4_toString_0e30d mI_StringBuilder mC_J4_toString_0e30d) rfl rfl rfl (by decide +kernel) ⟨Nat.le_of_ble_eq_true rfl, Nat.le_of_ble_eq_true rfl⟩) ⟨fun a1 U g mk q9 => ⟨q9.1, q9.2.1, ⟨q9.2.2.1.1, va_K.moved (u := U) (U := U.calling g mk a1) (Vm.Alike.refl U.vm) q9.2.2.1.2⟩, q9.2.2.2.1, jH.moved (u := U) (U := U.calling g mk a1) (Vm.Alike.refl U.vm) q9.2.2.2.2⟩, va_recv (q := (RJ4, TJ4, 4)) hK hP (ci := 3) (q0 := 0) rfl rfl, fun U hU hW => ⟨rfl, by rw [hU], ⟨by rw [hU]; exact hP, va_K.moved hW.alike hK⟩, hD.weaken (fun _ _ _ _ => trivial), (by rw [hU]; exact ((hJ.kept hS.2.1).narrow hF).moved hW.alike)⟩⟩ rfl rfl hl.1 rfl (lv_room (Nat.le_of_ble_eq_true rfl)) dX1_seal_58 ⟨(by show _ ≤ 14; omega), (by show _ ≤ 320; omega)⟩) hS (fun q _ h => hF q h) hF (fun u9 ra9 t H locs ht hvm hw hB hz1 hk1 hS => ?_)
    obtain ⟨hP, hD⟩ := hB
    rw [ht] at hP
    have hD := hD.weaken (fun _ q9 _ h => hF q9.1 h)
    have hTs_58 : ∀ j, j < (((0 + (tL 0)) + (k9 x)) + (tL 1)) + ((0 + (k9 y)) + (tL 3)) → (va_cpy g_55 (fun _ => 0) 0 0 ((((0 + (tL 0)) + (k9 x)) + (tL 1)) + ((0 + (k9 y)) + (tL 3)))) j = (cat (cat (cat (cat (fun _ => 0) 0 (tF 0)) (0 + (tL 0)) (dgt x)) ((0 + (tL 0)) + (k9 x)) (tF 1)) (((0 + (tL 0)) + (k9 x)) + (tL 1)) (va_cpy g_49 (fun _ => 0) 0 0 ((0 + (k9 y)) + (tL 3)))) j := fun j hj => (sb_cpy0 hj).trans (hT_55 j hj)
    obtain ⟨u_58, hu_58⟩ : ∃ z9, z9 = u9 := ⟨_, rfl⟩
    obtain ⟨s_58, hs_58⟩ : ∃ z9, z9 = ra9 := ⟨_, rfl⟩
    rw [← hu_58, ← hs_58] at hP hD
    rw [← hs_58]
    have hP : va_P D vwCl ((u_58, .inl (cB, ((((0 + (tL 0)) + (k9 x)) + (tL 1)) + ((0 + (k9 y)) + (tL 3))), .inl (va_cpy g_55 (fun _ => 0) 0 0 ((((0 + (tL 0)) + (k9 x)) + (tL 1)) + ((0 + (k9 y)) + (tL 3)))))) :: (s_58, .inr (2, [.ref u_58, .int 0, .int 0, .int 0])) :: (b91, .inr (3, [.ref v_55, .int 0, .int 0, .int (nI ((((0 + (tL 0)) + (k9 x)) + (tL 1)) + ((0 + (k9 y)) + (tL 3))))])) :: (v_55, .inl (cB, m_55, .inl g_55)) :: (u_52, .inl (cB, ((0 + (k9 y)) + (tL 3)), .inl (va_cpy g_49 (fun _ => 0) 0 0 ((0 + (k9 y)) + (tL 3))))) :: (s_52, .inr (2, [.ref u_52, .int 0, .int 0, .int 0])) :: (b92, .inr (3, [.ref v_49, .int 0, .int 0, .int (nI ((0 + (k9 y)) + (tL 3)))])) :: (v_49, .inl (cB, m_49, .inl g_49)) :: Wd) H := hP
    have hD : va_D A ((u_58, .inl (cB, ((((0 + (tL 0)) + (k9 x)) + (tL 1)) + ((0 + (k9 y)) + (tL 3))), .inl (va_cpy g_55 (fun _ => 0) 0 0 ((((0 + (tL 0)) + (k9 x)) + (tL 1)) + ((0 + (k9 y)) + (tL 3)))))) :: (s_58, .inr (2, [.ref u_58, .int 0, .int 0, .int 0])) :: (b91, .inr (3, [.ref v_55, .int 0, .int 0, .int (nI ((((0 + (tL 0)) + (k9 x)) + (tL 1)) + ((0 + (k9 y)) + (tL 3))))])) :: (v_55, .inl (cB, m_55, .inl g_55)) :: (u_52, .inl (cB, ((0 + (k9 y)) + (tL 3)), .inl (va_cpy g_49 (fun _ => 0) 0 0 ((0 + (k9 y)) + (tL 3))))) :: (s_52, .inr (2, [.ref u_52, .int 0, .int 0, .int 0])) :: (b92, .inr (3, [.ref v_49, .int 0, .int 0, .int (nI ((0 + (k9 y)) + (tL 3)))])) :: (v_49, .inl (cB, m_49, .inl g_49)) :: Wd) := hD
    refine lv_astore_n (lv' := [(1, .ref s_58), (0, .ref a9)]) hx hb dX1_seal_61 rfl hl (by decide) rfl (fun ls hl => ?_)
    refine lv_bipush (v := 7) hx hb dX1_seal_62 (by decide) ?_
    refine lv_istore_n (lv' := [(2, .int 7), (1, .ref s_58), (0, .ref a9)]) hx hb dX1_seal_64 rfl hl (by decide) rfl (fun ls hl => ?_)
    refine lv_iconst (v := 0) hx hb dX1_seal_65 (by decide) ?_
    refine lv_istore_n (lv' := [(3, .int 0), (2, .int 7), (1, .ref s_58), (0, .ref a9)]) hx hb dX1_seal_66 rfl hl (by decide) rfl (fun ls hl => ?_)
    have hN : (((0 + (tL 0)) + (k9 x)) + (tL 1)) + ((0 + (k9 y)) + (tL 3)) < 2 ^ 31 := by have h9 := k9_le x; omega
    have hJ9 : jH nA s H := hJ.at hS
    have hE9 : sH s_58 u_58 ((((0 + (tL 0)) + (k9 x)) + (tL 1)) + ((0 + (k9 y)) + (tL 3))) (va_cpy g_55 (fun _ => 0) 0 0 ((((0 + (tL 0)) + (k9 x)) + (tL 1)) + ((0 + (k9 y)) + (tL 3)))) nA s H := sH_of hts hK hP (i := 0) (j := 1) rfl rfl (fun h9 => h9) (fun h9 => h9)
    have loop_67 : ∀ (f : Nat) (j : Nat) (y9 : Int32), j ≤ (((0 + (tL 0)) + (k9 x)) + (tL 1)) + ((0 + (k9 y)) + (tL 3)) → (((0 + (tL 0)) + (k9 x)) + (tL 1)) + ((0 + (k9 y)) + (tL 3)) + 1 ≤ j + f → y9 = sp_txt (va_cpy g_55 (fun _ => 0) 0 0 ((((0 + (tL 0)) + (k9 x)) + (tL 1)) + ((0 + (k9 y)) + (tL 3)))) 7 j → ∀ ls : Array Slot, lv_has ls 4 [(1, .ref s_58), (2, .int y9), (3, .int (nI j))] → W p l e ({ frames := 6, cells := 14, slots := 320, locals := 135 } : Room) s m ([.ref a9] : List Value).toArray below meth c H locs (0 + 1 + 1 + 1 + 1 + 1 + 1 + 1 + 1 + 1 + 2 + 1 + 2) (0 + 4 + 16 + 34 + 34 + 34 + 4 + 16 + 34 + 34 + 38 + 34 + 38) (MQ below (va_Qi (fun (r : Int32) (u : Unit) => r = sp_seal (nI x) (nI y)) (fun u t9 => va_P D vwCl (Wd) t9.heap ∧ va_D A (Wd)) A) ([.ref a9] : List Value).toArray s 14 320 A) (F0 m 67 ls []) := by
      intro f
      induction f with
      | zero =>
        intro j y9 hj hf
        exact absurd hf (by omega)
      | succ f ih67 =>
        intro j y9 hj hf ey9 ls hl
        refine lv_iload_n hx hb dX1_seal_67 rfl (lv_at hl 2 rfl) ?_
        refine lv_aload_n hx hb dX1_seal_68 rfl (lv_at hl 0 rfl) ?_
        refine k_J0_length_8abf5 hC mM_X1_88 hE9 hJ9 hN hl.1 ⟨Nat.le_of_ble_eq_true rfl, Nat.le_of_ble_eq_true rfl⟩ ⟨(by show _ ≤ 14; omega), (by show _ ≤ 320; omega)⟩ (Nat.le_of_ble_eq_true rfl) dX1_seal_69 ?_
        refine lv_icmp_ge (tgt := 92) hx hb dX1_seal_72 (by decide) (fun c_72 => ?_) (fun c_72 => ?_)
        · have nc_72 : ((((0 + (tL 0)) + (k9 x)) + (tL 1)) + ((0 + (k9 y)) + (tL 3))) ≤ j := nn_le (by omega) c_72
          refine lv_iload_n hx hb dX1_seal_92 rfl (lv_at hl 1 rfl) ?_
          have ej : j = (((0 + (tL 0)) + (k9 x)) + (tL 1)) + ((0 + (k9 y)) + (tL 3)) := by omega
          have hP := wj_Pr (X := [(u_58, .inl (cB, ((((0 + (tL 0)) + (k9 x)) + (tL 1)) + ((0 + (k9 y)) + (tL 3))), .inl (va_cpy g_55 (fun _ => 0) 0 0 ((((0 + (tL 0)) + (k9 x)) + (tL 1)) + ((0 + (k9 y)) + (tL 3)))))), (s_58, .inr (2, [.ref u_58, .int 0, .int 0, .int 0])), (b91, .inr (3, [.ref v_55, .int 0, .int 0, .int (nI ((((0 + (tL 0)) + (k9 x)) + (tL 1)) + ((0 + (k9 y)) + (tL 3))))])), (v_55, .inl (cB, m_55, .inl g_55)), (u_52, .inl (cB, ((0 + (k9 y)) + (tL 3)), .inl (va_cpy g_49 (fun _ => 0) 0 0 ((0 + (k9 y)) + (tL 3))))), (s_52, .inr (2, [.ref u_52, .int 0, .int 0, .int 0])), (b92, .inr (3, [.ref v_49, .int 0, .int 0, .int (nI ((0 + (k9 y)) + (tL 3)))])), (v_49, .inl (cB, m_49, .inl g_49))]) (M := Wd) hP
          have hD := wj_Dr (X := [(u_58, .inl (cB, ((((0 + (tL 0)) + (k9 x)) + (tL 1)) + ((0 + (k9 y)) + (tL 3))), .inl (va_cpy g_55 (fun _ => 0) 0 0 ((((0 + (tL 0)) + (k9 x)) + (tL 1)) + ((0 + (k9 y)) + (tL 3)))))), (s_58, .inr (2, [.ref u_58, .int 0, .int 0, .int 0])), (b91, .inr (3, [.ref v_55, .int 0, .int 0, .int (nI ((((0 + (tL 0)) + (k9 x)) + (tL 1)) + ((0 + (k9 y)) + (tL 3))))])), (v_55, .inl (cB, m_55, .inl g_55)), (u_52, .inl (cB, ((0 + (k9 y)) + (tL 3)), .inl (va_cpy g_49 (fun _ => 0) 0 0 ((0 + (k9 y)) + (tL 3))))), (s_52, .inr (2, [.ref u_52, .int 0, .int 0, .int 0])), (b92, .inr (3, [.ref v_49, .int 0, .int 0, .int (nI ((0 + (k9 y)) + (tL 3)))])), (v_49, .inl (cB, m_49, .inl g_49))]) (M := Wd) hD
          have hfin : y9 = sp_seal (nI x) (nI y) := by
            unfold sp_seal sp_s3
            rw [if_neg c_26, ey9, ej, txt_eq hTs_58, txt_cat, txt_eq hTs_52]
            simp only [txt_cat, txt_dgt hx9, txt_dgt hy9]
            rfl
          refine W.widen (k := 14) (n := 320) (by omega) (by omega) ?_
          exact W.iret (v := y9) hx hb hr (fun t ht hW => ⟨⟨y9, (), rfl, hfin, by rw [ht]; exact hP, hD⟩, hS.F ht⟩) hS.2.2 dX1_seal_93
        · have nc_72 : j < ((((0 + (tL 0)) + (k9 x)) + (tL 1)) + ((0 + (k9 y)) + (tL 3))) := nn_nle (by omega) c_72
          refine lv_iload_n hx hb dX1_seal_75 rfl (lv_at hl 1 rfl) ?_
          refine lv_bipush (v := 31) hx hb dX1_seal_76 (by decide) ?_
          refine lv_imul hx hb dX1_seal_78 ?_
          refine lv_aload_n hx hb dX1_seal_79 rfl (lv_at hl 0 rfl) ?_
          refine lv_iload_n hx hb dX1_seal_80 rfl (lv_at hl 2 rfl) ?_
          refine k_J0_charAt_5068e hC mM_X1_93 hE9 hJ9 (j := j) (by omega) hN hl.1 ⟨Nat.le_of_ble_eq_true rfl, Nat.le_of_ble_eq_true rfl⟩ ⟨(by show _ ≤ 14; omega), (by show _ ≤ 320; omega)⟩ (Nat.le_of_ble_eq_true rfl) dX1_seal_81 ?_
          refine lv_iadd hx hb dX1_seal_84 ?_
          refine lv_istore_n (lv' := [(2, .int ((y9 * 31) + ((va_cpy g_55 (fun _ => 0) 0 0 ((((0 + (tL 0)) + (k9 x)) + (tL 1)) + ((0 + (k9 y)) + (tL 3)))) j &&& 255))), (1, .ref s_58), (3, .int (nI j))]) hx hb dX1_seal_85 rfl hl (by decide) rfl (fun ls hl => ?_)
          refine lv_iinc (v := nI (j + 1)) (lv' := [(3, .int (nI (j + 1))), (2, .int ((y9 * 31) + ((va_cpy g_55 (fun _ => 0) 0 0 ((((0 + (tL 0)) + (k9 x)) + (tL 1)) + ((0 + (k9 y)) + (tL 3)))) j &&& 255))), (1, .ref s_58)]) hx hb dX1_seal_86 hl (k := 2) rfl (nI_1 _) (by decide) rfl (fun ls hl => ?_)
          refine lv_goto (tgt := 67) hx hb dX1_seal_89 (by decide) ?_
          exact ih67 (j + 1) ((y9 * 31) + ((va_cpy g_55 (fun _ => 0) 0 0 ((((0 + (tL 0)) + (k9 x)) + (tL 1)) + ((0 + (k9 y)) + (tL 3)))) j &&& 255)) (by omega) (by omega) (by rw [ey9]; rfl) _ (lv_sub hl [2, 1, 0] rfl)
    exact loop_67 ((((0 + (tL 0)) + (k9 x)) + (tL 1)) + ((0 + (k9 y)) + (tL 3)) + 1) 0 7 (Nat.zero_le _) (by omega) rfl _ (lv_sub hl [2, 1, 0] rfl)
  · have nc_26 : y = 0 := nn_eq (by omega) c_26
    refine va_ldcS hx hb hown hE.2.2.2.2.2.2.2.2.1 dX1_seal_29 ?_
    refine lv_goto (tgt := 55) hx hb dX1_seal_31 (by decide) ?_
    have hF := wj_Fl (X := [(b91, .inr (3, [.ref v_20, .int 0, .int 0, .int (nI (((0 + (tL 0)) + (k9 x)) + (tL 1)))])), (v_20, .inl (cB, m_20, .inl g_20))]) (M := Wd) hD hS hA
    have hPl : va_P D vwCl [(b91, .inr (3, [.ref v_20, .int 0, .int 0, .int (nI (((0 + (tL 0)) + (k9 x)) + (tL 1)))])), (v_20, .inl (cB, m_20, .inl g_20))] H := wj_Pl (X := [(b91, .inr (3, [.ref v_20, .int 0, .int 0, .int (nI (((0 + (tL 0)) + (k9 x)) + (tL 1)))])), (v_20, .inl (cB, m_20, .inl g_20))]) (M := Wd) hP
    have hDl := wj_Dl (X := [(b91, .inr (3, [.ref v_20, .int 0, .int 0, .int (nI (((0 + (tL 0)) + (k9 x)) + (tL 1)))])), (v_20, .inl (cB, m_20, .inl g_20))]) (M := Wd) hD
    refine va_callr (va_runV (As := [.ref (q9 2)]) (rest := []) hC (c_J4_append_15ec4 l H.size hm_20 hc_20 hf_20 (show (((0 + (tL 0)) + (k9 x)) + (tL 1)) + (tL 2) ≤ 34 from by have h8 := k9_le x; have h7 := k9_le y; have l0 := tL0; have l1 := tL1; have l2 := tL2; have l3 := tL3; omega) (tF_fit 2 (by decide))) (cwV 1 hts (gi_V mM_X1_71 mV_J4_append_15ec4 mS_J4_append_15ec4 mI_StringBuilder mC_J4_append_15ec4) rfl rfl rfl (by decide +kernel) ⟨Nat.le_of_ble_eq_true rfl, Nat.le_of_ble_eq_true rfl⟩) ⟨fun a1 U g mk q9 => ⟨q9.1, q9.2.1, ⟨q9.2.2.1.1, va_K.moved (u := U) (U := U.calling g mk a1) (Vm.Alike.refl U.vm) q9.2.2.1.2⟩, q9.2.2.2.1, ⟨sH.moved (u := U) (U := U.calling g mk a1) (Vm.Alike.refl U.vm) q9.2.2.2.2.1, jH.moved (u := U) (U := U.calling g mk a1) (Vm.Alike.refl U.vm) q9.2.2.2.2.2⟩⟩, va_recv (q := (RJ4, TJ4, 4)) hK hPl (ci := 3) (q0 := 0) rfl rfl, fun U hU hW => ⟨rfl, by rw [hU], ⟨by rw [hU]; exact hPl, va_K.moved hW.alike hK⟩, hDl.weaken (fun _ _ _ _ => trivial), ⟨by rw [hU]; exact ((((hE.1 2 (by decide)).kept hS.2.1).narrow hF)).moved hW.alike, by rw [hU]; exact (((hJ.kept hS.2.1).narrow hF)).moved hW.alike⟩⟩⟩ rfl rfl hl.1 rfl (lv_room (Nat.le_of_ble_eq_true rfl)) dX1_seal_55 ⟨(by show _ ≤ 14; omega), (by show _ ≤ 320; omega)⟩) hS (fun q _ h => hF q h) hF (fun u9 ra9 t H1 locs ht hvm hw hB hz1 hk1 hS => ?_)
    obtain ⟨hP1, hD1, hx1⟩ := hB
    rw [ht] at hP1
    obtain ⟨hP, hD⟩ := wj_l (X := [(b91, .inr (3, [.ref v_20, .int 0, .int 0, .int (nI (((0 + (tL 0)) + (k9 x)) + (tL 1)))])), (v_20, .inl (cB, m_20, .inl g_20))]) (M := Wd) hP hD hk1 hF hP1 hD1
    clear hP1 hD1 hPl hDl hF
    generalize H1 = H at hP hS ⊢
    obtain ⟨v_55n, m_55n, g_55n⟩ := u9
    obtain ⟨hm_55n, hc_55n, hf_55n, heq9, hnew9⟩ := hw
    have hT_55n : ∀ j, j < (((0 + (tL 0)) + (k9 x)) + (tL 1)) + (tL 2) → g_55n j = cat (cat (cat (cat (fun _ => 0) 0 (tF 0)) (0 + (tL 0)) (dgt x)) ((0 + (tL 0)) + (k9 x)) (tF 1)) (((0 + (tL 0)) + (k9 x)) + (tL 1)) (tF 2) j := cat_of (T := cat (cat (cat (fun _ => 0) 0 (tF 0)) (0 + (tL 0)) (dgt x)) ((0 + (tL 0)) + (k9 x)) (tF 1)) hT_20 heq9 hnew9
    have hm_55n : m_55n = 16 ∨ m_55n = 34 := hm_55n
    have hc_55n : (((0 + (tL 0)) + (k9 x)) + (tL 1)) + (tL 2) ≤ m_55n := hc_55n
    have hf_55n : sb_Fit g_55n := hf_55n
    have hP : va_P D vwCl ((b91, .inr (3, [.ref v_55n, .int 0, .int 0, .int (nI ((((0 + (tL 0)) + (k9 x)) + (tL 1)) + (tL 2)))])) :: (v_55n, .inl (cB, m_55n, .inl g_55n)) :: Wd) H := hP
    have hD : va_D A ((b91, .inr (3, [.ref v_55n, .int 0, .int 0, .int (nI ((((0 + (tL 0)) + (k9 x)) + (tL 1)) + (tL 2)))])) :: (v_55n, .inl (cB, m_55n, .inl g_55n)) :: Wd) := hD
    have ebr : ra9 = b91 := hx1
    rw [ebr]
    have hF := wj_F hD hS hA
    refine va_callr (va_runV (As := []) (rest := []) hC (c_J4_toString_0e30d l H.size (q0 := 0) (q1 := 1) rfl rfl (by have h9 := hm_55n; have h6 := hc_55n; have h8 := k9_le x; have h7 := k9_le y; have l0 := tL0; have l1 := tL1; have l2 := tL2; have l3 := tL3; omega) (by have h9 := hm_55n; omega) hf_55n) (cwV 0 hts (gi_V mM_X1_84 mV_J4_toString_0e30d mS_J4_toString_0e30d mI_StringBuilder mC_J4_toString_0e30d) rfl rfl rfl (by decide +kernel) ⟨Nat.le_of_ble_eq_true rfl, Nat.le_of_ble_eq_true rfl⟩) ⟨fun a1 U g mk q9 => ⟨q9.1, q9.2.1, ⟨q9.2.2.1.1, va_K.moved (u := U) (U := U.calling g mk a1) (Vm.Alike.refl U.vm) q9.2.2.1.2⟩, q9.2.2.2.1, jH.moved (u := U) (U := U.calling g mk a1) (Vm.Alike.refl U.vm) q9.2.2.2.2⟩, va_recv (q := (RJ4, TJ4, 4)) hK hP (ci := 3) (q0 := 0) rfl rfl, fun U hU hW => ⟨rfl, by rw [hU], ⟨by rw [hU]; exact hP, va_K.moved hW.alike hK⟩, hD.weaken (fun _ _ _ _ => trivial), (by rw [hU]; exact ((hJ.kept hS.2.1).narrow hF).moved hW.alike)⟩⟩ rfl rfl hl.1 rfl (lv_room (Nat.le_of_ble_eq_true rfl)) dX1_seal_58 ⟨(by show _ ≤ 14; omega), (by show _ ≤ 320; omega)⟩) hS (fun q _ h => hF q h) hF (fun u9 ra9 t H locs ht hvm hw hB hz1 hk1 hS => ?_)
    obtain ⟨hP, hD⟩ := hB
    rw [ht] at hP
    have hD := hD.weaken (fun _ q9 _ h => hF q9.1 h)
    have hTs_58 : ∀ j, j < (((0 + (tL 0)) + (k9 x)) + (tL 1)) + (tL 2) → (va_cpy g_55n (fun _ => 0) 0 0 ((((0 + (tL 0)) + (k9 x)) + (tL 1)) + (tL 2))) j = (cat (cat (cat (cat (fun _ => 0) 0 (tF 0)) (0 + (tL 0)) (dgt x)) ((0 + (tL 0)) + (k9 x)) (tF 1)) (((0 + (tL 0)) + (k9 x)) + (tL 1)) (tF 2)) j := fun j hj => (sb_cpy0 hj).trans (hT_55n j hj)
    obtain ⟨u_58, hu_58⟩ : ∃ z9, z9 = u9 := ⟨_, rfl⟩
    obtain ⟨s_58, hs_58⟩ : ∃ z9, z9 = ra9 := ⟨_, rfl⟩
    rw [← hu_58, ← hs_58] at hP hD
    rw [← hs_58]
    have hP : va_P D vwCl ((u_58, .inl (cB, ((((0 + (tL 0)) + (k9 x)) + (tL 1)) + (tL 2)), .inl (va_cpy g_55n (fun _ => 0) 0 0 ((((0 + (tL 0)) + (k9 x)) + (tL 1)) + (tL 2))))) :: (s_58, .inr (2, [.ref u_58, .int 0, .int 0, .int 0])) :: (b91, .inr (3, [.ref v_55n, .int 0, .int 0, .int (nI ((((0 + (tL 0)) + (k9 x)) + (tL 1)) + (tL 2)))])) :: (v_55n, .inl (cB, m_55n, .inl g_55n)) :: Wd) H := hP
    have hD : va_D A ((u_58, .inl (cB, ((((0 + (tL 0)) + (k9 x)) + (tL 1)) + (tL 2)), .inl (va_cpy g_55n (fun _ => 0) 0 0 ((((0 + (tL 0)) + (k9 x)) + (tL 1)) + (tL 2))))) :: (s_58, .inr (2, [.ref u_58, .int 0, .int 0, .int 0])) :: (b91, .inr (3, [.ref v_55n, .int 0, .int 0, .int (nI ((((0 + (tL 0)) + (k9 x)) + (tL 1)) + (tL 2)))])) :: (v_55n, .inl (cB, m_55n, .inl g_55n)) :: Wd) := hD
    refine lv_astore_n (lv' := [(1, .ref s_58), (0, .ref a9)]) hx hb dX1_seal_61 rfl hl (by decide) rfl (fun ls hl => ?_)
    refine lv_bipush (v := 7) hx hb dX1_seal_62 (by decide) ?_
    refine lv_istore_n (lv' := [(2, .int 7), (1, .ref s_58), (0, .ref a9)]) hx hb dX1_seal_64 rfl hl (by decide) rfl (fun ls hl => ?_)
    refine lv_iconst (v := 0) hx hb dX1_seal_65 (by decide) ?_
    refine lv_istore_n (lv' := [(3, .int 0), (2, .int 7), (1, .ref s_58), (0, .ref a9)]) hx hb dX1_seal_66 rfl hl (by decide) rfl (fun ls hl => ?_)
    have hN : (((0 + (tL 0)) + (k9 x)) + (tL 1)) + (tL 2) < 2 ^ 31 := by have h9 := k9_le x; omega
    have hJ9 : jH nA s H := hJ.at hS
    have hE9 : sH s_58 u_58 ((((0 + (tL 0)) + (k9 x)) + (tL 1)) + (tL 2)) (va_cpy g_55n (fun _ => 0) 0 0 ((((0 + (tL 0)) + (k9 x)) + (tL 1)) + (tL 2))) nA s H := sH_of hts hK hP (i := 0) (j := 1) rfl rfl (fun h9 => h9) (fun h9 => h9)
    have loop_67 : ∀ (f : Nat) (j : Nat) (y9 : Int32), j ≤ (((0 + (tL 0)) + (k9 x)) + (tL 1)) + (tL 2) → (((0 + (tL 0)) + (k9 x)) + (tL 1)) + (tL 2) + 1 ≤ j + f → y9 = sp_txt (va_cpy g_55n (fun _ => 0) 0 0 ((((0 + (tL 0)) + (k9 x)) + (tL 1)) + (tL 2))) 7 j → ∀ ls : Array Slot, lv_has ls 4 [(1, .ref s_58), (2, .int y9), (3, .int (nI j))] → W p l e ({ frames := 6, cells := 14, slots := 320, locals := 135 } : Room) s m ([.ref a9] : List Value).toArray below meth c H locs (0 + 1 + 1 + 1 + 1 + 1 + 1 + 2) (0 + 4 + 16 + 34 + 34 + 34 + 34 + 38) (MQ below (va_Qi (fun (r : Int32) (u : Unit) => r = sp_seal (nI x) (nI y)) (fun u t9 => va_P D vwCl (Wd) t9.heap ∧ va_D A (Wd)) A) ([.ref a9] : List Value).toArray s 14 320 A) (F0 m 67 ls []) := by
      intro f
      induction f with
      | zero =>
        intro j y9 hj hf
        exact absurd hf (by omega)
      | succ f ih67 =>
        intro j y9 hj hf ey9 ls hl
        refine lv_iload_n hx hb dX1_seal_67 rfl (lv_at hl 2 rfl) ?_
        refine lv_aload_n hx hb dX1_seal_68 rfl (lv_at hl 0 rfl) ?_
        refine k_J0_length_8abf5 hC mM_X1_88 hE9 hJ9 hN hl.1 ⟨Nat.le_of_ble_eq_true rfl, Nat.le_of_ble_eq_true rfl⟩ ⟨(by show _ ≤ 14; omega), (by show _ ≤ 320; omega)⟩ (Nat.le_of_ble_eq_true rfl) dX1_seal_69 ?_
        refine lv_icmp_ge (tgt := 92) hx hb dX1_seal_72 (by decide) (fun c_72 => ?_) (fun c_72 => ?_)
        · have nc_72 : ((((0 + (tL 0)) + (k9 x)) + (tL 1)) + (tL 2)) ≤ j := nn_le (by omega) c_72
          refine lv_iload_n hx hb dX1_seal_92 rfl (lv_at hl 1 rfl) ?_
          have ej : j = (((0 + (tL 0)) + (k9 x)) + (tL 1)) + (tL 2) := by omega
          have hP := wj_Pr (X := [(u_58, .inl (cB, ((((0 + (tL 0)) + (k9 x)) + (tL 1)) + (tL 2)), .inl (va_cpy g_55n (fun _ => 0) 0 0 ((((0 + (tL 0)) + (k9 x)) + (tL 1)) + (tL 2))))), (s_58, .inr (2, [.ref u_58, .int 0, .int 0, .int 0])), (b91, .inr (3, [.ref v_55n, .int 0, .int 0, .int (nI ((((0 + (tL 0)) + (k9 x)) + (tL 1)) + (tL 2)))])), (v_55n, .inl (cB, m_55n, .inl g_55n))]) (M := Wd) hP
          have hD := wj_Dr (X := [(u_58, .inl (cB, ((((0 + (tL 0)) + (k9 x)) + (tL 1)) + (tL 2)), .inl (va_cpy g_55n (fun _ => 0) 0 0 ((((0 + (tL 0)) + (k9 x)) + (tL 1)) + (tL 2))))), (s_58, .inr (2, [.ref u_58, .int 0, .int 0, .int 0])), (b91, .inr (3, [.ref v_55n, .int 0, .int 0, .int (nI ((((0 + (tL 0)) + (k9 x)) + (tL 1)) + (tL 2)))])), (v_55n, .inl (cB, m_55n, .inl g_55n))]) (M := Wd) hD
          have hfin : y9 = sp_seal (nI x) (nI y) := by
            unfold sp_seal sp_s3
            rw [if_pos c_26, ey9, ej, txt_eq hTs_58, txt_cat, txt_cat, txt_cat, txt_cat, txt_dgt hx9]
            rfl
          refine W.widen (k := 14) (n := 320) (by omega) (by omega) ?_
          exact W.iret (v := y9) hx hb hr (fun t ht hW => ⟨⟨y9, (), rfl, hfin, by rw [ht]; exact hP, hD⟩, hS.F ht⟩) hS.2.2 dX1_seal_93
        · have nc_72 : j < ((((0 + (tL 0)) + (k9 x)) + (tL 1)) + (tL 2)) := nn_nle (by omega) c_72
          refine lv_iload_n hx hb dX1_seal_75 rfl (lv_at hl 1 rfl) ?_
          refine lv_bipush (v := 31) hx hb dX1_seal_76 (by decide) ?_
          refine lv_imul hx hb dX1_seal_78 ?_
          refine lv_aload_n hx hb dX1_seal_79 rfl (lv_at hl 0 rfl) ?_
          refine lv_iload_n hx hb dX1_seal_80 rfl (lv_at hl 2 rfl) ?_
          refine k_J0_charAt_5068e hC mM_X1_93 hE9 hJ9 (j := j) (by omega) hN hl.1 ⟨Nat.le_of_ble_eq_true rfl, Nat.le_of_ble_eq_true rfl⟩ ⟨(by show _ ≤ 14; omega), (by show _ ≤ 320; omega)⟩ (Nat.le_of_ble_eq_true rfl) dX1_seal_81 ?_
          refine lv_iadd hx hb dX1_seal_84 ?_
          refine lv_istore_n (lv' := [(2, .int ((y9 * 31) + ((va_cpy g_55n (fun _ => 0) 0 0 ((((0 + (tL 0)) + (k9 x)) + (tL 1)) + (tL 2))) j &&& 255))), (1, .ref s_58), (3, .int (nI j))]) hx hb dX1_seal_85 rfl hl (by decide) rfl (fun ls hl => ?_)
          refine lv_iinc (v := nI (j + 1)) (lv' := [(3, .int (nI (j + 1))), (2, .int ((y9 * 31) + ((va_cpy g_55n (fun _ => 0) 0 0 ((((0 + (tL 0)) + (k9 x)) + (tL 1)) + (tL 2))) j &&& 255))), (1, .ref s_58)]) hx hb dX1_seal_86 hl (k := 2) rfl (nI_1 _) (by decide) rfl (fun ls hl => ?_)
          refine lv_goto (tgt := 67) hx hb dX1_seal_89 (by decide) ?_
          exact ih67 (j + 1) ((y9 * 31) + ((va_cpy g_55n (fun _ => 0) 0 0 ((((0 + (tL 0)) + (k9 x)) + (tL 1)) + (tL 2))) j &&& 255)) (by omega) (by omega) (by rw [ey9]; rfl) _ (lv_sub hl [2, 1, 0] rfl)
    exact loop_67 ((((0 + (tL 0)) + (k9 x)) + (tL 1)) + (tL 2) + 1) 0 7 (Nat.zero_le _) (by omega) rfl _ (lv_sub hl [2, 1, 0] rfl)

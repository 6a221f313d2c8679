theorem Bk.zero {D : va_G} {z : ClassId × ClassId} {cG : ClassId} {a : Nat → Nat} {A : Nat → Prop} {F : va_W} {h n0 : Nat} {lv0 : Nat → Int32} {H : Heap} (hB : Bk D z cG a A F h n0 lv0 H) : Bk D z cG a A F h 0 zf H := by
  obtain ⟨b, rp, rw, rm, lv, lk, pu, fa, he, n, nv, du, ta, w, mp, mi, k, nt, fu, re, h1, h2, h3, hP, hD⟩ := hB
  exact ⟨b, rp, rw, rm, lv, lk, pu, fa, he, n, nv, du, ta, w, mp, mi, k, nt, fu, re, h1, h2, ⟨Nat.zero_le _, fun j hj => absurd hj (Nat.not_lt_zero j)⟩, hP, hD⟩
set_option maxRecDepth 100000 in
theorem k_L_act {p : Program} {l : Launch} {e : Env} {R : Room} {s : State} {m : MethodId} {args : Array Value} {below : List Frame} {meth : Method} {c : Code} {H : Heap} {locs : List Loc} {cells slots : Nat} {Q : State → Prop} {cc : ByteArray} {nL pc : Nat} {ls : Array Slot} {rest : List Value} {A : Nat → Prop} {H0 : Heap} {own : String} {D : va_G} {z : ClassId × ClassId} {cG : ClassId} {a : Nat → Nat} {F : va_W} {b : Nat → Nat} {rp : Nat → Nat} {rw : Nat → Nat} {rm : Nat → Nat} {lv : Nat → Int32} {lk : Nat → Int32} {pu : Nat → Int32} {fa : Nat → Int32} {he : Nat → Int32} {n : Nat} {nv : Nat → Int32} {du : Nat → Int32} {w : Nat} {mp : Nat → Int32} {mi : Nat → Int32} {k : Nat} {nt : Int32} {fu : Int32} {re : Int32} {ta : Nat → Int32} {idx : Nat} {v : Int32} (hC : CallFix p m c cc nL s args lw_all own) (hlk : Cond.methodLink own idx yL_act ∈ lw_all) (hK : kK D z s) (hG : kG cG s) (hO : gO s) (hP : va_P D vwCl (F ++ (qW z cG b rp rw rm lv lk pu fa he n nv du w mp mi k nt fu re ++ xW z a lv lk pu fa he n nv du ta w mp mi k nt fu re)) H) (hD : va_D A (F ++ (qW z cG b rp rw rm lv lk pu fa he n nv du w mp mi k nt fu re ++ xW z a lv lk pu fa he n nv du ta w mp mi k nt fu re))) (hS : va_S A H0 H locs) (hA : ∀ q : Nat, H0.size ≤ q → A q) (hl : ls.size = nL) (hR : 5 ≤ R.frames ∧ 123 ≤ R.locals) (hz : cells + 3 ≤ R.cells ∧ slots + 69 ≤ R.slots) (hr : (rest.map fun v => v.category).sum ≤ 8) (hIV : IV lv lk pu fa he n nv du w mp mi k fu re) (hdg : decode cc pc = .ok (.invokestatic idx, 3)) (kk : ∀ (H1 : Heap) (locs1 : List Loc), Bk D z cG a A F (b 0) n lv H1 → va_S A H0 H1 locs1 → W p l e R s m args below meth c H1 locs1 (cells + 3) (slots + 69) Q (F0 m (pc + 3) ls (.int 1 :: rest))) : W p l e R s m args below meth c H locs cells slots Q (F0 m pc ls (.int v :: .ref (b 0) :: .ref (a 0) :: rest)) := by
  have hF := wj_F hD hS hA
  refine va_calli (va_runS (As := [.ref (a 0), .ref (b 0), .int v]) (rest := rest) hC (c_L_act l H.size v hIV) (va_cwS 3 hC.2.2.2.2 (gi_S hlk mT_L_act mI_MissRegistryLaw mC_L_act) rfl rfl rfl (by decide +kernel) hR) ⟨fun a1 U g mk q9 => ⟨q9.1, q9.2.1, qI.call q9.2.2.1, q9.2.2.2.1, gO.moved (u := U) (U := U.calling g mk a1) (Vm.Alike.refl U.vm) q9.2.2.2.2⟩, fun U hU hW => ⟨rfl, by rw [hU], qI.into hK hG hP hU hW, hD.weaken (fun _ _ _ _ => trivial), hO.moved hW.alike⟩⟩ rfl rfl hl rfl (lv_room hr) hdg hz) hS (fun q _ h => hF q h) hF (fun r u t H1 locs1 ht hvm hw hB hz1 hk1 hS1 => ?_)
  have hw : r = 1 := hw
  rw [hw]
  have hB : Bk D z cG a (va_A (F ++ (qW z cG b rp rw rm lv lk pu fa he n nv du w mp mi k nt fu re ++ xW z a lv lk pu fa he n nv du ta w mp mi k nt fu re)) H.size) F (b 0) n lv t.heap := hB
  rw [ht] at hB
  exact kk H1 locs1 (hB.weaken hF) hS1
set_option maxHeartbeats 4000000 in
set_option maxRecDepth 100000 in
theorem c_L_build (l : Launch) (sz : Nat) {D : va_G} {z : ClassId × ClassId} {a : Nat → Nat} {xb L : Nat} {xs : Nat → Int32} (hL : L ≤ 1000) : Met l yL_build (ws_ yL_build cL_build 5 (some (.object "MissRegistryLaw$Sim"))) ({ frames := 5, cells := 200, slots := 4300, locals := 123 } : Room) (va_Pc [.ref (a 0), .ref xb] (fun U => U.heap.size = sz ∧ (va_P D vwCl (xW z a zf zf zf zf zf 0 zf zf zf 0 zf zf 0 0 0 0) U.heap ∧ kK D z U ∧ gO U ∧ va_Nw (.methodLinkNest RL 70 yX1_init RL) U) ∧ va_D (fun _ => True) (xW z a zf zf zf zf zf 0 zf zf zf 0 zf zf 0 0 0 0) ∧ va_X xb L xs U U.heap ∧ ¬ (va_A (xW z a zf zf zf zf zf 0 zf zf zf 0 zf zf 0 0 0 0) sz) xb)) (va_Qr (fun u : Unit => True) (fun u ra t9 => ∃ cG : ClassId, kG cG t9 ∧ Bk D z cG a (va_A (xW z a zf zf zf zf zf 0 zf zf zf 0 zf zf 0 0 0 0) sz) [] ra 0 zf t9.heap) (va_A (xW z a zf zf zf zf zf 0 zf zf zf 0 zf zf 0 0 0 0) sz)) 200 4300 (va_A (xW z a zf zf zf zf zf 0 zf zf zf 0 zf zf 0 0 0 0) sz) := by
  refine Met.ofW (cc := cL_build) (maxL := 5) (ret := (some (.object "MissRegistryLaw$Sim"))) (by decide) rfl ?_
  intro p e s m args below meth c s₁ B hml hv
  obtain ⟨rfl, hsz, ⟨hP, hK, hO, hNe⟩, hD0, hX, hbA⟩ := hv
  have hx := B.exec
  have hb := B.bytes
  have hr := B.returns
  have hts := atoms_spec (ws := ws_ yL_build cL_build 5 (some (.object "MissRegistryLaw$Sim"))) B.pre
  have hts : ∀ w ∈ lw_all, w.before _ s = true := fun w h => hts w (List.mem_cons_of_mem _ h)
  have hown : s.vm.findClass RL = some m.cls := findClass_of_methodNamed B.named
  have hlocks := B.notSynchronized
  have hC : CallFix p m c cL_build 5 s _ lw_all RL := ⟨hx, hb, hml, hown, hts⟩
  have hbl : xb < s.heap.size := by obtain ⟨scr, h9, _⟩ := hX; exact (Array.getElem?_eq_some_iff.mp h9).1
  subst hsz
  have hD := hD0.self (sz := s.heap.size)
  generalize hAe : va_A (xW z a zf zf zf zf zf 0 zf zf zf 0 zf zf 0 0 0 0) s.heap.size = A at hD hbA ⊢
  have hA : ∀ q : Nat, s.heap.size ≤ q → A q := fun q h => by rw [← hAe]; exact Or.inr h
  have hS : va_S A s.heap s.heap [] := va_S.rf
  have hK0 : va_K D vwCl [] s := hK.sub [] rfl
  have hl := lv_entry ([.ref (a 0), .ref xb]) (n := 5) (Nat.le_of_ble_eq_true rfl)
  rw [lg_entry_eq]
  generalize (lg_sl ([.ref (a 0), .ref xb]) ++ List.replicate (5 - (lg_sl ([.ref (a 0), .ref xb])).length) Slot.unset).toArray = ls at hl ⊢
  have hl : lv_has ls 5 [(0, .ref (a 0)), (1, .ref xb)] := hl
  refine va_new (ci := 1) (fs := [.int 0, .int 0, .int 0, .null, .null, .null]) (C := RX1) (T := TX1) (N := 6) hx hb hts lays_X1 tyX1 tyX1_ok hown (hts _ mK_L_10) (hts _ mB_MissRegistryLaw_Sim) (hts _ mI_Sim) hK0 hP hD hS hA rfl (fun j hj => by
      match j, hj with
      | 0, _ => rfl
      | 1, _ => rfl
      | 2, _ => rfl
      | 3, _ => rfl
      | 4, _ => rfl
      | 5, _ => rfl
      | k + 6, h => exact absurd h (by omega)) (by show _ ≤ 200; omega) (by show _ ≤ 4300; omega) dL_build_0 (fun h9 H hP hD hS => ?_)
  have hP : va_P D vwCl (xW z a zf zf zf zf zf 0 zf zf zf 0 zf zf 0 0 0 0 ++ [(h9, .inr (1, [.int 0, .int 0, .int 0, .null, .null, .null]))]) H := hP
  have hD : va_D A (xW z a zf zf zf zf zf 0 zf zf zf 0 zf zf 0 0 0 0 ++ [(h9, .inr (1, [.int 0, .int 0, .int 0, .null, .null, .null]))]) := hD
  refine lv_dup hx hb dL_build_3 rfl ?_
  have hF := wj_Fr (X := xW z a zf zf zf zf zf 0 zf zf zf 0 zf zf 0 0 0 0) (M := [(h9, .inr (1, [.int 0, .int 0, .int 0, .null, .null, .null]))]) hD hS hA
  have hP9 := wj_Pr (X := xW z a zf zf zf zf zf 0 zf zf zf 0 zf zf 0 0 0 0) (M := [(h9, .inr (1, [.int 0, .int 0, .int 0, .null, .null, .null]))]) hP
  have hD9 := wj_Dr (X := xW z a zf zf zf zf zf 0 zf zf zf 0 zf zf 0 0 0 0) (M := [(h9, .inr (1, [.int 0, .int 0, .int 0, .null, .null, .null]))]) hD
  refine va_callv (va_runIN (As := []) (rest := [.ref h9]) hC (c_X1_init l h9 H.size) ⟨va_cnB 0 hts (gi_cons mC_X1_init) rfl rfl rfl hNe (hts _ mI_Sim) (by decide +kernel) ⟨Nat.le_of_ble_eq_true rfl, Nat.le_of_ble_eq_true rfl⟩, rfl, hts _ mV_X1_init⟩ ⟨fun a1 U g mk q => ⟨q.1, q.2.1, ⟨q.2.2.1.1, va_K.moved (u := U) (U := U.calling g mk a1) (Vm.Alike.refl U.vm) q.2.2.1.2.1, gO.moved (u := U) (U := U.calling g mk a1) (Vm.Alike.refl U.vm) q.2.2.1.2.2⟩, q.2.2.2⟩, fun U hU hW => ⟨rfl, by rw [hU], ⟨by rw [hU]; exact hP9, va_K.moved hW.alike hK, hO.moved hW.alike⟩, hD9.weaken (fun _ _ _ _ => trivial)⟩⟩ rfl rfl hl.1 rfl (lv_room (Nat.le_of_ble_eq_true rfl)) dL_build_4 ⟨(by show _ ≤ 200; omega), (by show _ ≤ 4300; omega)⟩) hS (fun q _ h => hF q h) hF (fun u t H locs ht hvm hw hB hz1 hk1 hS => ?_)
  obtain ⟨hP1, hG1, hD1⟩ := hB
  rw [ht] at hP1
  have hw : u.2 0 = h9 := hw
  obtain ⟨cG, b9⟩ := u
  have hG : kG cG s := kG.moved hvm.symm hG1
  obtain ⟨hP, hD⟩ := wj_r (X := xW z a zf zf zf zf zf 0 zf zf zf 0 zf zf 0 0 0 0) (M := [(h9, .inr (1, [.int 0, .int 0, .int 0, .null, .null, .null]))]) hP hD hk1 hF hP1 hD1
  have hP := wj_sP (X := xW z a zf zf zf zf zf 0 zf zf zf 0 zf zf 0 0 0 0) (M := qW z cG b9 (fun _ => 0) (fun _ => 0) (fun _ => 0) zf zf zf zf zf 0 zf zf 0 zf zf 0 0 0 0) hP
  have hD := wj_sD (X := xW z a zf zf zf zf zf 0 zf zf zf 0 zf zf 0 0 0 0) (M := qW z cG b9 (fun _ => 0) (fun _ => 0) (fun _ => 0) zf zf zf zf zf 0 zf zf 0 zf zf 0 0 0 0) hD
  have hBk : Bk D z cG a A [] h9 0 zf H := ⟨b9, fun _ => 0, fun _ => 0, fun _ => 0, zf, zf, zf, zf, zf, 0, zf, zf, zf, 0, zf, zf, 0, 0, 0, 0, hw, iv_0, ⟨Nat.le_refl 0, fun j hj => absurd hj (Nat.not_lt_zero j)⟩, hP, hD⟩
  clear hP hD hP9 hD9 hP1 hD1
  refine lv_astore_n (lv' := [(2, .ref h9), (0, .ref (a 0)), (1, .ref xb)]) hx hb dL_build_7 rfl hl (by decide) rfl (fun ls hl => ?_)
  refine lv_bipush (v := 12) hx hb dL_build_8 (by decide) ?_
  refine lv_aload_n hx hb dL_build_10 rfl (lv_at hl 2 rfl) ?_
  refine lv_iconst (v := 0) hx hb dL_build_11 (by decide) ?_
  refine kL_cell (j := 0) hC mM_L_71 (hX.kept (hS.2.1 xb hbl hbA)) hl.1 ⟨Nat.le_of_ble_eq_true rfl, Nat.le_of_ble_eq_true rfl⟩ ⟨(by show _ ≤ 200; omega), (by show _ ≤ 4300; omega)⟩ (Nat.le_of_ble_eq_true rfl) nI_0.symm (by omega) hL dL_build_12 (fun r12 => ?_)
  refine lv_bipush (v := 50) hx hb dL_build_15 (by decide) ?_
  refine kL_below (n := 50) hC mM_L_18 hl.1 ⟨Nat.le_of_ble_eq_true rfl, Nat.le_of_ble_eq_true rfl⟩ ⟨(by show _ ≤ 200; omega), (by show _ ≤ 4300; omega)⟩ (Nat.le_of_ble_eq_true rfl) rfl (by omega) (by omega) dL_build_17 ?_
  have hx17 : bel r12 50 < 50 := bel_lt (by omega)
  obtain ⟨x17, ex17⟩ : ∃ x9 : Nat, x9 = bel r12 50 := ⟨_, rfl⟩
  rw [← ex17] at hx17
  rw [← ex17]
  refine lv_iadd hx hb dL_build_20 ?_
  rw [show (12 + (nI x17) : Int32) = nI (12 + x17) from (nI_add 12 x17)]
  refine lv_istore_n (lv' := [(3, .int (nI (12 + x17))), (2, .ref h9), (0, .ref (a 0)), (1, .ref xb)]) hx hb dL_build_21 rfl hl (by decide) rfl (fun ls hl => ?_)
  refine lv_iconst (v := 0) hx hb dL_build_22 (by decide) ?_
  refine lv_istore (lv' := [(4, .int 0), (3, .int (nI (12 + x17))), (2, .ref h9), (0, .ref (a 0)), (1, .ref xb)]) hx hb dL_build_23 hl (by decide) rfl (fun ls hl => ?_)
  obtain ⟨N, hN⟩ : ∃ N : Nat, N = 12 + x17 := ⟨_, rfl⟩
  rw [← hN] at hl
  have hN61 : N ≤ 61 := by omega
  have loop_25 : ∀ (f i : Nat), i ≤ N → N + 1 ≤ i + f → ∀ (H : Heap) (locs : List Loc) (cells slots : Nat), Bk D z cG a A [] h9 0 zf H → va_S A s.heap H locs → cells ≤ 4 + 3 * i → slots ≤ 20 + 69 * i → ∀ ls : Array Slot, lv_has ls 5 [(0, .ref (a 0)), (1, .ref xb), (2, .ref h9), (3, .int (nI N)), (4, .int (nI i))] → W p l e ({ frames := 5, cells := 200, slots := 4300, locals := 123 } : Room) s m ([.ref (a 0), .ref xb] : List Value).toArray below meth c H locs cells slots (MQ below (va_Qr (fun u : Unit => True) (fun u ra t9 => ∃ cG : ClassId, kG cG t9 ∧ Bk D z cG a A [] ra 0 zf t9.heap) A) ([.ref (a 0), .ref xb] : List Value).toArray s 200 4300 A) (F0 m 25 ls []) := by
    intro f
    induction f with
    | zero =>
      intro i hi hf
      exact absurd hf (by omega)
    | succ f ih =>
      intro i hi hf H locs cells slots hBk hS hcl hsl ls hl
      refine lv_iload hx hb dL_build_25 (lv_at hl 4 rfl) ?_
      refine lv_iload_n hx hb dL_build_27 rfl (lv_at hl 3 rfl) ?_
      refine lv_icmp_ge (tgt := 71) hx hb dL_build_28 (by decide) (fun c_28 => ?_) (fun c_28 => ?_)
      · have nc_28 : N ≤ i := nn_le (by omega) c_28
        refine lv_aload_n hx hb dL_build_71 rfl (lv_at hl 2 rfl) ?_
        refine W.widen (k := 200) (n := 4300) (by omega) (by omega) ?_
        exact W.aret (v := .ref h9) hx hb hr (by first | exact Or.inl ⟨_, rfl⟩ | exact Or.inr ⟨_, rfl⟩) (Or.inr ⟨_, rfl⟩) (fun t ht hW => ⟨⟨(), h9, rfl, trivial, show ∃ cG : ClassId, kG cG t ∧ Bk D z cG a A [] h9 0 zf t.heap from ⟨cG, kG.moved hW.alike hG, by rw [ht]; exact hBk⟩⟩, hS.F ht⟩) hS.2.2 dL_build_72
      · have nc_28 : i < N := nn_nle (by omega) c_28
        refine lv_aload_n hx hb dL_build_31 rfl (lv_at hl 0 rfl) ?_
        refine lv_aload_n hx hb dL_build_32 rfl (lv_at hl 2 rfl) ?_
        refine lv_aload_n hx hb dL_build_33 rfl (lv_at hl 1 rfl) ?_
        refine lv_iload hx hb dL_build_34 (lv_at hl 4 rfl) ?_
        refine lv_bipush (v := 16) hx hb dL_build_36 (by decide) ?_
        refine lv_irem hx hb dL_build_38 (by decide) ?_
        refine kL_cell (j := (i % 16)) hC mM_L_71 (hX.kept (hS.2.1 xb hbl hbA)) hl.1 ⟨Nat.le_of_ble_eq_true rfl, Nat.le_of_ble_eq_true rfl⟩ ⟨(by show _ ≤ 200; omega), (by show _ ≤ 4300; omega)⟩ (Nat.le_of_ble_eq_true rfl) (pk_rem (a := i) (d := 16) (by omega) (by decide) (by decide)) (by omega) hL dL_build_39 (fun r39 => ?_)
        refine lv_iload hx hb dL_build_42 (lv_at hl 4 rfl) ?_
        refine lv_bipush (v := 16) hx hb dL_build_44 (by decide) ?_
        refine lv_idiv hx hb dL_build_46 (by decide) ?_
        refine lv_iconst (v := 3) hx hb dL_build_47 (by decide) ?_
        refine lv_imul hx hb dL_build_48 ?_
        refine lv_ishr hx hb dL_build_49 ?_
        refine lv_sipush (v := 677) hx hb dL_build_50 (by decide) ?_
        refine lv_iload hx hb dL_build_53 (lv_at hl 4 rfl) ?_
        refine lv_imul hx hb dL_build_55 ?_
        refine lv_iadd hx hb dL_build_56 ?_
        obtain ⟨b, rp, rw, rm, lv, lk, pu, fa, he, n, nv, du, ta, w, mp, mi, k, nt, fu, re, hb0, hIV, hgone, hP, hD⟩ := hBk
        rw [← hb0]
        refine k_L_act hC mM_L_75 hK hG hO hP hD hS hA hl.1 ⟨Nat.le_of_ble_eq_true rfl, Nat.le_of_ble_eq_true rfl⟩ ⟨(by show _ ≤ 200; omega), (by show _ ≤ 4300; omega)⟩ (Nat.le_of_ble_eq_true rfl) hIV dL_build_57 (fun H locs hBk hS => ?_)
        rw [hb0] at hBk
        refine lv_if_ne (tgt := 65) hx hb dL_build_60 (by decide) (fun c_60 => ?_) (fun c_60 => ?_)
        · refine lv_iinc (v := nI (i + 1)) (lv' := [(4, .int (nI (i + 1))), (0, .ref (a 0)), (1, .ref xb), (2, .ref h9), (3, .int (nI N))]) hx hb dL_build_65 hl (k := 4) rfl (nI_1 _) (by decide) rfl (fun ls hl => ?_)
          refine lv_goto (tgt := 25) hx hb dL_build_68 (by decide) ?_
          exact ih (i + 1) (by omega) (by omega) _ _ _ _ hBk.zero hS (by omega) (by omega) _ (lv_sub hl [1, 2, 3, 4, 0] rfl)
        · exact absurd c_60 one_ne
  exact loop_25 (N + 1) 0 (Nat.zero_le _) (by omega) _ _ _ _ hBk hS (by omega) (by omega) _ (lv_sub hl [3, 4, 2, 1, 0] rfl)

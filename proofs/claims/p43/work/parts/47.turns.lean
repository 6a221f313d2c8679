set_option maxRecDepth 100000 in
theorem k_X1_isSame {p : Program} {l : Launch} {e : Env} {R : Room} {s : State} {m : MethodId} {args : Array Value} {below : List Frame} {meth : Method} {c : Code} {H : Heap} {locs : List Loc} {cells slots : Nat} {Q : State → Prop} {cc : ByteArray} {nL pc : Nat} {ls : Array Slot} {rest : List Value} {A : Nat → Prop} {H0 : Heap} {own : String} {D : va_G} {z : ClassId × ClassId} {cG : ClassId} {a : Nat → Nat} {F : va_W} {b : Nat → Nat} {rp : Nat → Nat} {rw : Nat → Nat} {rm : Nat → Nat} {lv : Nat → Int32} {lk : Nat → Int32} {pu : Nat → Int32} {fa : Nat → Int32} {he : Nat → Int32} {n : Nat} {nv : Nat → Int32} {du : Nat → Int32} {w : Nat} {mp : Nat → Int32} {mi : Nat → Int32} {k : Nat} {nt : Int32} {fu : Int32} {re : Int32} {ta : Nat → Int32} {idx : Nat} {q9 t9 : Nat → Nat} {t8 : Nat × Nat} (hC : CallFix p m c cc nL s args lw_all own) (hlk : Cond.methodLink own idx yX1_isSame ∈ lw_all) (hK : kK D z s) (hG : kG cG s) (hP : va_P D vwCl (F ++ (qW z cG b rp rw rm lv lk pu fa he n nv du w mp mi k nt fu re ++ xW z a lv lk pu fa he n nv du ta w mp mi k nt fu re)) H) (hD : va_D A (F ++ (qW z cG b rp rw rm lv lk pu fa he n nv du w mp mi k nt fu re ++ xW z a lv lk pu fa he n nv du ta w mp mi k nt fu re))) (hS : va_S A H0 H locs) (hA : ∀ q : Nat, H0.size ≤ q → A q) (hE : cH q9 t9 A s H) (hJ : dH t8 A s H) (hl : ls.size = nL) (hR : 8 ≤ R.frames ∧ 189 ≤ R.locals) (hz : cells + 900 ≤ R.cells ∧ slots + 19400 ≤ R.slots) (hr : (rest.map fun v => v.category).sum ≤ 8) (hIV : IV lv lk pu fa he n nv du w mp mi k fu re) (hdg : decode cc pc = .ok (.invokevirtual idx, 3)) (kk : ∀ (H1 : Heap) (locs1 : List Loc), va_S A H0 H1 locs1 → W p l e R s m args below meth c H1 locs1 (cells + 900) (slots + 19400) Q (F0 m (pc + 3) ls (.int 1 :: rest))) : W p l e R s m args below meth c H locs cells slots Q (F0 m pc ls (.ref (a 0) :: .ref (b 0) :: rest)) := by
  have hF := wj_F hD hS hA
  refine va_calli (va_runV (As := [.ref (a 0)]) (rest := rest) hC (c_X1_isSame l H.size hIV) (cwV 1 hC.2.2.2.2 (gi_V hlk mV_X1_isSame mS_X1_isSame mI_Sim mC_X1_isSame) rfl rfl rfl (by decide +kernel) hR) ⟨fun a1 U g mk q => ⟨q.1, q.2.1, qI.call q.2.2.1, q.2.2.2.1, cH.same (u := U) (U := U.calling g mk a1) rfl q.2.2.2.2.1, dH.moved (u := U) (U := U.calling g mk a1) (Vm.Alike.refl U.vm) q.2.2.2.2.2⟩, q_recv hK hP, fun U hU hW => ⟨rfl, by rw [hU], qI.into hK hG hP hU hW, hD.weaken (fun _ _ _ _ => trivial), by rw [hU]; exact (hE.narrow hF).warm hW, by rw [hU]; exact (hJ.narrow hF).moved hW.alike⟩⟩ rfl rfl hl rfl (lv_room hr) hdg hz) hS (fun q _ h => hF q h) hF (fun r u t H1 locs1 ht hvm hw hB hz1 hk1 hS1 => ?_)
  have hw : r = 1 := hw
  rw [hw]
  exact kk H1 locs1 hS1
set_option maxHeartbeats 8000000 in
set_option maxRecDepth 100000 in
theorem lt_loop {p : Program} {l : Launch} {e : Env} {s : State} {m : MethodId} {below : List Frame} {meth : Method} {c : Code} {Q : State → Prop} {xb : Nat} {D : va_G} {z : ClassId × ClassId} {cG : ClassId} {q9 t9 : Nat → Nat} {a : Nat → Nat} {h q22 : Nat} {A : Nat → Prop} {L : Nat} {xs : Nat → Int32} {t8 : Nat × Nat} (hC : CallFix p m c cL_law 19 s #[.ref xb] lw_all RL) (hK : kK D z s) (hG : kG cG s) (hO : gO s) (hE : cH q9 t9 A s s.heap) (hJ : dH t8 A s s.heap) (hX : va_X xb L xs s s.heap) (hbl : xb < s.heap.size) (hbA : ¬ A xb) (hL : L ≤ 1000) (hA : ∀ q : Nat, s.heap.size ≤ q → A q) (kk : ∀ (H : Heap) (locs : List Loc) (cells slots : Nat) (ls : Array Slot), va_S A s.heap H locs → cells ≤ 3000 → slots ≤ 100000 → W p l e room_1 s m #[.ref xb] below meth c H locs cells slots Q (F0 m 937 ls [.int 1])) : ∀ (f i : Nat), i ≤ 36 → 37 ≤ i + f → ∀ (g : Nat → Int32) (b : Nat → Nat) (rp : Nat → Nat) (rw : Nat → Nat) (rm : Nat → Nat) (lv : Nat → Int32) (lk : Nat → Int32) (pu : Nat → Int32) (fa : Nat → Int32) (he : Nat → Int32) (n : Nat) (nv : Nat → Int32) (du : Nat → Int32) (ta : Nat → Int32) (w : Nat) (mp : Nat → Int32) (mi : Nat → Int32) (k : Nat) (nt : Int32) (fu : Int32) (re : Int32) (H : Heap) (locs : List Loc) (cells slots : Nat) (ls : Array Slot), b 0 = h → IV lv lk pu fa he n nv du w mp mi k fu re → (∀ y, y < 10 → g y = 0 ∨ (y < n ∧ lv y = 0)) → va_P D vwCl (((q22, .inl (z.2, 10, .inl g)) :: []) ++ (qW z cG b rp rw rm lv lk pu fa he n nv du w mp mi k nt fu re ++ xW z a lv lk pu fa he n nv du ta w mp mi k nt fu re)) H → va_D A (((q22, .inl (z.2, 10, .inl g)) :: []) ++ (qW z cG b rp rw rm lv lk pu fa he n nv du w mp mi k nt fu re ++ xW z a lv lk pu fa he n nv du ta w mp mi k nt fu re)) → va_S A s.heap H locs → cells ≤ 300 + 3 * i → slots ≤ 5000 + 69 * i → lv_has ls 19 [(0, .ref xb), (1, .ref (a 0)), (2, .ref h), (3, .ref q22), (4, .int (nI i))] → W p l e room_1 s m #[.ref xb] below meth c H locs cells slots Q (F0 m 28 ls []) := by
  have hx := hC.1
  have hb := hC.2.1
  have hml := hC.2.2.1
  have hown := hC.2.2.2.1
  have hts := hC.2.2.2.2
  intro f
  induction f with
  | zero =>
    intro i hi hf
    exact absurd hf (by omega)
  | succ f ih =>
    intro i hi hf g b rp rw rm lv lk pu fa he n nv du ta w mp mi k nt fu re H locs cells slots ls hb0 hIV hg hP hD hS hcl hsl hl
    refine lv_iload hx hb dL_law_28 (lv_at hl 4 rfl) ?_
    refine lv_bipush (v := 36) hx hb dL_law_30 (by decide) ?_
    refine lv_icmp_ge (tgt := 932) hx hb dL_law_32 (by decide) (fun c_32 => ?_) (fun c_32 => ?_)
    · have nc_32 : 36 ≤ i := nn_le (by omega) c_32
      refine lv_aload_n hx hb dL_law_932 rfl (lv_at hl 2 rfl) ?_
      refine lv_aload_n hx hb dL_law_933 rfl (lv_at hl 1 rfl) ?_
      rw [← hb0]
      refine k_X1_isSame hC mM_L_170 hK hG hP hD hS hA (hE.kept hS.2.1) (hJ.kept hS.2.1) hl.1 ⟨Nat.le_of_ble_eq_true rfl, Nat.le_of_ble_eq_true rfl⟩ ⟨(by show _ ≤ 600172; omega), (by show _ ≤ 7300668; omega)⟩ (Nat.le_of_ble_eq_true rfl) hIV dL_law_934 (fun H locs hS => ?_)
      exact kk H locs _ _ _ hS (by omega) (by omega)
    · have nc_32 : i < 36 := nn_nle (by omega) c_32
      refine lv_aload_n hx hb dL_law_35 rfl (lv_at hl 0 rfl) ?_
      refine lv_iload hx hb dL_law_36 (lv_at hl 4 rfl) ?_
      refine lv_bipush (v := 16) hx hb dL_law_38 (by decide) ?_
      refine lv_irem hx hb dL_law_40 (by decide) ?_
      refine kL_cell (j := (i % 16)) hC mM_L_71 (hX.kept (hS.2.1 xb hbl hbA)) hl.1 ⟨Nat.le_of_ble_eq_true rfl, Nat.le_of_ble_eq_true rfl⟩ ⟨(by show _ ≤ 600172; omega), (by show _ ≤ 7300668; omega)⟩ (Nat.le_of_ble_eq_true rfl) (pk_rem (a := i) (d := 16) (by omega) (by decide) (by decide)) (by omega) hL dL_law_41 (fun r41 => ?_)
      refine lv_iload hx hb dL_law_44 (lv_at hl 4 rfl) ?_
      refine lv_bipush (v := 16) hx hb dL_law_46 (by decide) ?_
      refine lv_idiv hx hb dL_law_48 (by decide) ?_
      refine lv_iconst (v := 3) hx hb dL_law_49 (by decide) ?_
      refine lv_imul hx hb dL_law_50 ?_
      refine lv_ishr hx hb dL_law_51 ?_
      refine lv_sipush (v := 677) hx hb dL_law_52 (by decide) ?_
      refine lv_iload hx hb dL_law_55 (lv_at hl 4 rfl) ?_
      refine lv_imul hx hb dL_law_57 ?_
      refine lv_iadd hx hb dL_law_58 ?_
      obtain ⟨v5, ev5⟩ : ∃ v5 : Int32, (r41 >>> ((((nI i) / 16) * 3) &&& 31)) + (677 * (nI i)) = v5 := ⟨_, rfl⟩
      rw [ev5]
      refine lv_istore (lv' := [(5, .int v5), (0, .ref xb), (1, .ref (a 0)), (2, .ref h), (3, .ref q22), (4, .int (nI i))]) hx hb dL_law_59 hl (by decide) rfl (fun ls hl => ?_)
      refine lv_aload_n hx hb dL_law_61 rfl (lv_at hl 2 rfl) ?_
      refine lv_aload_n hx hb dL_law_62 rfl (lv_at hl 3 rfl) ?_
      refine lv_iload hx hb dL_law_63 (lv_at hl 0 rfl) ?_
      rw [← hb0]
      refine k_L_act hC mM_L_75 hK hG hO hP hD hS hA hl.1 ⟨Nat.le_of_ble_eq_true rfl, Nat.le_of_ble_eq_true rfl⟩ ⟨(by show _ ≤ 600172; omega), (by show _ ≤ 7300668; omega)⟩ (Nat.le_of_ble_eq_true rfl) hIV dL_law_65 (fun H locs hBk hS => ?_)
      rw [hb0] at hBk
      obtain ⟨b, rp, rw, rm, lv, lk, pu, fa, he, n, nv, du, ta, w, mp, mi, k, nt, fu, re, hb1, hIV1, hgone, hP, hD⟩ := hBk
      have hg : ∀ y, y < 10 → g y = 0 ∨ (y < n ∧ lv y = 0) := fun y hy => (hg y hy).imp_right (fun q => ⟨Nat.lt_of_lt_of_le q.1 hgone.1, hgone.2 y q.1 q.2⟩)
      refine lv_if_ne (tgt := 73) hx hb dL_law_68 (by decide) (fun c_68 => ?_) (fun c_68 => ?_)
      · refine lt_1 hC hK hE hA hIV1 hP hD hS (by omega) (by omega) hg (lv_sub hl [1, 2, 3, 4, 5, 0] rfl) (fun g H locs ls hg hP hD hS hl => ?_)
        refine lt_2 hC hK hE hA hIV1 hP hD hS (by omega) (by omega) hl (fun ta H locs ls hP hD hS hl => ?_)
        refine lt_3 hC hK hE hA hIV1 hP hD hS (by omega) (by omega) hl (fun H locs ls hP hD hS hl => ?_)
        refine lv_iinc (v := nI (i + 1)) (lv' := [(4, .int (nI (i + 1))), (0, .ref xb), (1, .ref (a 0)), (2, .ref h), (3, .ref q22), (5, .int v5)]) hx hb dL_law_926 hl (k := 4) rfl (nI_1 _) (by decide) rfl (fun ls hl => ?_)
        refine lv_goto (tgt := 28) hx hb dL_law_929 (by decide) ?_
        exact ih (i + 1) (by omega) (by omega) g b rp rw rm lv lk pu fa he n nv du ta w mp mi k nt fu re H locs _ _ _ hb1 hIV1 hg hP hD hS (by omega) (by omega) (lv_sub hl [1, 2, 3, 4, 0] rfl)
      · exact absurd c_68 one_ne

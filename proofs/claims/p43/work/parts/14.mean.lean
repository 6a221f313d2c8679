theorem mean_num {x y : Int32} (h : ¬ y = 0) : vf_n64 (FP.ddiv (FP.i2d x) (FP.i2d y)) := by
  have h1 : FP.Core.dIsNaN (FP.Core.i2d x) = false := by
    have := (FP.Core.fin_bits _).mp (FP.Core.i2d_fin x)
    rw [← Bool.not_eq_true, FP.Core.isNaN_bits]
    omega
  have h2 : ¬ FP.Core.DZero (FP.Core.i2d y) := by
    rw [FP.Core.zero_bits2]
    exact FP.Core.i2d_ne_zero h
  have h3 : FP.Core.dIsNaN (FP.Core.ddiv (FP.Core.i2d x) (FP.Core.i2d y)) = false := FP.Core.ddiv_out h1 (FP.Core.i2d_fin y) h2
  have h4 : ¬ 9218868437227405312 < (FP.Core.ddiv (FP.Core.i2d x) (FP.Core.i2d y)).toNat % 2 ^ 63 := by
    rw [← FP.Core.isNaN_bits, h3]
    decide
  show vf_n64 (FP.Core.ddiv (FP.Core.i2d x) (FP.Core.i2d y))
  unfold vf_n64
  rw [UInt64.le_iff_toNat_le, UInt64.toNat_and]
  have e1 : (0x7fffffffffffffff : UInt64).toNat = 2 ^ 63 - 1 := by decide
  have e2 : (0x7ff0000000000000 : UInt64).toNat = 9218868437227405312 := by decide
  rw [e1, e2, Nat.and_two_pow_sub_one_eq_mod]
  omega
theorem num_cmp {r : UInt64} (h : vf_n64 r) : FP.dcmp r r = some .eq := by
  have h1 : FP.Core.val64 r ≠ .nan := by
    rw [Ne, ← FP.Core.dIsNaN_iff, FP.Core.isNaN_bits]
    unfold vf_n64 at h
    rw [UInt64.le_iff_toNat_le, UInt64.toNat_and] at h
    have e1 : (0x7fffffffffffffff : UInt64).toNat = 2 ^ 63 - 1 := by decide
    have e2 : (0x7ff0000000000000 : UInt64).toNat = 9218868437227405312 := by decide
    rw [e1, e2, Nat.and_two_pow_sub_one_eq_mod] at h
    omega
  exact FP.Core.dcmp_self h1
def sp_sum (lv lk : Nat → Int32) : Nat → Int32
  | 0 => 0
  | j + 1 => if lv j = 0 then sp_sum lv lk j else sp_sum lv lk j + lk j
def sp_mean (lv lk : Nat → Int32) (n : Nat) : UInt64 := if sp_cnt lv n = 0 then FP.dconst0 else FP.ddiv (FP.i2d (sp_sum lv lk n)) (FP.i2d (sp_cnt lv n))
theorem mean_cmp (lv lk : Nat → Int32) (n : Nat) : FP.dcmp (sp_mean lv lk n) (sp_mean lv lk n) = some .eq := by
  unfold sp_mean
  by_cases h : sp_cnt lv n = 0
  · rw [if_pos h]; decide
  · rw [if_neg h]; exact num_cmp (mean_num h)

set_option maxHeartbeats 4000000 in
set_option maxRecDepth 100000 in
theorem c_X0_meanLuck (l : Launch) {D : va_G} {z : ClassId × ClassId} {a : Nat → Nat} {lv lk pu fa he : Nat → Int32} {n : Nat} {nv du ta : Nat → Int32} {w : Nat} {mp mi : Nat → Int32} {k : Nat} {nt fu re : Int32} (hn : n ≤ 10) : Met l yX0_meanLuck (ws_ yX0_meanLuck cX0_meanLuck 4 (some .double)) ({ frames := 0, cells := 0, slots := 0, locals := 0 } : Room) (va_Pc [.ref (a 0)] (xI D z a lv lk pu fa he n nv du ta w mp mi k nt fu re)) (vp_Sd (fun r : UInt64 => r = sp_mean lv lk n)) 0 0 (fun _ => False) := by
  refine Met.ofW (cc := cX0_meanLuck) (maxL := 4) (ret := (some .double)) (by decide) rfl ?_
  intro p e s m args below meth c s₁ B hml hv
  obtain ⟨rfl, hP, hK⟩ := hv
  have hx := B.exec
  have hb := B.bytes
  have hr := B.returns
  have hts := atoms_spec (ws := ws_ yX0_meanLuck cX0_meanLuck 4 (some .double)) B.pre
  have hts : ∀ w ∈ lw_all, w.before _ s = true := fun w h => hts w (List.mem_cons_of_mem _ h)
  have hown : s.vm.findClass RX0 = some m.cls := findClass_of_methodNamed B.named
  have hlocks := B.notSynchronized
  have hC : CallFix p m c cX0_meanLuck 4 s _ lw_all RX0 := ⟨hx, hb, hml, hown, hts⟩
  have hl := lv_entry ([.ref (a 0)]) (n := 4) (Nat.le_of_ble_eq_true rfl)
  rw [lg_entry_eq]
  generalize (lg_sl ([.ref (a 0)]) ++ List.replicate (4 - (lg_sl ([.ref (a 0)])).length) Slot.unset).toArray = ls at hl ⊢
  have hl : lv_has ls 4 [(0, .ref (a 0))] := hl
  refine lv_iconst (v := 0) hx hb dX0_meanLuck_0 (by decide) ?_
  refine lv_istore_n (lv' := [(1, .int 0), (0, .ref (a 0))]) hx hb dX0_meanLuck_1 rfl hl (by decide) rfl (fun ls hl => ?_)
  refine lv_iconst (v := 0) hx hb dX0_meanLuck_2 (by decide) ?_
  refine lv_istore_n (lv' := [(2, .int 0), (1, .int 0), (0, .ref (a 0))]) hx hb dX0_meanLuck_3 rfl hl (by decide) rfl (fun ls hl => ?_)
  refine lv_iconst (v := 0) hx hb dX0_meanLuck_4 (by decide) ?_
  refine lv_istore_n (lv' := [(3, .int 0), (2, .int 0), (1, .int 0), (0, .ref (a 0))]) hx hb dX0_meanLuck_5 rfl hl (by decide) rfl (fun ls hl => ?_)
  have loop_6 : ∀ (f : Nat) (j : Nat) (x : Int32) (y : Int32), j ≤ n → n + 1 ≤ j + f → x = sp_cnt lv j → y = sp_sum lv lk j → ∀ ls : Array Slot, lv_has ls 4 [(0, .ref (a 0)), (1, .int x), (2, .int y), (3, .int (nI j))] → W p l e ({ frames := 0, cells := 0, slots := 0, locals := 0 } : Room) s m ([.ref (a 0)] : List Value).toArray below meth c s.heap [] 0 0 (MQ below (vp_Sd (fun r : UInt64 => r = sp_mean lv lk n)) ([.ref (a 0)] : List Value).toArray s 0 0 (fun _ => False)) (F0 m 6 ls []) := by
    intro f
    induction f with
    | zero =>
      intro j x y hj hf ex ey
      exact absurd hf (by omega)
    | succ f ih6 =>
      intro j x y hj hf ex ey ls hl
      refine lv_iload_n hx hb dX0_meanLuck_6 rfl (lv_at hl 3 rfl) ?_
      refine lv_aload_n hx hb dX0_meanLuck_7 rfl (lv_at hl 0 rfl) ?_
      refine xg_n hC hK hP dX0_meanLuck_8 ?_
      refine lv_icmp_ge (tgt := 41) hx hb dX0_meanLuck_11 (by decide) (fun c_11 => ?_) (fun c_11 => ?_)
      · have nc_11 : n ≤ j := nn_le (by omega) c_11
        have ej : j = n := by omega
        rw [ej] at ex ey
        refine lv_iload_n hx hb dX0_meanLuck_41 rfl (lv_at hl 1 rfl) ?_
        refine lv_if_ne (tgt := 47) hx hb dX0_meanLuck_42 (by decide) (fun c_42 => ?_) (fun c_42 => ?_)
        · refine lv_iload_n hx hb dX0_meanLuck_47 rfl (lv_at hl 2 rfl) ?_
          refine lv_i2d hx hb dX0_meanLuck_48 ?_
          refine lv_iload_n hx hb dX0_meanLuck_49 rfl (lv_at hl 1 rfl) ?_
          refine lv_i2d hx hb dX0_meanLuck_50 ?_
          refine lv_ddiv hx hb dX0_meanLuck_51 (mean_num c_42) ?_
          exact W.dret (v := FP.ddiv (FP.i2d y) (FP.i2d x)) hx hb hr (fun t ht hW => ⟨FP.ddiv (FP.i2d y) (FP.i2d x), rfl, (by rw [ex] at c_42; unfold sp_mean; rw [ex, ey, if_neg c_42]), ht⟩) (fun q hq => absurd hq List.not_mem_nil) dX0_meanLuck_52
        · refine lv_dconst0 hx hb dX0_meanLuck_45 ?_
          exact W.dret (v := FP.dconst0) hx hb hr (fun t ht hW => ⟨FP.dconst0, rfl, (by rw [ex] at c_42; unfold sp_mean; rw [if_pos c_42]), ht⟩) (fun q hq => absurd hq List.not_mem_nil) dX0_meanLuck_46
      · have nc_11 : j < n := nn_nle (by omega) c_11
        refine lv_aload_n hx hb dX0_meanLuck_14 rfl (lv_at hl 0 rfl) ?_
        refine xg_lv hC hK hP dX0_meanLuck_15 ?_
        refine lv_iload_n hx hb dX0_meanLuck_18 rfl (lv_at hl 3 rfl) ?_
        refine xl_lv hC hK hP j rfl (by omega) dX0_meanLuck_19 ?_
        refine lv_if_eq (tgt := 35) hx hb dX0_meanLuck_20 (by decide) (fun c_20 => ?_) (fun c_20 => ?_)
        · refine lv_iinc (v := nI (j + 1)) (lv' := [(3, .int (nI (j + 1))), (0, .ref (a 0)), (1, .int x), (2, .int y)]) hx hb dX0_meanLuck_35 hl (k := 3) rfl (nI_1 _) (by decide) rfl (fun ls hl => ?_)
          refine lv_goto (tgt := 6) hx hb dX0_meanLuck_38 (by decide) ?_
          exact ih6 (j + 1) x y (by omega) (by omega) (by simp [ex, sp_cnt, c_20]) (by simp [ey, sp_sum, c_20]) _ (lv_sub hl [1, 2, 3, 0] rfl)
        · refine lv_iinc (v := x + 1) (lv' := [(1, .int (x + 1)), (0, .ref (a 0)), (2, .int y), (3, .int (nI j))]) hx hb dX0_meanLuck_23 hl (k := 1) rfl rfl (by decide) rfl (fun ls hl => ?_)
          refine lv_iload_n hx hb dX0_meanLuck_26 rfl (lv_at hl 2 rfl) ?_
          refine lv_aload_n hx hb dX0_meanLuck_27 rfl (lv_at hl 1 rfl) ?_
          refine xg_lk hC hK hP dX0_meanLuck_28 ?_
          refine lv_iload_n hx hb dX0_meanLuck_31 rfl (lv_at hl 3 rfl) ?_
          refine xl_lk hC hK hP j rfl (by omega) dX0_meanLuck_32 ?_
          refine lv_iadd hx hb dX0_meanLuck_33 ?_
          refine lv_istore_n (lv' := [(2, .int (y + (lk j))), (1, .int (x + 1)), (0, .ref (a 0)), (3, .int (nI j))]) hx hb dX0_meanLuck_34 rfl hl (by decide) rfl (fun ls hl => ?_)
          refine lv_iinc (v := nI (j + 1)) (lv' := [(3, .int (nI (j + 1))), (2, .int (y + (lk j))), (1, .int (x + 1)), (0, .ref (a 0))]) hx hb dX0_meanLuck_35 hl (k := 3) rfl (nI_1 _) (by decide) rfl (fun ls hl => ?_)
          refine lv_goto (tgt := 6) hx hb dX0_meanLuck_38 (by decide) ?_
          exact ih6 (j + 1) (x + 1) (y + (lk j)) (by omega) (by omega) (by simp [ex, sp_cnt, c_20]) (by simp [ey, sp_sum, c_20]) _ (lv_sub hl [3, 2, 1, 0] rfl)
  exact loop_6 (n + 1) 0 0 0 (Nat.zero_le _) (by omega) rfl rfl _ (lv_sub hl [3, 2, 1, 0] rfl)

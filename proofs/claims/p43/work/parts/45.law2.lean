theorem shk_0 {nv : Nat → Int32} {u : Nat} {x : Int32} (h : sp_sh (nv u) = 0) (e : x = sp_shk nv u) : x + 0 = sp_shk nv (u + 1) := by
  simp only [sp_shk]
  rw [if_pos h, ← e]
  exact Int32.add_zero _
theorem shk_1 {nv : Nat → Int32} {u : Nat} {x : Int32} (h : ¬ sp_sh (nv u) = 0) (e : x = sp_shk nv u) : x + 1 = sp_shk nv (u + 1) := by
  simp only [sp_shk]
  rw [if_neg h, ← e]
set_option maxHeartbeats 8000000 in
set_option maxRecDepth 100000 in
theorem lt_2 {p : Program} {l : Launch} {e : Env} {s : State} {m : MethodId} {below : List Frame} {meth : Method} {c : Code} {H : Heap} {locs : List Loc} {cells slots : Nat} {Q : State → Prop} {ls : Array Slot} {xb : Nat} {D : va_G} {z : ClassId × ClassId} {cG : ClassId} {q9 t9 : Nat → Nat} {a : Nat → Nat} {h q22 : Nat} {A : Nat → Prop} {g : Nat → Int32} {i : Nat} {v5 : Int32} {b : Nat → Nat} {rp : Nat → Nat} {rw : Nat → Nat} {rm : Nat → Nat} {lv : Nat → Int32} {lk : Nat → Int32} {pu : Nat → Int32} {fa : Nat → Int32} {he : Nat → Int32} {n : Nat} {nv : Nat → Int32} {du : Nat → Int32} {w : Nat} {mp : Nat → Int32} {mi : Nat → Int32} {k : Nat} {nt : Int32} {fu : Int32} {re : Int32} {ta : Nat → Int32} (hC : CallFix p m c cL_law 19 s #[.ref xb] lw_all RL) (hK : kK D z s) (hE : cH q9 t9 A s s.heap) (hA : ∀ q : Nat, s.heap.size ≤ q → A q) (hIV : IV lv lk pu fa he n nv du w mp mi k fu re) (hP : va_P D vwCl (((q22, .inl (z.2, 10, .inl g)) :: []) ++ (qW z cG b rp rw rm lv lk pu fa he n nv du w mp mi k nt fu re ++ xW z a lv lk pu fa he n nv du ta w mp mi k nt fu re)) H) (hD : va_D A (((q22, .inl (z.2, 10, .inl g)) :: []) ++ (qW z cG b rp rw rm lv lk pu fa he n nv du w mp mi k nt fu re ++ xW z a lv lk pu fa he n nv du ta w mp mi k nt fu re))) (hS : va_S A s.heap H locs) (hcl : cells ≤ 3000) (hsl : slots ≤ 100000) (hl : lv_has ls 19 [(0, .ref xb), (1, .ref (a 0)), (2, .ref h), (3, .ref q22), (4, .int (nI i)), (5, .int v5), (6, .int (nI n)), (7, .int (nI w))]) (kk : ∀ (ta1 : Nat → Int32) (H1 : Heap) (locs1 : List Loc) (ls1 : Array Slot), va_P D vwCl (((q22, .inl (z.2, 10, .inl g)) :: []) ++ (qW z cG b rp rw rm lv lk pu fa he n nv du w mp mi k nt fu re ++ xW z a lv lk pu fa he n nv du ta1 w mp mi k nt fu re)) H1 → va_D A (((q22, .inl (z.2, 10, .inl g)) :: []) ++ (qW z cG b rp rw rm lv lk pu fa he n nv du w mp mi k nt fu re ++ xW z a lv lk pu fa he n nv du ta1 w mp mi k nt fu re)) → va_S A s.heap H1 locs1 → lv_has ls1 19 [(0, .ref xb), (1, .ref (a 0)), (2, .ref h), (3, .ref q22), (4, .int (nI i)), (5, .int v5), (6, .int (nI n))] → W p l e room_1 s m #[.ref xb] below meth c H1 locs1 cells slots Q (F0 m 775 ls1 [])) : W p l e room_1 s m #[.ref xb] below meth c H locs cells slots Q (F0 m 424 ls []) := by
  have hx := hC.1
  have hb := hC.2.1
  have hml := hC.2.2.1
  have hown := hC.2.2.2.1
  have hts := hC.2.2.2.2
  obtain ⟨⟨hn, hw, hk6⟩, h01, hlk, hfa, hpu, hH, hdead, hnv, hdu, hmp, hmi, ⟨FF, hfu, hFF⟩, ⟨rr, hre, hrr⟩⟩ := id hIV
  refine lv_iconst (v := 1) hx hb dL_law_424 (by decide) ?_
  refine lv_iload hx hb dL_law_425 (lv_at hl 5 rfl) ?_
  refine lv_iconst (v := 3) hx hb dL_law_427 (by decide) ?_
  refine lv_ishr hx hb dL_law_428 ?_
  refine lv_bipush (v := 60) hx hb dL_law_429 (by decide) ?_
  refine kL_below (n := 60) hC mM_L_18 hl.1 ⟨Nat.le_of_ble_eq_true rfl, Nat.le_of_ble_eq_true rfl⟩ ⟨(by show _ ≤ 600172; omega), (by show _ ≤ 7300668; omega)⟩ (Nat.le_of_ble_eq_true rfl) rfl (by omega) (by omega) dL_law_431 ?_
  have hx431 : bel (v5 >>> (3 &&& 31)) 60 < 60 := bel_lt (by omega)
  obtain ⟨x431, ex431⟩ : ∃ x9 : Nat, x9 = bel (v5 >>> (3 &&& 31)) 60 := ⟨_, rfl⟩
  rw [← ex431] at hx431
  rw [← ex431]
  refine lv_iadd hx hb dL_law_434 ?_
  rw [show (1 + (nI x431) : Int32) = nI (1 + x431) from (nI_add 1 x431)]
  obtain ⟨bb, ebb⟩ : ∃ bb : Nat, bb = 1 + x431 := ⟨_, rfl⟩
  rw [← ebb]
  have hb1 : 1 ≤ bb := by omega
  have hb2 : bb ≤ 60 := by omega
  refine lv_istore (lv' := [(11, .int (nI bb)), (0, .ref xb), (1, .ref (a 0)), (2, .ref h), (3, .ref q22), (4, .int (nI i)), (5, .int v5), (6, .int (nI n)), (7, .int (nI w))]) hx hb dL_law_435 hl (by decide) rfl (fun ls hl => ?_)
  refine lv_bipush (v := 99) hx hb dL_law_437 (by decide) ?_
  refine lv_istore (lv' := [(12, .int 99), (11, .int (nI bb)), (0, .ref xb), (1, .ref (a 0)), (2, .ref h), (3, .ref q22), (4, .int (nI i)), (5, .int v5), (6, .int (nI n)), (7, .int (nI w))]) hx hb dL_law_439 hl (by decide) rfl (fun ls hl => ?_)
  refine lv_iconst (v := 0) hx hb dL_law_441 (by decide) ?_
  refine lv_istore (lv' := [(13, .int 0), (12, .int 99), (11, .int (nI bb)), (0, .ref xb), (1, .ref (a 0)), (2, .ref h), (3, .ref q22), (4, .int (nI i)), (5, .int v5), (6, .int (nI n)), (7, .int (nI w))]) hx hb dL_law_442 hl (by decide) rfl (fun ls hl => ?_)
  refine lv_iconst (v := 0) hx hb dL_law_444 (by decide) ?_
  refine lv_istore (lv' := [(14, .int 0), (13, .int 0), (12, .int 99), (11, .int (nI bb)), (0, .ref xb), (1, .ref (a 0)), (2, .ref h), (3, .ref q22), (4, .int (nI i)), (5, .int v5), (6, .int (nI n)), (7, .int (nI w))]) hx hb dL_law_445 hl (by decide) rfl (fun ls hl => ?_)
  refine lv_iconst (v := 0) hx hb dL_law_447 (by decide) ?_
  refine lv_istore (lv' := [(15, .int 0), (14, .int 0), (13, .int 0), (12, .int 99), (11, .int (nI bb)), (0, .ref xb), (1, .ref (a 0)), (2, .ref h), (3, .ref q22), (4, .int (nI i)), (5, .int v5), (6, .int (nI n)), (7, .int (nI w))]) hx hb dL_law_448 hl (by decide) rfl (fun ls hl => ?_)
  have loop_450 : ∀ (f : Nat) (u : Nat) (least : Nat) (most : Nat) (x14 : Int32), u ≤ w → w + 1 ≤ u + f → MM nv du bb least most u → x14 = sp_shk nv u → ∀ (H : Heap) (locs : List Loc), va_P D vwCl (((q22, .inl (z.2, 10, .inl g)) :: []) ++ (qW z cG b rp rw rm lv lk pu fa he n nv du w mp mi k nt fu re ++ xW z a lv lk pu fa he n nv du ta w mp mi k nt fu re)) H → va_D A (((q22, .inl (z.2, 10, .inl g)) :: []) ++ (qW z cG b rp rw rm lv lk pu fa he n nv du w mp mi k nt fu re ++ xW z a lv lk pu fa he n nv du ta w mp mi k nt fu re)) → va_S A s.heap H locs → ∀ ls : Array Slot, lv_has ls 19 [(0, .ref xb), (1, .ref (a 0)), (2, .ref h), (3, .ref q22), (4, .int (nI i)), (5, .int v5), (6, .int (nI n)), (7, .int (nI w)), (11, .int (nI bb)), (12, .int (nI least)), (13, .int (nI most)), (14, .int x14), (15, .int (nI u))] → W p l e room_1 s m #[.ref xb] below meth c H locs (cells) (slots) Q (F0 m 450 ls []) := by
    intro f
    induction f with
    | zero =>
      intro u least most x14 hu hf hMM ex14
      exact absurd hf (by omega)
    | succ f ih450 =>
      intro u least most x14 hu hf hMM ex14 H locs hP hD hS ls hl
      have hls9 : least ≤ 99 := hMM.1
      have hms9 : most ≤ 60 := hMM.2.1
      refine lv_iload hx hb dL_law_450 (lv_at hl 12 rfl) ?_
      refine lv_iload hx hb dL_law_452 (lv_at hl 7 rfl) ?_
      refine lv_icmp_ge (tgt := 675) hx hb dL_law_454 (by decide) (fun c_454 => ?_) (fun c_454 => ?_)
      · have nc_454 : w ≤ u := nn_le (by omega) c_454
        have euw : u = w := by omega
        rw [euw] at hMM ex14
        refine lv_aload_n hx hb dL_law_675 rfl (lv_at hl 1 rfl) ?_
        refine lv_iload hx hb dL_law_676 (lv_at hl 8 rfl) ?_
        refine kx_X0_wouldCertify hC mM_L_149 hK hP hD hS hA hl.1 ⟨Nat.le_of_ble_eq_true rfl, Nat.le_of_ble_eq_true rfl⟩ ⟨(by show _ ≤ 600172; omega), (by show _ ≤ 7300668; omega)⟩ (Nat.le_of_ble_eq_true rfl)  (nle1 (by omega) (by omega)) (le_c (by omega) (by decide)) (by first | assumption | omega) dL_law_678 (fun H locs hP hD hS => ?_)
        rcases mid_fact (g := ta) hMM with ⟨hm0, hce, htn⟩ | ⟨hm0, htn, yc, hce, hy1, hy2, hy3, hy4⟩
        · rw [hce]
          refine lv_istore (lv' := [(15, .int 0), (0, .ref xb), (1, .ref (a 0)), (2, .ref h), (3, .ref q22), (4, .int (nI i)), (5, .int v5), (6, .int (nI n)), (7, .int (nI w)), (11, .int (nI bb)), (12, .int (nI least)), (13, .int (nI most)), (14, .int x14)]) hx hb dL_law_681 hl (by decide) rfl (fun ls hl => ?_)
          refine lv_iload hx hb dL_law_683 (lv_at hl 12 rfl) ?_
          refine lv_aload_n hx hb dL_law_685 rfl (lv_at hl 2 rfl) ?_
          refine kx_X0_shaken hC mM_L_152 hK hP hl.1 ⟨Nat.le_of_ble_eq_true rfl, Nat.le_of_ble_eq_true rfl⟩ ⟨(by show _ ≤ 600172; omega), (by show _ ≤ 7300668; omega)⟩ (Nat.le_of_ble_eq_true rfl)  (by first | assumption | omega) dL_law_686 ?_
          refine lv_icmp_ne (tgt := 773) hx hb dL_law_689 (by decide) (fun c_689 => ?_) (fun c_689 => ?_)
          · exact absurd ex14 c_689
          · refine lv_iload hx hb dL_law_692 (lv_at hl 11 rfl) ?_
            refine lv_if_ne (tgt := 702) hx hb dL_law_694 (by decide) (fun c_694 => ?_) (fun c_694 => ?_)
            · exact absurd (by rw [hm0]; rfl) c_694
            · have nc_694 : most = 0 := nn_eq (by omega) c_694
              refine lv_iload hx hb dL_law_697 (lv_at hl 0 rfl) ?_
              refine lv_if_ne (tgt := 773) hx hb dL_law_699 (by decide) (fun c_699 => ?_) (fun c_699 => ?_)
              · exact absurd rfl c_699
              · refine lv_iload hx hb dL_law_702 (lv_at hl 11 rfl) ?_
                refine lv_if_le (tgt := 721) hx hb dL_law_704 (by decide) (fun c_704 => ?_) (fun c_704 => ?_)
                · have nc_704 : most ≤ 0 := nn_le (by omega) c_704
                  refine lv_aload_n hx hb dL_law_721 rfl (lv_at hl 2 rfl) ?_
                  refine lv_iload hx hb dL_law_722 (lv_at hl 9 rfl) ?_
                  refine kx_X0_missesUntilShaken hC mM_L_155 hK hP hl.1 ⟨Nat.le_of_ble_eq_true rfl, Nat.le_of_ble_eq_true rfl⟩ ⟨(by show _ ≤ 600172; omega), (by show _ ≤ 7300668; omega)⟩ (Nat.le_of_ble_eq_true rfl)  (nle1 (by omega) (by omega)) (le_c (by omega) (by decide)) (by first | assumption | omega) dL_law_724 ?_
                  refine lv_if_ne (tgt := 734) hx hb dL_law_727 (by decide) (fun c_727 => ?_) (fun c_727 => ?_)
                  · exact absurd ((mus_iff hnv hw).mpr htn) c_727
                  · refine lv_iconst (v := 1) hx hb dL_law_730 (by decide) ?_
                    refine lv_goto (tgt := 735) hx hb dL_law_731 (by decide) ?_
                    refine lv_iload hx hb dL_law_735 (lv_at hl 11 rfl) ?_
                    refine lv_if_ne (tgt := 744) hx hb dL_law_737 (by decide) (fun c_737 => ?_) (fun c_737 => ?_)
                    · exact absurd (by rw [hm0]; rfl) c_737
                    · have nc_737 : most = 0 := nn_eq (by omega) c_737
                      refine lv_iconst (v := 1) hx hb dL_law_740 (by decide) ?_
                      refine lv_goto (tgt := 745) hx hb dL_law_741 (by decide) ?_
                      refine lv_icmp_ne (tgt := 773) hx hb dL_law_745 (by decide) (fun c_745 => ?_) (fun c_745 => ?_)
                      · exact absurd rfl c_745
                      · refine lv_aload_n hx hb dL_law_748 rfl (lv_at hl 2 rfl) ?_
                        refine kx_X0_nightsUntilCalm hC mM_L_158 hK hP hl.1 ⟨Nat.le_of_ble_eq_true rfl, Nat.le_of_ble_eq_true rfl⟩ ⟨(by show _ ≤ 600172; omega), (by show _ ≤ 7300668; omega)⟩ (Nat.le_of_ble_eq_true rfl)  (by first | assumption | omega) dL_law_749 ?_
                        refine lv_if_ne (tgt := 759) hx hb dL_law_752 (by decide) (fun c_752 => ?_) (fun c_752 => ?_)
                        · refine lv_iconst (v := 0) hx hb dL_law_759 (by decide) ?_
                          refine lv_iload hx hb dL_law_760 (lv_at hl 12 rfl) ?_
                          refine lv_if_ne (tgt := 769) hx hb dL_law_762 (by decide) (fun c_762 => ?_) (fun c_762 => ?_)
                          · refine lv_iconst (v := 0) hx hb dL_law_769 (by decide) ?_
                            refine lv_icmp_eq (tgt := 775) hx hb dL_law_770 (by decide) (fun c_770 => ?_) (fun c_770 => ?_)
                            · exact kk (sp_tarr du nv (nI bb) ta w) _ _ _ hP hD hS (lv_sub hl [1, 2, 3, 4, 5, 6, 7] rfl)
                            · exact absurd rfl c_770
                          · exact absurd ((nuc_iff hw).mpr (by rw [← ex14]; exact c_762)) c_752
                        · refine lv_iconst (v := 1) hx hb dL_law_755 (by decide) ?_
                          refine lv_goto (tgt := 760) hx hb dL_law_756 (by decide) ?_
                          refine lv_iload hx hb dL_law_760 (lv_at hl 12 rfl) ?_
                          refine lv_if_ne (tgt := 769) hx hb dL_law_762 (by decide) (fun c_762 => ?_) (fun c_762 => ?_)
                          · exact absurd (by rw [ex14]; exact (nuc_iff hw).mp c_752) c_762
                          · refine lv_iconst (v := 1) hx hb dL_law_765 (by decide) ?_
                            refine lv_goto (tgt := 770) hx hb dL_law_766 (by decide) ?_
                            refine lv_icmp_eq (tgt := 775) hx hb dL_law_770 (by decide) (fun c_770 => ?_) (fun c_770 => ?_)
                            · exact kk (sp_tarr du nv (nI bb) ta w) _ _ _ hP hD hS (lv_sub hl [1, 2, 3, 4, 5, 6, 7] rfl)
                            · exact absurd rfl c_770
                · exact absurd (by rw [hm0]; decide) c_704
        · rw [hce]
          refine lv_istore (lv' := [(15, .int (nI yc)), (0, .ref xb), (1, .ref (a 0)), (2, .ref h), (3, .ref q22), (4, .int (nI i)), (5, .int v5), (6, .int (nI n)), (7, .int (nI w)), (11, .int (nI bb)), (12, .int (nI least)), (13, .int (nI most)), (14, .int x14)]) hx hb dL_law_681 hl (by decide) rfl (fun ls hl => ?_)
          refine lv_iload hx hb dL_law_683 (lv_at hl 12 rfl) ?_
          refine lv_aload_n hx hb dL_law_685 rfl (lv_at hl 2 rfl) ?_
          refine kx_X0_shaken hC mM_L_152 hK hP hl.1 ⟨Nat.le_of_ble_eq_true rfl, Nat.le_of_ble_eq_true rfl⟩ ⟨(by show _ ≤ 600172; omega), (by show _ ≤ 7300668; omega)⟩ (Nat.le_of_ble_eq_true rfl)  (by first | assumption | omega) dL_law_686 ?_
          refine lv_icmp_ne (tgt := 773) hx hb dL_law_689 (by decide) (fun c_689 => ?_) (fun c_689 => ?_)
          · exact absurd ex14 c_689
          · refine lv_iload hx hb dL_law_692 (lv_at hl 11 rfl) ?_
            refine lv_if_ne (tgt := 702) hx hb dL_law_694 (by decide) (fun c_694 => ?_) (fun c_694 => ?_)
            · have nc_694 : ¬ most = 0 := nn_ne (by omega) c_694
              refine lv_iload hx hb dL_law_702 (lv_at hl 11 rfl) ?_
              refine lv_if_le (tgt := 721) hx hb dL_law_704 (by decide) (fun c_704 => ?_) (fun c_704 => ?_)
              · exact absurd (nn_le (a := most) (b := 0) (by omega) c_704) (by omega)
              · have nc_704 : 0 < most := nn_nle (by omega) c_704
                refine lv_iload hx hb dL_law_707 (lv_at hl 0 rfl) ?_
                refine lv_iload hx hb dL_law_709 (lv_at hl 10 rfl) ?_
                refine lv_icmp_lt (tgt := 773) hx hb dL_law_711 (by decide) (fun c_711 => ?_) (fun c_711 => ?_)
                · exact absurd c_711 (nI_nlt (by omega) (by omega))
                · have nc_711 : least ≤ yc := nn_nlt (by omega) c_711
                  refine lv_iload hx hb dL_law_714 (lv_at hl 0 rfl) ?_
                  refine lv_iload hx hb dL_law_716 (lv_at hl 11 rfl) ?_
                  refine lv_icmp_gt (tgt := 773) hx hb dL_law_718 (by decide) (fun c_718 => ?_) (fun c_718 => ?_)
                  · exact absurd c_718 (nI_nlt (by omega) (by omega))
                  · have nc_718 : yc ≤ most := nn_nlt (by omega) c_718
                    refine lv_aload_n hx hb dL_law_721 rfl (lv_at hl 2 rfl) ?_
                    refine lv_iload hx hb dL_law_722 (lv_at hl 9 rfl) ?_
                    refine kx_X0_missesUntilShaken hC mM_L_155 hK hP hl.1 ⟨Nat.le_of_ble_eq_true rfl, Nat.le_of_ble_eq_true rfl⟩ ⟨(by show _ ≤ 600172; omega), (by show _ ≤ 7300668; omega)⟩ (Nat.le_of_ble_eq_true rfl)  (nle1 (by omega) (by omega)) (le_c (by omega) (by decide)) (by first | assumption | omega) dL_law_724 ?_
                    refine lv_if_ne (tgt := 734) hx hb dL_law_727 (by decide) (fun c_727 => ?_) (fun c_727 => ?_)
                    · refine lv_iconst (v := 0) hx hb dL_law_734 (by decide) ?_
                      refine lv_iload hx hb dL_law_735 (lv_at hl 11 rfl) ?_
                      refine lv_if_ne (tgt := 744) hx hb dL_law_737 (by decide) (fun c_737 => ?_) (fun c_737 => ?_)
                      · have nc_737 : ¬ most = 0 := nn_ne (by omega) c_737
                        refine lv_iconst (v := 0) hx hb dL_law_744 (by decide) ?_
                        refine lv_icmp_ne (tgt := 773) hx hb dL_law_745 (by decide) (fun c_745 => ?_) (fun c_745 => ?_)
                        · exact absurd rfl c_745
                        · refine lv_aload_n hx hb dL_law_748 rfl (lv_at hl 2 rfl) ?_
                          refine kx_X0_nightsUntilCalm hC mM_L_158 hK hP hl.1 ⟨Nat.le_of_ble_eq_true rfl, Nat.le_of_ble_eq_true rfl⟩ ⟨(by show _ ≤ 600172; omega), (by show _ ≤ 7300668; omega)⟩ (Nat.le_of_ble_eq_true rfl)  (by first | assumption | omega) dL_law_749 ?_
                          refine lv_if_ne (tgt := 759) hx hb dL_law_752 (by decide) (fun c_752 => ?_) (fun c_752 => ?_)
                          · refine lv_iconst (v := 0) hx hb dL_law_759 (by decide) ?_
                            refine lv_iload hx hb dL_law_760 (lv_at hl 12 rfl) ?_
                            refine lv_if_ne (tgt := 769) hx hb dL_law_762 (by decide) (fun c_762 => ?_) (fun c_762 => ?_)
                            · refine lv_iconst (v := 0) hx hb dL_law_769 (by decide) ?_
                              refine lv_icmp_eq (tgt := 775) hx hb dL_law_770 (by decide) (fun c_770 => ?_) (fun c_770 => ?_)
                              · exact kk (sp_tarr du nv (nI bb) ta w) _ _ _ hP hD hS (lv_sub hl [1, 2, 3, 4, 5, 6, 7] rfl)
                              · exact absurd rfl c_770
                            · exact absurd ((nuc_iff hw).mpr (by rw [← ex14]; exact c_762)) c_752
                          · refine lv_iconst (v := 1) hx hb dL_law_755 (by decide) ?_
                            refine lv_goto (tgt := 760) hx hb dL_law_756 (by decide) ?_
                            refine lv_iload hx hb dL_law_760 (lv_at hl 12 rfl) ?_
                            refine lv_if_ne (tgt := 769) hx hb dL_law_762 (by decide) (fun c_762 => ?_) (fun c_762 => ?_)
                            · exact absurd (by rw [ex14]; exact (nuc_iff hw).mp c_752) c_762
                            · refine lv_iconst (v := 1) hx hb dL_law_765 (by decide) ?_
                              refine lv_goto (tgt := 770) hx hb dL_law_766 (by decide) ?_
                              refine lv_icmp_eq (tgt := 775) hx hb dL_law_770 (by decide) (fun c_770 => ?_) (fun c_770 => ?_)
                              · exact kk (sp_tarr du nv (nI bb) ta w) _ _ _ hP hD hS (lv_sub hl [1, 2, 3, 4, 5, 6, 7] rfl)
                              · exact absurd rfl c_770
                      · exact absurd (nn_eq (a := most) (b := 0) (by omega) c_737) hm0
                    · exact absurd ((mus_iff hnv hw).mp c_727) htn
            · exact absurd (nn_eq (a := most) (b := 0) (by omega) c_694) hm0
      · have nc_454 : u < w := nn_nle (by omega) c_454
        obtain ⟨yu, hyu, eyu⟩ := hnv u nc_454
        obtain ⟨tu, etu, htb, htc⟩ := tell_is eyu hyu hb1 hb2
        refine lv_aload_n hx hb dL_law_457 rfl (lv_at hl 1 rfl) ?_
        refine lv_iload hx hb dL_law_458 (lv_at hl 12 rfl) ?_
        refine lv_iload hx hb dL_law_460 (lv_at hl 8 rfl) ?_
        refine kx_X0_wouldTell hC mM_L_129 hK hP hl.1 ⟨Nat.le_of_ble_eq_true rfl, Nat.le_of_ble_eq_true rfl⟩ ⟨(by show _ ≤ 600172; omega), (by show _ ≤ 7300668; omega)⟩ (Nat.le_of_ble_eq_true rfl) rfl (by first | assumption | omega) (by first | assumption | omega) (nle1 (by omega) (by omega)) (le_c (by omega) (by decide)) dL_law_462 ?_
        rw [etu]
        refine lv_istore (lv' := [(16, .int (nI tu)), (0, .ref xb), (1, .ref (a 0)), (2, .ref h), (3, .ref q22), (4, .int (nI i)), (5, .int v5), (6, .int (nI n)), (7, .int (nI w)), (11, .int (nI bb)), (12, .int (nI least)), (13, .int (nI most)), (14, .int x14), (15, .int (nI u))]) hx hb dL_law_465 hl (by decide) rfl (fun ls hl => ?_)
        refine lv_aload_n hx hb dL_law_467 rfl (lv_at hl 2 rfl) ?_
        refine lv_iload hx hb dL_law_468 (lv_at hl 13 rfl) ?_
        refine kx_X0_nerveOf hC mM_L_132 hK hP hl.1 ⟨Nat.le_of_ble_eq_true rfl, Nat.le_of_ble_eq_true rfl⟩ ⟨(by show _ ≤ 600172; omega), (by show _ ≤ 7300668; omega)⟩ (Nat.le_of_ble_eq_true rfl) rfl (by first | assumption | omega) (by first | assumption | omega) dL_law_470 ?_
        refine lv_iconst (v := 3) hx hb dL_law_473 (by decide) ?_
        refine lv_icmp_ge (tgt := 481) hx hb dL_law_474 (by decide) (fun c_474 => ?_) (fun c_474 => ?_)
        · obtain ⟨hsh, ht1, ht3⟩ : sp_sh (nv u) = 0 ∧ 1 ≤ tu ∧ bb ≤ tu + 3 := by
            rcases htc with ⟨-, q1, q2, q3⟩ | ⟨q0, -⟩
            · exact ⟨q1, q2, q3⟩
            · exact absurd c_474 q0
          refine lv_iconst (v := 0) hx hb dL_law_481 (by decide) ?_
          refine lv_istore (lv' := [(17, .int 0), (16, .int (nI tu)), (0, .ref xb), (1, .ref (a 0)), (2, .ref h), (3, .ref q22), (4, .int (nI i)), (5, .int v5), (6, .int (nI n)), (7, .int (nI w)), (11, .int (nI bb)), (12, .int (nI least)), (13, .int (nI most)), (14, .int x14), (15, .int (nI u))]) hx hb dL_law_482 hl (by decide) rfl (fun ls hl => ?_)
          refine lv_iload hx hb dL_law_484 (lv_at hl 13 rfl) ?_
          refine lv_iload hx hb dL_law_486 (lv_at hl 0 rfl) ?_
          refine lv_if_eq (tgt := 495) hx hb dL_law_488 (by decide) (fun c_488 => ?_) (fun c_488 => ?_)
          · refine lv_iconst (v := 0) hx hb dL_law_495 (by decide) ?_
            refine lv_iadd hx hb dL_law_496 ?_
            refine lv_istore (lv' := [(14, .int (x14 + 0)), (17, .int 0), (16, .int (nI tu)), (0, .ref xb), (1, .ref (a 0)), (2, .ref h), (3, .ref q22), (4, .int (nI i)), (5, .int v5), (6, .int (nI n)), (7, .int (nI w)), (11, .int (nI bb)), (12, .int (nI least)), (13, .int (nI most)), (15, .int (nI u))]) hx hb dL_law_497 hl (by decide) rfl (fun ls hl => ?_)
            refine lv_aload_n hx hb dL_law_499 rfl (lv_at hl 4 rfl) ?_
            refine lv_iload hx hb dL_law_500 (lv_at hl 14 rfl) ?_
            refine kx_X0_nerveOf hC mM_L_132 hK hP hl.1 ⟨Nat.le_of_ble_eq_true rfl, Nat.le_of_ble_eq_true rfl⟩ ⟨(by show _ ≤ 600172; omega), (by show _ ≤ 7300668; omega)⟩ (Nat.le_of_ble_eq_true rfl) rfl (by first | assumption | omega) (by first | assumption | omega) dL_law_502 ?_
            refine lv_if_lt (tgt := 581) hx hb dL_law_505 (by decide) (fun c_505 => ?_) (fun c_505 => ?_)
            · exact absurd c_505 (by rw [eyu]; exact nI_pos (by omega))
            · refine lv_aload_n hx hb dL_law_508 rfl (lv_at hl 4 rfl) ?_
              refine lv_iload hx hb dL_law_509 (lv_at hl 14 rfl) ?_
              refine kx_X0_nerveOf hC mM_L_132 hK hP hl.1 ⟨Nat.le_of_ble_eq_true rfl, Nat.le_of_ble_eq_true rfl⟩ ⟨(by show _ ≤ 600172; omega), (by show _ ≤ 7300668; omega)⟩ (Nat.le_of_ble_eq_true rfl) rfl (by first | assumption | omega) (by first | assumption | omega) dL_law_511 ?_
              refine lv_bipush (v := 9) hx hb dL_law_514 (by decide) ?_
              refine lv_icmp_gt (tgt := 581) hx hb dL_law_516 (by decide) (fun c_516 => ?_) (fun c_516 => ?_)
              · exact absurd c_516 (by rw [eyu]; exact nI_nlt (a := 9) (b := yu) (by omega) (by omega))
              · refine lv_iload hx hb dL_law_519 (lv_at hl 2 rfl) ?_
                refine lv_if_ne (tgt := 528) hx hb dL_law_521 (by decide) (fun c_521 => ?_) (fun c_521 => ?_)
                · have nc_521 : ¬ tu = 0 := nn_ne (by omega) c_521
                  refine lv_iconst (v := 0) hx hb dL_law_528 (by decide) ?_
                  refine lv_iload hx hb dL_law_529 (lv_at hl 1 rfl) ?_
                  refine lv_icmp_ne (tgt := 581) hx hb dL_law_531 (by decide) (fun c_531 => ?_) (fun c_531 => ?_)
                  · exact absurd rfl c_531
                  · refine lv_iload hx hb dL_law_534 (lv_at hl 2 rfl) ?_
                    refine lv_iload hx hb dL_law_536 (lv_at hl 11 rfl) ?_
                    refine lv_icmp_gt (tgt := 581) hx hb dL_law_538 (by decide) (fun c_538 => ?_) (fun c_538 => ?_)
                    · exact absurd (nn_lt (by omega) c_538) (by omega)
                    · have nc_538 : tu ≤ bb := nn_nlt (by omega) c_538
                      refine lv_iload hx hb dL_law_541 (lv_at hl 1 rfl) ?_
                      refine lv_if_ne (tgt := 555) hx hb dL_law_543 (by decide) (fun c_543 => ?_) (fun c_543 => ?_)
                      · exact absurd rfl c_543
                      · refine lv_iload hx hb dL_law_546 (lv_at hl 2 rfl) ?_
                        refine lv_iload hx hb dL_law_548 (lv_at hl 11 rfl) ?_
                        refine lv_iconst (v := 3) hx hb dL_law_550 (by decide) ?_
                        refine lv_isub hx hb dL_law_551 ?_
                        refine lv_icmp_lt (tgt := 581) hx hb dL_law_552 (by decide) (fun c_552 => ?_) (fun c_552 => ?_)
                        · exact absurd c_552 (by rw [Int32.lt_iff_toInt_lt, nI_toInt (by omega), show (nI bb - 3).toInt = (bb : Int) - 3 from pk_sub_toInt (a := bb) (b := 3) (by omega) (by omega)]; omega)
                        · refine lv_aload_n hx hb dL_law_555 rfl (lv_at hl 4 rfl) ?_
                          refine lv_iload hx hb dL_law_556 (lv_at hl 14 rfl) ?_
                          refine kx_X0_isOnDuty hC mM_L_135 hK hP hl.1 ⟨Nat.le_of_ble_eq_true rfl, Nat.le_of_ble_eq_true rfl⟩ ⟨(by show _ ≤ 600172; omega), (by show _ ≤ 7300668; omega)⟩ (Nat.le_of_ble_eq_true rfl) rfl (by first | assumption | omega) (by first | assumption | omega) (hdu u (by omega)) dL_law_558 ?_
                          refine lv_if_eq (tgt := 583) hx hb dL_law_561 (by decide) (fun c_561 => ?_) (fun c_561 => ?_)
                          · refine lv_iconst (v := 0) hx hb dL_law_583 (by decide) ?_
                            refine lv_istore (lv' := [(18, .int 0), (14, .int (x14 + 0)), (17, .int 0), (16, .int (nI tu)), (0, .ref xb), (1, .ref (a 0)), (2, .ref h), (3, .ref q22), (4, .int (nI i)), (5, .int v5), (6, .int (nI n)), (7, .int (nI w)), (11, .int (nI bb)), (12, .int (nI least)), (13, .int (nI most)), (15, .int (nI u))]) hx hb dL_law_584 hl (by decide) rfl (fun ls hl => ?_)
                            have loop_586 : ∀ (f : Nat) (t2 : Nat), t2 ≤ w → w + 1 ≤ t2 + f → ∀ (H : Heap) (locs : List Loc), va_P D vwCl (((q22, .inl (z.2, 10, .inl g)) :: []) ++ (qW z cG b rp rw rm lv lk pu fa he n nv du w mp mi k nt fu re ++ xW z a lv lk pu fa he n nv du ta w mp mi k nt fu re)) H → va_D A (((q22, .inl (z.2, 10, .inl g)) :: []) ++ (qW z cG b rp rw rm lv lk pu fa he n nv du w mp mi k nt fu re ++ xW z a lv lk pu fa he n nv du ta w mp mi k nt fu re)) → va_S A s.heap H locs → ∀ ls : Array Slot, lv_has ls 19 [(0, .ref xb), (1, .ref (a 0)), (2, .ref h), (3, .ref q22), (4, .int (nI i)), (5, .int v5), (6, .int (nI n)), (7, .int (nI w)), (11, .int (nI bb)), (12, .int (nI least)), (13, .int (nI most)), (14, .int (x14 + 0)), (15, .int (nI u)), (16, .int (nI tu)), (17, .int 0), (18, .int (nI t2))] → W p l e room_1 s m #[.ref xb] below meth c H locs (cells) (slots) Q (F0 m 586 ls []) := by
                              intro f
                              induction f with
                              | zero =>
                                intro t2 ht2 hf
                                exact absurd hf (by omega)
                              | succ f ih586 =>
                                intro t2 ht2 hf H locs hP hD hS ls hl
                                refine lv_iload hx hb dL_law_586 (lv_at hl 15 rfl) ?_
                                refine lv_iload hx hb dL_law_588 (lv_at hl 7 rfl) ?_
                                refine lv_icmp_ge (tgt := 634) hx hb dL_law_590 (by decide) (fun c_590 => ?_) (fun c_590 => ?_)
                                · have nc_590 : w ≤ t2 := nn_le (by omega) c_590
                                  refine lv_aload_n hx hb dL_law_634 rfl (lv_at hl 1 rfl) ?_
                                  refine lv_iload hx hb dL_law_635 (lv_at hl 12 rfl) ?_
                                  refine kx_X0_isOnDuty hC mM_L_135 hK hP hl.1 ⟨Nat.le_of_ble_eq_true rfl, Nat.le_of_ble_eq_true rfl⟩ ⟨(by show _ ≤ 600172; omega), (by show _ ≤ 7300668; omega)⟩ (Nat.le_of_ble_eq_true rfl) rfl (by first | assumption | omega) (by first | assumption | omega) (hdu u (by omega)) dL_law_637 ?_
                                  refine lv_if_eq (tgt := 669) hx hb dL_law_640 (by decide) (fun c_640 => ?_) (fun c_640 => ?_)
                                  · refine lv_iinc (v := nI (u + 1)) (lv' := [(15, .int (nI (u + 1))), (0, .ref xb), (1, .ref (a 0)), (2, .ref h), (3, .ref q22), (4, .int (nI i)), (5, .int v5), (6, .int (nI n)), (7, .int (nI w)), (11, .int (nI bb)), (12, .int (nI least)), (13, .int (nI most)), (14, .int (x14 + 0)), (16, .int (nI tu)), (17, .int 0), (18, .int (nI t2))]) hx hb dL_law_669 hl (k := 12) rfl (nI_1 _) (by decide) rfl (fun ls hl => ?_)
                                    refine lv_goto (tgt := 450) hx hb dL_law_672 (by decide) ?_
                                    exact ih450 (u + 1) least most (x14 + 0) (by omega) (by omega) (MM_skip hMM (Or.inl c_640)) (shk_0 hsh ex14) _ _ hP hD hS  _ (lv_sub hl [1, 2, 3, 4, 5, 6, 7, 8, 9, 10, 11, 12, 0] rfl)
                                  · refine lv_iload hx hb dL_law_643 (lv_at hl 14 rfl) ?_
                                    refine lv_if_eq (tgt := 651) hx hb dL_law_645 (by decide) (fun c_645 => ?_) (fun c_645 => ?_)
                                    · refine lv_iload hx hb dL_law_651 (lv_at hl 9 rfl) ?_
                                      refine lv_iload hx hb dL_law_653 (lv_at hl 13 rfl) ?_
                                      refine va_mmin hx hb (hml.trans hl.1.symm) hown (hts _ mM_L_141) (hts _ mT_min) (hts _ mI_Math) (hts _ mC_min) (Nat.le_of_ble_eq_true rfl) (Nat.le_of_ble_eq_true rfl) (by show _ ≤ 600172; omega) (by show _ ≤ 7300668; omega) dL_law_655 ?_
                                      rw [show (if nI tu < nI least then nI tu else nI least : Int32) = nI (min least tu) from (im_n (by omega) (by omega))]
                                      refine lv_istore (lv' := [(12, .int (nI (min least tu))), (0, .ref xb), (1, .ref (a 0)), (2, .ref h), (3, .ref q22), (4, .int (nI i)), (5, .int v5), (6, .int (nI n)), (7, .int (nI w)), (11, .int (nI bb)), (13, .int (nI most)), (14, .int (x14 + 0)), (15, .int (nI u)), (16, .int (nI tu)), (17, .int 0), (18, .int (nI t2))]) hx hb dL_law_658 hl (by decide) rfl (fun ls hl => ?_)
                                      refine lv_iload hx hb dL_law_660 (lv_at hl 10 rfl) ?_
                                      refine lv_iload hx hb dL_law_662 (lv_at hl 13 rfl) ?_
                                      refine va_mmax hx hb (hml.trans hl.1.symm) hown (hts _ mM_L_146) (hts _ mT_max) (hts _ mI_Math) (hts _ mC_max) (Nat.le_of_ble_eq_true rfl) (Nat.le_of_ble_eq_true rfl) (by show _ ≤ 600172; omega) (by show _ ≤ 7300668; omega) dL_law_664 ?_
                                      rw [show (if nI most < nI tu then nI tu else nI most : Int32) = nI (max most tu) from (ix_n (by omega) (by omega))]
                                      refine lv_istore (lv' := [(13, .int (nI (max most tu))), (12, .int (nI (min least tu))), (0, .ref xb), (1, .ref (a 0)), (2, .ref h), (3, .ref q22), (4, .int (nI i)), (5, .int v5), (6, .int (nI n)), (7, .int (nI w)), (11, .int (nI bb)), (14, .int (x14 + 0)), (15, .int (nI u)), (16, .int (nI tu)), (17, .int 0), (18, .int (nI t2))]) hx hb dL_law_667 hl (by decide) rfl (fun ls hl => ?_)
                                      refine lv_iinc (v := nI (u + 1)) (lv' := [(15, .int (nI (u + 1))), (13, .int (nI (max most tu))), (12, .int (nI (min least tu))), (0, .ref xb), (1, .ref (a 0)), (2, .ref h), (3, .ref q22), (4, .int (nI i)), (5, .int v5), (6, .int (nI n)), (7, .int (nI w)), (11, .int (nI bb)), (14, .int (x14 + 0)), (16, .int (nI tu)), (17, .int 0), (18, .int (nI t2))]) hx hb dL_law_669 hl (k := 12) rfl (nI_1 _) (by decide) rfl (fun ls hl => ?_)
                                      refine lv_goto (tgt := 450) hx hb dL_law_672 (by decide) ?_
                                      exact ih450 (u + 1) (min least tu) (max most tu) (x14 + 0) (by omega) (by omega) (MM_add hMM c_640 hsh etu ht1 (by omega)) (shk_0 hsh ex14) _ _ hP hD hS  _ (lv_sub hl [3, 4, 5, 6, 7, 8, 9, 10, 11, 2, 1, 12, 0] rfl)
                                    · exact absurd rfl c_645
                                · have nc_590 : t2 < w := nn_nle (by omega) c_590
                                  refine lv_iload hx hb dL_law_593 (lv_at hl 14 rfl) ?_
                                  refine lv_if_ne (tgt := 628) hx hb dL_law_595 (by decide) (fun c_595 => ?_) (fun c_595 => ?_)
                                  · exact absurd rfl c_595
                                  · refine lv_aload_n hx hb dL_law_598 rfl (lv_at hl 1 rfl) ?_
                                    refine lv_iload hx hb dL_law_599 (lv_at hl 15 rfl) ?_
                                    refine kx_X0_nerveOf hC mM_L_132 hK hP hl.1 ⟨Nat.le_of_ble_eq_true rfl, Nat.le_of_ble_eq_true rfl⟩ ⟨(by show _ ≤ 600172; omega), (by show _ ≤ 7300668; omega)⟩ (Nat.le_of_ble_eq_true rfl) rfl (by first | assumption | omega) (by first | assumption | omega) dL_law_601 ?_
                                    refine lv_aload_n hx hb dL_law_604 rfl (lv_at hl 1 rfl) ?_
                                    refine lv_iload hx hb dL_law_605 (lv_at hl 12 rfl) ?_
                                    refine kx_X0_nerveOf hC mM_L_132 hK hP hl.1 ⟨Nat.le_of_ble_eq_true rfl, Nat.le_of_ble_eq_true rfl⟩ ⟨(by show _ ≤ 600172; omega), (by show _ ≤ 7300668; omega)⟩ (Nat.le_of_ble_eq_true rfl) rfl (by first | assumption | omega) (by first | assumption | omega) dL_law_607 ?_
                                    refine lv_icmp_lt (tgt := 628) hx hb dL_law_610 (by decide) (fun c_610 => ?_) (fun c_610 => ?_)
                                    · refine lv_iinc (v := nI (t2 + 1)) (lv' := [(18, .int (nI (t2 + 1))), (0, .ref xb), (1, .ref (a 0)), (2, .ref h), (3, .ref q22), (4, .int (nI i)), (5, .int v5), (6, .int (nI n)), (7, .int (nI w)), (11, .int (nI bb)), (12, .int (nI least)), (13, .int (nI most)), (14, .int (x14 + 0)), (15, .int (nI u)), (16, .int (nI tu)), (17, .int 0)]) hx hb dL_law_628 hl (k := 15) rfl (nI_1 _) (by decide) rfl (fun ls hl => ?_)
                                      refine lv_goto (tgt := 586) hx hb dL_law_631 (by decide) ?_
                                      exact ih586 (t2 + 1) (by omega) (by omega) _ _ hP hD hS  _ (lv_sub hl [1, 2, 3, 4, 5, 6, 7, 8, 9, 10, 11, 12, 13, 14, 15, 0] rfl)
                                    · refine lv_aload_n hx hb dL_law_613 rfl (lv_at hl 1 rfl) ?_
                                      refine lv_iload hx hb dL_law_614 (lv_at hl 15 rfl) ?_
                                      refine lv_iload hx hb dL_law_616 (lv_at hl 8 rfl) ?_
                                      refine kx_X0_wouldTell hC mM_L_129 hK hP hl.1 ⟨Nat.le_of_ble_eq_true rfl, Nat.le_of_ble_eq_true rfl⟩ ⟨(by show _ ≤ 600172; omega), (by show _ ≤ 7300668; omega)⟩ (Nat.le_of_ble_eq_true rfl) rfl (by first | assumption | omega) (by first | assumption | omega) (nle1 (by omega) (by omega)) (le_c (by omega) (by decide)) dL_law_618 ?_
                                      refine lv_iload hx hb dL_law_621 (lv_at hl 13 rfl) ?_
                                      refine lv_icmp_ge (tgt := 628) hx hb dL_law_623 (by decide) (fun c_623 => ?_) (fun c_623 => ?_)
                                      · refine lv_iinc (v := nI (t2 + 1)) (lv' := [(18, .int (nI (t2 + 1))), (0, .ref xb), (1, .ref (a 0)), (2, .ref h), (3, .ref q22), (4, .int (nI i)), (5, .int v5), (6, .int (nI n)), (7, .int (nI w)), (11, .int (nI bb)), (12, .int (nI least)), (13, .int (nI most)), (14, .int (x14 + 0)), (15, .int (nI u)), (16, .int (nI tu)), (17, .int 0)]) hx hb dL_law_628 hl (k := 15) rfl (nI_1 _) (by decide) rfl (fun ls hl => ?_)
                                        refine lv_goto (tgt := 586) hx hb dL_law_631 (by decide) ?_
                                        exact ih586 (t2 + 1) (by omega) (by omega) _ _ hP hD hS  _ (lv_sub hl [1, 2, 3, 4, 5, 6, 7, 8, 9, 10, 11, 12, 13, 14, 15, 0] rfl)
                                      · exact absurd (by obtain ⟨y2, hy2, ey2⟩ := hnv t2 nc_590; rw [← etu]; exact tell_mono eyu ey2 hyu hy2 hb1 hb2 c_474 c_610) c_623
                            exact loop_586 (w + 1) 0 (Nat.zero_le _) (by omega) _ _ hP hD hS  _ (lv_sub hl [4, 5, 6, 7, 8, 9, 10, 11, 12, 13, 14, 1, 15, 3, 2, 0] rfl)
                          · obtain ⟨ys, hys, eys, hms⟩ := steady_le hnv nc_454 c_561
                            refine lv_aload_n hx hb dL_law_564 rfl (lv_at hl 4 rfl) ?_
                            refine lv_iload hx hb dL_law_565 (lv_at hl 14 rfl) ?_
                            refine kx_X0_nerveOf hC mM_L_132 hK hP hl.1 ⟨Nat.le_of_ble_eq_true rfl, Nat.le_of_ble_eq_true rfl⟩ ⟨(by show _ ≤ 600172; omega), (by show _ ≤ 7300668; omega)⟩ (Nat.le_of_ble_eq_true rfl) rfl (by first | assumption | omega) (by first | assumption | omega) dL_law_567 ?_
                            refine lv_aload_n hx hb dL_law_570 rfl (lv_at hl 4 rfl) ?_
                            refine lv_aload_n hx hb dL_law_571 rfl (lv_at hl 4 rfl) ?_
                            refine kx_X0_steadiest hC mM_L_138 hK hP hl.1 ⟨Nat.le_of_ble_eq_true rfl, Nat.le_of_ble_eq_true rfl⟩ ⟨(by show _ ≤ 600172; omega), (by show _ ≤ 7300668; omega)⟩ (Nat.le_of_ble_eq_true rfl)  (by first | assumption | omega) dL_law_572 ?_
                            refine kx_X0_nerveOf hC mM_L_132 hK hP hl.1 ⟨Nat.le_of_ble_eq_true rfl, Nat.le_of_ble_eq_true rfl⟩ ⟨(by show _ ≤ 600172; omega), (by show _ ≤ 7300668; omega)⟩ (Nat.le_of_ble_eq_true rfl) eys (by first | assumption | omega) (by first | assumption | omega) dL_law_575 ?_
                            refine lv_icmp_le (tgt := 583) hx hb dL_law_578 (by decide) (fun c_578 => ?_) (fun c_578 => ?_)
                            · refine lv_iconst (v := 0) hx hb dL_law_583 (by decide) ?_
                              refine lv_istore (lv' := [(18, .int 0), (14, .int (x14 + 0)), (17, .int 0), (16, .int (nI tu)), (0, .ref xb), (1, .ref (a 0)), (2, .ref h), (3, .ref q22), (4, .int (nI i)), (5, .int v5), (6, .int (nI n)), (7, .int (nI w)), (11, .int (nI bb)), (12, .int (nI least)), (13, .int (nI most)), (15, .int (nI u))]) hx hb dL_law_584 hl (by decide) rfl (fun ls hl => ?_)
                              have loop_586 : ∀ (f : Nat) (t2 : Nat), t2 ≤ w → w + 1 ≤ t2 + f → ∀ (H : Heap) (locs : List Loc), va_P D vwCl (((q22, .inl (z.2, 10, .inl g)) :: []) ++ (qW z cG b rp rw rm lv lk pu fa he n nv du w mp mi k nt fu re ++ xW z a lv lk pu fa he n nv du ta w mp mi k nt fu re)) H → va_D A (((q22, .inl (z.2, 10, .inl g)) :: []) ++ (qW z cG b rp rw rm lv lk pu fa he n nv du w mp mi k nt fu re ++ xW z a lv lk pu fa he n nv du ta w mp mi k nt fu re)) → va_S A s.heap H locs → ∀ ls : Array Slot, lv_has ls 19 [(0, .ref xb), (1, .ref (a 0)), (2, .ref h), (3, .ref q22), (4, .int (nI i)), (5, .int v5), (6, .int (nI n)), (7, .int (nI w)), (11, .int (nI bb)), (12, .int (nI least)), (13, .int (nI most)), (14, .int (x14 + 0)), (15, .int (nI u)), (16, .int (nI tu)), (17, .int 0), (18, .int (nI t2))] → W p l e room_1 s m #[.ref xb] below meth c H locs (cells) (slots) Q (F0 m 586 ls []) := by
                                intro f
                                induction f with
                                | zero =>
                                  intro t2 ht2 hf
                                  exact absurd hf (by omega)
                                | succ f ih586 =>
                                  intro t2 ht2 hf H locs hP hD hS ls hl
                                  refine lv_iload hx hb dL_law_586 (lv_at hl 15 rfl) ?_
                                  refine lv_iload hx hb dL_law_588 (lv_at hl 7 rfl) ?_
                                  refine lv_icmp_ge (tgt := 634) hx hb dL_law_590 (by decide) (fun c_590 => ?_) (fun c_590 => ?_)
                                  · have nc_590 : w ≤ t2 := nn_le (by omega) c_590
                                    refine lv_aload_n hx hb dL_law_634 rfl (lv_at hl 1 rfl) ?_
                                    refine lv_iload hx hb dL_law_635 (lv_at hl 12 rfl) ?_
                                    refine kx_X0_isOnDuty hC mM_L_135 hK hP hl.1 ⟨Nat.le_of_ble_eq_true rfl, Nat.le_of_ble_eq_true rfl⟩ ⟨(by show _ ≤ 600172; omega), (by show _ ≤ 7300668; omega)⟩ (Nat.le_of_ble_eq_true rfl) rfl (by first | assumption | omega) (by first | assumption | omega) (hdu u (by omega)) dL_law_637 ?_
                                    refine lv_if_eq (tgt := 669) hx hb dL_law_640 (by decide) (fun c_640 => ?_) (fun c_640 => ?_)
                                    · refine lv_iinc (v := nI (u + 1)) (lv' := [(15, .int (nI (u + 1))), (0, .ref xb), (1, .ref (a 0)), (2, .ref h), (3, .ref q22), (4, .int (nI i)), (5, .int v5), (6, .int (nI n)), (7, .int (nI w)), (11, .int (nI bb)), (12, .int (nI least)), (13, .int (nI most)), (14, .int (x14 + 0)), (16, .int (nI tu)), (17, .int 0), (18, .int (nI t2))]) hx hb dL_law_669 hl (k := 12) rfl (nI_1 _) (by decide) rfl (fun ls hl => ?_)
                                      refine lv_goto (tgt := 450) hx hb dL_law_672 (by decide) ?_
                                      exact ih450 (u + 1) least most (x14 + 0) (by omega) (by omega) (MM_skip hMM (Or.inl c_640)) (shk_0 hsh ex14) _ _ hP hD hS  _ (lv_sub hl [1, 2, 3, 4, 5, 6, 7, 8, 9, 10, 11, 12, 0] rfl)
                                    · refine lv_iload hx hb dL_law_643 (lv_at hl 14 rfl) ?_
                                      refine lv_if_eq (tgt := 651) hx hb dL_law_645 (by decide) (fun c_645 => ?_) (fun c_645 => ?_)
                                      · refine lv_iload hx hb dL_law_651 (lv_at hl 9 rfl) ?_
                                        refine lv_iload hx hb dL_law_653 (lv_at hl 13 rfl) ?_
                                        refine va_mmin hx hb (hml.trans hl.1.symm) hown (hts _ mM_L_141) (hts _ mT_min) (hts _ mI_Math) (hts _ mC_min) (Nat.le_of_ble_eq_true rfl) (Nat.le_of_ble_eq_true rfl) (by show _ ≤ 600172; omega) (by show _ ≤ 7300668; omega) dL_law_655 ?_
                                        rw [show (if nI tu < nI least then nI tu else nI least : Int32) = nI (min least tu) from (im_n (by omega) (by omega))]
                                        refine lv_istore (lv' := [(12, .int (nI (min least tu))), (0, .ref xb), (1, .ref (a 0)), (2, .ref h), (3, .ref q22), (4, .int (nI i)), (5, .int v5), (6, .int (nI n)), (7, .int (nI w)), (11, .int (nI bb)), (13, .int (nI most)), (14, .int (x14 + 0)), (15, .int (nI u)), (16, .int (nI tu)), (17, .int 0), (18, .int (nI t2))]) hx hb dL_law_658 hl (by decide) rfl (fun ls hl => ?_)
                                        refine lv_iload hx hb dL_law_660 (lv_at hl 10 rfl) ?_
                                        refine lv_iload hx hb dL_law_662 (lv_at hl 13 rfl) ?_
                                        refine va_mmax hx hb (hml.trans hl.1.symm) hown (hts _ mM_L_146) (hts _ mT_max) (hts _ mI_Math) (hts _ mC_max) (Nat.le_of_ble_eq_true rfl) (Nat.le_of_ble_eq_true rfl) (by show _ ≤ 600172; omega) (by show _ ≤ 7300668; omega) dL_law_664 ?_
                                        rw [show (if nI most < nI tu then nI tu else nI most : Int32) = nI (max most tu) from (ix_n (by omega) (by omega))]
                                        refine lv_istore (lv' := [(13, .int (nI (max most tu))), (12, .int (nI (min least tu))), (0, .ref xb), (1, .ref (a 0)), (2, .ref h), (3, .ref q22), (4, .int (nI i)), (5, .int v5), (6, .int (nI n)), (7, .int (nI w)), (11, .int (nI bb)), (14, .int (x14 + 0)), (15, .int (nI u)), (16, .int (nI tu)), (17, .int 0), (18, .int (nI t2))]) hx hb dL_law_667 hl (by decide) rfl (fun ls hl => ?_)
                                        refine lv_iinc (v := nI (u + 1)) (lv' := [(15, .int (nI (u + 1))), (13, .int (nI (max most tu))), (12, .int (nI (min least tu))), (0, .ref xb), (1, .ref (a 0)), (2, .ref h), (3, .ref q22), (4, .int (nI i)), (5, .int v5), (6, .int (nI n)), (7, .int (nI w)), (11, .int (nI bb)), (14, .int (x14 + 0)), (16, .int (nI tu)), (17, .int 0), (18, .int (nI t2))]) hx hb dL_law_669 hl (k := 12) rfl (nI_1 _) (by decide) rfl (fun ls hl => ?_)
                                        refine lv_goto (tgt := 450) hx hb dL_law_672 (by decide) ?_
                                        exact ih450 (u + 1) (min least tu) (max most tu) (x14 + 0) (by omega) (by omega) (MM_add hMM c_640 hsh etu ht1 (by omega)) (shk_0 hsh ex14) _ _ hP hD hS  _ (lv_sub hl [3, 4, 5, 6, 7, 8, 9, 10, 11, 2, 1, 12, 0] rfl)
                                      · exact absurd rfl c_645
                                  · have nc_590 : t2 < w := nn_nle (by omega) c_590
                                    refine lv_iload hx hb dL_law_593 (lv_at hl 14 rfl) ?_
                                    refine lv_if_ne (tgt := 628) hx hb dL_law_595 (by decide) (fun c_595 => ?_) (fun c_595 => ?_)
                                    · exact absurd rfl c_595
                                    · refine lv_aload_n hx hb dL_law_598 rfl (lv_at hl 1 rfl) ?_
                                      refine lv_iload hx hb dL_law_599 (lv_at hl 15 rfl) ?_
                                      refine kx_X0_nerveOf hC mM_L_132 hK hP hl.1 ⟨Nat.le_of_ble_eq_true rfl, Nat.le_of_ble_eq_true rfl⟩ ⟨(by show _ ≤ 600172; omega), (by show _ ≤ 7300668; omega)⟩ (Nat.le_of_ble_eq_true rfl) rfl (by first | assumption | omega) (by first | assumption | omega) dL_law_601 ?_
                                      refine lv_aload_n hx hb dL_law_604 rfl (lv_at hl 1 rfl) ?_
                                      refine lv_iload hx hb dL_law_605 (lv_at hl 12 rfl) ?_
                                      refine kx_X0_nerveOf hC mM_L_132 hK hP hl.1 ⟨Nat.le_of_ble_eq_true rfl, Nat.le_of_ble_eq_true rfl⟩ ⟨(by show _ ≤ 600172; omega), (by show _ ≤ 7300668; omega)⟩ (Nat.le_of_ble_eq_true rfl) rfl (by first | assumption | omega) (by first | assumption | omega) dL_law_607 ?_
                                      refine lv_icmp_lt (tgt := 628) hx hb dL_law_610 (by decide) (fun c_610 => ?_) (fun c_610 => ?_)
                                      · refine lv_iinc (v := nI (t2 + 1)) (lv' := [(18, .int (nI (t2 + 1))), (0, .ref xb), (1, .ref (a 0)), (2, .ref h), (3, .ref q22), (4, .int (nI i)), (5, .int v5), (6, .int (nI n)), (7, .int (nI w)), (11, .int (nI bb)), (12, .int (nI least)), (13, .int (nI most)), (14, .int (x14 + 0)), (15, .int (nI u)), (16, .int (nI tu)), (17, .int 0)]) hx hb dL_law_628 hl (k := 15) rfl (nI_1 _) (by decide) rfl (fun ls hl => ?_)
                                        refine lv_goto (tgt := 586) hx hb dL_law_631 (by decide) ?_
                                        exact ih586 (t2 + 1) (by omega) (by omega) _ _ hP hD hS  _ (lv_sub hl [1, 2, 3, 4, 5, 6, 7, 8, 9, 10, 11, 12, 13, 14, 15, 0] rfl)
                                      · refine lv_aload_n hx hb dL_law_613 rfl (lv_at hl 1 rfl) ?_
                                        refine lv_iload hx hb dL_law_614 (lv_at hl 15 rfl) ?_
                                        refine lv_iload hx hb dL_law_616 (lv_at hl 8 rfl) ?_
                                        refine kx_X0_wouldTell hC mM_L_129 hK hP hl.1 ⟨Nat.le_of_ble_eq_true rfl, Nat.le_of_ble_eq_true rfl⟩ ⟨(by show _ ≤ 600172; omega), (by show _ ≤ 7300668; omega)⟩ (Nat.le_of_ble_eq_true rfl) rfl (by first | assumption | omega) (by first | assumption | omega) (nle1 (by omega) (by omega)) (le_c (by omega) (by decide)) dL_law_618 ?_
                                        refine lv_iload hx hb dL_law_621 (lv_at hl 13 rfl) ?_
                                        refine lv_icmp_ge (tgt := 628) hx hb dL_law_623 (by decide) (fun c_623 => ?_) (fun c_623 => ?_)
                                        · refine lv_iinc (v := nI (t2 + 1)) (lv' := [(18, .int (nI (t2 + 1))), (0, .ref xb), (1, .ref (a 0)), (2, .ref h), (3, .ref q22), (4, .int (nI i)), (5, .int v5), (6, .int (nI n)), (7, .int (nI w)), (11, .int (nI bb)), (12, .int (nI least)), (13, .int (nI most)), (14, .int (x14 + 0)), (15, .int (nI u)), (16, .int (nI tu)), (17, .int 0)]) hx hb dL_law_628 hl (k := 15) rfl (nI_1 _) (by decide) rfl (fun ls hl => ?_)
                                          refine lv_goto (tgt := 586) hx hb dL_law_631 (by decide) ?_
                                          exact ih586 (t2 + 1) (by omega) (by omega) _ _ hP hD hS  _ (lv_sub hl [1, 2, 3, 4, 5, 6, 7, 8, 9, 10, 11, 12, 13, 14, 15, 0] rfl)
                                        · exact absurd (by obtain ⟨y2, hy2, ey2⟩ := hnv t2 nc_590; rw [← etu]; exact tell_mono eyu ey2 hyu hy2 hb1 hb2 c_474 c_610) c_623
                              exact loop_586 (w + 1) 0 (Nat.zero_le _) (by omega) _ _ hP hD hS  _ (lv_sub hl [4, 5, 6, 7, 8, 9, 10, 11, 12, 13, 14, 1, 15, 3, 2, 0] rfl)
                            · exact absurd hms c_578
                · exact absurd (nn_eq (a := tu) (b := 0) (by omega) c_521) (by omega)
          · exact absurd rfl c_488
        · obtain ⟨hsh, ht0⟩ : ¬ sp_sh (nv u) = 0 ∧ tu = 0 := by
            rcases htc with ⟨q0, -⟩ | ⟨-, q1, q2⟩
            · exact absurd q0 c_474
            · exact ⟨q1, q2⟩
          refine lv_iconst (v := 1) hx hb dL_law_477 (by decide) ?_
          refine lv_goto (tgt := 482) hx hb dL_law_478 (by decide) ?_
          refine lv_istore (lv' := [(17, .int 1), (16, .int (nI tu)), (0, .ref xb), (1, .ref (a 0)), (2, .ref h), (3, .ref q22), (4, .int (nI i)), (5, .int v5), (6, .int (nI n)), (7, .int (nI w)), (11, .int (nI bb)), (12, .int (nI least)), (13, .int (nI most)), (14, .int x14), (15, .int (nI u))]) hx hb dL_law_482 hl (by decide) rfl (fun ls hl => ?_)
          refine lv_iload hx hb dL_law_484 (lv_at hl 13 rfl) ?_
          refine lv_iload hx hb dL_law_486 (lv_at hl 0 rfl) ?_
          refine lv_if_eq (tgt := 495) hx hb dL_law_488 (by decide) (fun c_488 => ?_) (fun c_488 => ?_)
          · exact absurd c_488 one_ne
          · refine lv_iconst (v := 1) hx hb dL_law_491 (by decide) ?_
            refine lv_goto (tgt := 496) hx hb dL_law_492 (by decide) ?_
            refine lv_iadd hx hb dL_law_496 ?_
            refine lv_istore (lv' := [(14, .int (x14 + 1)), (17, .int 1), (16, .int (nI tu)), (0, .ref xb), (1, .ref (a 0)), (2, .ref h), (3, .ref q22), (4, .int (nI i)), (5, .int v5), (6, .int (nI n)), (7, .int (nI w)), (11, .int (nI bb)), (12, .int (nI least)), (13, .int (nI most)), (15, .int (nI u))]) hx hb dL_law_497 hl (by decide) rfl (fun ls hl => ?_)
            refine lv_aload_n hx hb dL_law_499 rfl (lv_at hl 4 rfl) ?_
            refine lv_iload hx hb dL_law_500 (lv_at hl 14 rfl) ?_
            refine kx_X0_nerveOf hC mM_L_132 hK hP hl.1 ⟨Nat.le_of_ble_eq_true rfl, Nat.le_of_ble_eq_true rfl⟩ ⟨(by show _ ≤ 600172; omega), (by show _ ≤ 7300668; omega)⟩ (Nat.le_of_ble_eq_true rfl) rfl (by first | assumption | omega) (by first | assumption | omega) dL_law_502 ?_
            refine lv_if_lt (tgt := 581) hx hb dL_law_505 (by decide) (fun c_505 => ?_) (fun c_505 => ?_)
            · exact absurd c_505 (by rw [eyu]; exact nI_pos (by omega))
            · refine lv_aload_n hx hb dL_law_508 rfl (lv_at hl 4 rfl) ?_
              refine lv_iload hx hb dL_law_509 (lv_at hl 14 rfl) ?_
              refine kx_X0_nerveOf hC mM_L_132 hK hP hl.1 ⟨Nat.le_of_ble_eq_true rfl, Nat.le_of_ble_eq_true rfl⟩ ⟨(by show _ ≤ 600172; omega), (by show _ ≤ 7300668; omega)⟩ (Nat.le_of_ble_eq_true rfl) rfl (by first | assumption | omega) (by first | assumption | omega) dL_law_511 ?_
              refine lv_bipush (v := 9) hx hb dL_law_514 (by decide) ?_
              refine lv_icmp_gt (tgt := 581) hx hb dL_law_516 (by decide) (fun c_516 => ?_) (fun c_516 => ?_)
              · exact absurd c_516 (by rw [eyu]; exact nI_nlt (a := 9) (b := yu) (by omega) (by omega))
              · refine lv_iload hx hb dL_law_519 (lv_at hl 2 rfl) ?_
                refine lv_if_ne (tgt := 528) hx hb dL_law_521 (by decide) (fun c_521 => ?_) (fun c_521 => ?_)
                · exact absurd (by rw [ht0]; rfl) c_521
                · have nc_521 : tu = 0 := nn_eq (by omega) c_521
                  refine lv_iconst (v := 1) hx hb dL_law_524 (by decide) ?_
                  refine lv_goto (tgt := 529) hx hb dL_law_525 (by decide) ?_
                  refine lv_iload hx hb dL_law_529 (lv_at hl 1 rfl) ?_
                  refine lv_icmp_ne (tgt := 581) hx hb dL_law_531 (by decide) (fun c_531 => ?_) (fun c_531 => ?_)
                  · exact absurd rfl c_531
                  · refine lv_iload hx hb dL_law_534 (lv_at hl 2 rfl) ?_
                    refine lv_iload hx hb dL_law_536 (lv_at hl 11 rfl) ?_
                    refine lv_icmp_gt (tgt := 581) hx hb dL_law_538 (by decide) (fun c_538 => ?_) (fun c_538 => ?_)
                    · exact absurd (nn_lt (by omega) c_538) (by omega)
                    · have nc_538 : tu ≤ bb := nn_nlt (by omega) c_538
                      refine lv_iload hx hb dL_law_541 (lv_at hl 1 rfl) ?_
                      refine lv_if_ne (tgt := 555) hx hb dL_law_543 (by decide) (fun c_543 => ?_) (fun c_543 => ?_)
                      · refine lv_aload_n hx hb dL_law_555 rfl (lv_at hl 4 rfl) ?_
                        refine lv_iload hx hb dL_law_556 (lv_at hl 14 rfl) ?_
                        refine kx_X0_isOnDuty hC mM_L_135 hK hP hl.1 ⟨Nat.le_of_ble_eq_true rfl, Nat.le_of_ble_eq_true rfl⟩ ⟨(by show _ ≤ 600172; omega), (by show _ ≤ 7300668; omega)⟩ (Nat.le_of_ble_eq_true rfl) rfl (by first | assumption | omega) (by first | assumption | omega) (hdu u (by omega)) dL_law_558 ?_
                        refine lv_if_eq (tgt := 583) hx hb dL_law_561 (by decide) (fun c_561 => ?_) (fun c_561 => ?_)
                        · refine lv_iconst (v := 0) hx hb dL_law_583 (by decide) ?_
                          refine lv_istore (lv' := [(18, .int 0), (14, .int (x14 + 1)), (17, .int 1), (16, .int (nI tu)), (0, .ref xb), (1, .ref (a 0)), (2, .ref h), (3, .ref q22), (4, .int (nI i)), (5, .int v5), (6, .int (nI n)), (7, .int (nI w)), (11, .int (nI bb)), (12, .int (nI least)), (13, .int (nI most)), (15, .int (nI u))]) hx hb dL_law_584 hl (by decide) rfl (fun ls hl => ?_)
                          have loop_586 : ∀ (f : Nat) (t2 : Nat), t2 ≤ w → w + 1 ≤ t2 + f → ∀ (H : Heap) (locs : List Loc), va_P D vwCl (((q22, .inl (z.2, 10, .inl g)) :: []) ++ (qW z cG b rp rw rm lv lk pu fa he n nv du w mp mi k nt fu re ++ xW z a lv lk pu fa he n nv du ta w mp mi k nt fu re)) H → va_D A (((q22, .inl (z.2, 10, .inl g)) :: []) ++ (qW z cG b rp rw rm lv lk pu fa he n nv du w mp mi k nt fu re ++ xW z a lv lk pu fa he n nv du ta w mp mi k nt fu re)) → va_S A s.heap H locs → ∀ ls : Array Slot, lv_has ls 19 [(0, .ref xb), (1, .ref (a 0)), (2, .ref h), (3, .ref q22), (4, .int (nI i)), (5, .int v5), (6, .int (nI n)), (7, .int (nI w)), (11, .int (nI bb)), (12, .int (nI least)), (13, .int (nI most)), (14, .int (x14 + 1)), (15, .int (nI u)), (16, .int (nI tu)), (17, .int 1), (18, .int (nI t2))] → W p l e room_1 s m #[.ref xb] below meth c H locs (cells) (slots) Q (F0 m 586 ls []) := by
                            intro f
                            induction f with
                            | zero =>
                              intro t2 ht2 hf
                              exact absurd hf (by omega)
                            | succ f ih586 =>
                              intro t2 ht2 hf H locs hP hD hS ls hl
                              refine lv_iload hx hb dL_law_586 (lv_at hl 15 rfl) ?_
                              refine lv_iload hx hb dL_law_588 (lv_at hl 7 rfl) ?_
                              refine lv_icmp_ge (tgt := 634) hx hb dL_law_590 (by decide) (fun c_590 => ?_) (fun c_590 => ?_)
                              · have nc_590 : w ≤ t2 := nn_le (by omega) c_590
                                refine lv_aload_n hx hb dL_law_634 rfl (lv_at hl 1 rfl) ?_
                                refine lv_iload hx hb dL_law_635 (lv_at hl 12 rfl) ?_
                                refine kx_X0_isOnDuty hC mM_L_135 hK hP hl.1 ⟨Nat.le_of_ble_eq_true rfl, Nat.le_of_ble_eq_true rfl⟩ ⟨(by show _ ≤ 600172; omega), (by show _ ≤ 7300668; omega)⟩ (Nat.le_of_ble_eq_true rfl) rfl (by first | assumption | omega) (by first | assumption | omega) (hdu u (by omega)) dL_law_637 ?_
                                refine lv_if_eq (tgt := 669) hx hb dL_law_640 (by decide) (fun c_640 => ?_) (fun c_640 => ?_)
                                · refine lv_iinc (v := nI (u + 1)) (lv' := [(15, .int (nI (u + 1))), (0, .ref xb), (1, .ref (a 0)), (2, .ref h), (3, .ref q22), (4, .int (nI i)), (5, .int v5), (6, .int (nI n)), (7, .int (nI w)), (11, .int (nI bb)), (12, .int (nI least)), (13, .int (nI most)), (14, .int (x14 + 1)), (16, .int (nI tu)), (17, .int 1), (18, .int (nI t2))]) hx hb dL_law_669 hl (k := 12) rfl (nI_1 _) (by decide) rfl (fun ls hl => ?_)
                                  refine lv_goto (tgt := 450) hx hb dL_law_672 (by decide) ?_
                                  exact ih450 (u + 1) least most (x14 + 1) (by omega) (by omega) (MM_skip hMM (Or.inr hsh)) (shk_1 hsh ex14) _ _ hP hD hS  _ (lv_sub hl [1, 2, 3, 4, 5, 6, 7, 8, 9, 10, 11, 12, 0] rfl)
                                · refine lv_iload hx hb dL_law_643 (lv_at hl 14 rfl) ?_
                                  refine lv_if_eq (tgt := 651) hx hb dL_law_645 (by decide) (fun c_645 => ?_) (fun c_645 => ?_)
                                  · exact absurd c_645 one_ne
                                  · refine lv_goto (tgt := 669) hx hb dL_law_648 (by decide) ?_
                                    refine lv_iinc (v := nI (u + 1)) (lv' := [(15, .int (nI (u + 1))), (0, .ref xb), (1, .ref (a 0)), (2, .ref h), (3, .ref q22), (4, .int (nI i)), (5, .int v5), (6, .int (nI n)), (7, .int (nI w)), (11, .int (nI bb)), (12, .int (nI least)), (13, .int (nI most)), (14, .int (x14 + 1)), (16, .int (nI tu)), (17, .int 1), (18, .int (nI t2))]) hx hb dL_law_669 hl (k := 12) rfl (nI_1 _) (by decide) rfl (fun ls hl => ?_)
                                    refine lv_goto (tgt := 450) hx hb dL_law_672 (by decide) ?_
                                    exact ih450 (u + 1) least most (x14 + 1) (by omega) (by omega) (MM_skip hMM (Or.inr hsh)) (shk_1 hsh ex14) _ _ hP hD hS  _ (lv_sub hl [1, 2, 3, 4, 5, 6, 7, 8, 9, 10, 11, 12, 0] rfl)
                              · have nc_590 : t2 < w := nn_nle (by omega) c_590
                                refine lv_iload hx hb dL_law_593 (lv_at hl 14 rfl) ?_
                                refine lv_if_ne (tgt := 628) hx hb dL_law_595 (by decide) (fun c_595 => ?_) (fun c_595 => ?_)
                                · refine lv_iinc (v := nI (t2 + 1)) (lv' := [(18, .int (nI (t2 + 1))), (0, .ref xb), (1, .ref (a 0)), (2, .ref h), (3, .ref q22), (4, .int (nI i)), (5, .int v5), (6, .int (nI n)), (7, .int (nI w)), (11, .int (nI bb)), (12, .int (nI least)), (13, .int (nI most)), (14, .int (x14 + 1)), (15, .int (nI u)), (16, .int (nI tu)), (17, .int 1)]) hx hb dL_law_628 hl (k := 15) rfl (nI_1 _) (by decide) rfl (fun ls hl => ?_)
                                  refine lv_goto (tgt := 586) hx hb dL_law_631 (by decide) ?_
                                  exact ih586 (t2 + 1) (by omega) (by omega) _ _ hP hD hS  _ (lv_sub hl [1, 2, 3, 4, 5, 6, 7, 8, 9, 10, 11, 12, 13, 14, 15, 0] rfl)
                                · exact absurd c_595 one_ne
                          exact loop_586 (w + 1) 0 (Nat.zero_le _) (by omega) _ _ hP hD hS  _ (lv_sub hl [4, 5, 6, 7, 8, 9, 10, 11, 12, 13, 14, 1, 15, 3, 2, 0] rfl)
                        · obtain ⟨ys, hys, eys, hms⟩ := steady_le hnv nc_454 c_561
                          refine lv_aload_n hx hb dL_law_564 rfl (lv_at hl 4 rfl) ?_
                          refine lv_iload hx hb dL_law_565 (lv_at hl 14 rfl) ?_
                          refine kx_X0_nerveOf hC mM_L_132 hK hP hl.1 ⟨Nat.le_of_ble_eq_true rfl, Nat.le_of_ble_eq_true rfl⟩ ⟨(by show _ ≤ 600172; omega), (by show _ ≤ 7300668; omega)⟩ (Nat.le_of_ble_eq_true rfl) rfl (by first | assumption | omega) (by first | assumption | omega) dL_law_567 ?_
                          refine lv_aload_n hx hb dL_law_570 rfl (lv_at hl 4 rfl) ?_
                          refine lv_aload_n hx hb dL_law_571 rfl (lv_at hl 4 rfl) ?_
                          refine kx_X0_steadiest hC mM_L_138 hK hP hl.1 ⟨Nat.le_of_ble_eq_true rfl, Nat.le_of_ble_eq_true rfl⟩ ⟨(by show _ ≤ 600172; omega), (by show _ ≤ 7300668; omega)⟩ (Nat.le_of_ble_eq_true rfl)  (by first | assumption | omega) dL_law_572 ?_
                          refine kx_X0_nerveOf hC mM_L_132 hK hP hl.1 ⟨Nat.le_of_ble_eq_true rfl, Nat.le_of_ble_eq_true rfl⟩ ⟨(by show _ ≤ 600172; omega), (by show _ ≤ 7300668; omega)⟩ (Nat.le_of_ble_eq_true rfl) eys (by first | assumption | omega) (by first | assumption | omega) dL_law_575 ?_
                          refine lv_icmp_le (tgt := 583) hx hb dL_law_578 (by decide) (fun c_578 => ?_) (fun c_578 => ?_)
                          · refine lv_iconst (v := 0) hx hb dL_law_583 (by decide) ?_
                            refine lv_istore (lv' := [(18, .int 0), (14, .int (x14 + 1)), (17, .int 1), (16, .int (nI tu)), (0, .ref xb), (1, .ref (a 0)), (2, .ref h), (3, .ref q22), (4, .int (nI i)), (5, .int v5), (6, .int (nI n)), (7, .int (nI w)), (11, .int (nI bb)), (12, .int (nI least)), (13, .int (nI most)), (15, .int (nI u))]) hx hb dL_law_584 hl (by decide) rfl (fun ls hl => ?_)
                            have loop_586 : ∀ (f : Nat) (t2 : Nat), t2 ≤ w → w + 1 ≤ t2 + f → ∀ (H : Heap) (locs : List Loc), va_P D vwCl (((q22, .inl (z.2, 10, .inl g)) :: []) ++ (qW z cG b rp rw rm lv lk pu fa he n nv du w mp mi k nt fu re ++ xW z a lv lk pu fa he n nv du ta w mp mi k nt fu re)) H → va_D A (((q22, .inl (z.2, 10, .inl g)) :: []) ++ (qW z cG b rp rw rm lv lk pu fa he n nv du w mp mi k nt fu re ++ xW z a lv lk pu fa he n nv du ta w mp mi k nt fu re)) → va_S A s.heap H locs → ∀ ls : Array Slot, lv_has ls 19 [(0, .ref xb), (1, .ref (a 0)), (2, .ref h), (3, .ref q22), (4, .int (nI i)), (5, .int v5), (6, .int (nI n)), (7, .int (nI w)), (11, .int (nI bb)), (12, .int (nI least)), (13, .int (nI most)), (14, .int (x14 + 1)), (15, .int (nI u)), (16, .int (nI tu)), (17, .int 1), (18, .int (nI t2))] → W p l e room_1 s m #[.ref xb] below meth c H locs (cells) (slots) Q (F0 m 586 ls []) := by
                              intro f
                              induction f with
                              | zero =>
                                intro t2 ht2 hf
                                exact absurd hf (by omega)
                              | succ f ih586 =>
                                intro t2 ht2 hf H locs hP hD hS ls hl
                                refine lv_iload hx hb dL_law_586 (lv_at hl 15 rfl) ?_
                                refine lv_iload hx hb dL_law_588 (lv_at hl 7 rfl) ?_
                                refine lv_icmp_ge (tgt := 634) hx hb dL_law_590 (by decide) (fun c_590 => ?_) (fun c_590 => ?_)
                                · have nc_590 : w ≤ t2 := nn_le (by omega) c_590
                                  refine lv_aload_n hx hb dL_law_634 rfl (lv_at hl 1 rfl) ?_
                                  refine lv_iload hx hb dL_law_635 (lv_at hl 12 rfl) ?_
                                  refine kx_X0_isOnDuty hC mM_L_135 hK hP hl.1 ⟨Nat.le_of_ble_eq_true rfl, Nat.le_of_ble_eq_true rfl⟩ ⟨(by show _ ≤ 600172; omega), (by show _ ≤ 7300668; omega)⟩ (Nat.le_of_ble_eq_true rfl) rfl (by first | assumption | omega) (by first | assumption | omega) (hdu u (by omega)) dL_law_637 ?_
                                  refine lv_if_eq (tgt := 669) hx hb dL_law_640 (by decide) (fun c_640 => ?_) (fun c_640 => ?_)
                                  · refine lv_iinc (v := nI (u + 1)) (lv' := [(15, .int (nI (u + 1))), (0, .ref xb), (1, .ref (a 0)), (2, .ref h), (3, .ref q22), (4, .int (nI i)), (5, .int v5), (6, .int (nI n)), (7, .int (nI w)), (11, .int (nI bb)), (12, .int (nI least)), (13, .int (nI most)), (14, .int (x14 + 1)), (16, .int (nI tu)), (17, .int 1), (18, .int (nI t2))]) hx hb dL_law_669 hl (k := 12) rfl (nI_1 _) (by decide) rfl (fun ls hl => ?_)
                                    refine lv_goto (tgt := 450) hx hb dL_law_672 (by decide) ?_
                                    exact ih450 (u + 1) least most (x14 + 1) (by omega) (by omega) (MM_skip hMM (Or.inr hsh)) (shk_1 hsh ex14) _ _ hP hD hS  _ (lv_sub hl [1, 2, 3, 4, 5, 6, 7, 8, 9, 10, 11, 12, 0] rfl)
                                  · refine lv_iload hx hb dL_law_643 (lv_at hl 14 rfl) ?_
                                    refine lv_if_eq (tgt := 651) hx hb dL_law_645 (by decide) (fun c_645 => ?_) (fun c_645 => ?_)
                                    · exact absurd c_645 one_ne
                                    · refine lv_goto (tgt := 669) hx hb dL_law_648 (by decide) ?_
                                      refine lv_iinc (v := nI (u + 1)) (lv' := [(15, .int (nI (u + 1))), (0, .ref xb), (1, .ref (a 0)), (2, .ref h), (3, .ref q22), (4, .int (nI i)), (5, .int v5), (6, .int (nI n)), (7, .int (nI w)), (11, .int (nI bb)), (12, .int (nI least)), (13, .int (nI most)), (14, .int (x14 + 1)), (16, .int (nI tu)), (17, .int 1), (18, .int (nI t2))]) hx hb dL_law_669 hl (k := 12) rfl (nI_1 _) (by decide) rfl (fun ls hl => ?_)
                                      refine lv_goto (tgt := 450) hx hb dL_law_672 (by decide) ?_
                                      exact ih450 (u + 1) least most (x14 + 1) (by omega) (by omega) (MM_skip hMM (Or.inr hsh)) (shk_1 hsh ex14) _ _ hP hD hS  _ (lv_sub hl [1, 2, 3, 4, 5, 6, 7, 8, 9, 10, 11, 12, 0] rfl)
                                · have nc_590 : t2 < w := nn_nle (by omega) c_590
                                  refine lv_iload hx hb dL_law_593 (lv_at hl 14 rfl) ?_
                                  refine lv_if_ne (tgt := 628) hx hb dL_law_595 (by decide) (fun c_595 => ?_) (fun c_595 => ?_)
                                  · refine lv_iinc (v := nI (t2 + 1)) (lv' := [(18, .int (nI (t2 + 1))), (0, .ref xb), (1, .ref (a 0)), (2, .ref h), (3, .ref q22), (4, .int (nI i)), (5, .int v5), (6, .int (nI n)), (7, .int (nI w)), (11, .int (nI bb)), (12, .int (nI least)), (13, .int (nI most)), (14, .int (x14 + 1)), (15, .int (nI u)), (16, .int (nI tu)), (17, .int 1)]) hx hb dL_law_628 hl (k := 15) rfl (nI_1 _) (by decide) rfl (fun ls hl => ?_)
                                    refine lv_goto (tgt := 586) hx hb dL_law_631 (by decide) ?_
                                    exact ih586 (t2 + 1) (by omega) (by omega) _ _ hP hD hS  _ (lv_sub hl [1, 2, 3, 4, 5, 6, 7, 8, 9, 10, 11, 12, 13, 14, 15, 0] rfl)
                                  · exact absurd c_595 one_ne
                            exact loop_586 (w + 1) 0 (Nat.zero_le _) (by omega) _ _ hP hD hS  _ (lv_sub hl [4, 5, 6, 7, 8, 9, 10, 11, 12, 13, 14, 1, 15, 3, 2, 0] rfl)
                          · exact absurd hms c_578
                      · exact absurd c_543 one_ne
  exact loop_450 (w + 1) 0 99 0 0 (Nat.zero_le _) (by omega) MM_0 rfl _ _ hP hD hS  _ (lv_sub hl [5, 6, 7, 8, 9, 10, 11, 12, 4, 3, 2, 1, 0] rfl)

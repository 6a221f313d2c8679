set_option maxHeartbeats 8000000 in
set_option maxRecDepth 100000 in
theorem lt_3 {p : Program} {l : Launch} {e : Env} {s : State} {m : MethodId} {below : List Frame} {meth : Method} {c : Code} {H : Heap} {locs : List Loc} {cells slots : Nat} {Q : State → Prop} {ls : Array Slot} {xb : Nat} {D : va_G} {z : ClassId × ClassId} {cG : ClassId} {q9 t9 : Nat → Nat} {a : Nat → Nat} {h q22 : Nat} {A : Nat → Prop} {g : Nat → Int32} {i : Nat} {v5 : Int32} {b : Nat → Nat} {rp : Nat → Nat} {rw : Nat → Nat} {rm : Nat → Nat} {lv : Nat → Int32} {lk : Nat → Int32} {pu : Nat → Int32} {fa : Nat → Int32} {he : Nat → Int32} {n : Nat} {nv : Nat → Int32} {du : Nat → Int32} {w : Nat} {mp : Nat → Int32} {mi : Nat → Int32} {k : Nat} {nt : Int32} {fu : Int32} {re : Int32} {ta : Nat → Int32} (hC : CallFix p m c cL_law 19 s #[.ref xb] lw_all RL) (hK : kK D z s) (hE : cH q9 t9 A s s.heap) (hA : ∀ q : Nat, s.heap.size ≤ q → A q) (hIV : IV lv lk pu fa he n nv du w mp mi k fu re) (hP : va_P D vwCl (((q22, .inl (z.2, 10, .inl g)) :: []) ++ (qW z cG b rp rw rm lv lk pu fa he n nv du w mp mi k nt fu re ++ xW z a lv lk pu fa he n nv du ta w mp mi k nt fu re)) H) (hD : va_D A (((q22, .inl (z.2, 10, .inl g)) :: []) ++ (qW z cG b rp rw rm lv lk pu fa he n nv du w mp mi k nt fu re ++ xW z a lv lk pu fa he n nv du ta w mp mi k nt fu re))) (hS : va_S A s.heap H locs) (hcl : cells ≤ 3000) (hsl : slots ≤ 100000) (hl : lv_has ls 19 [(0, .ref xb), (1, .ref (a 0)), (2, .ref h), (3, .ref q22), (4, .int (nI i)), (5, .int v5), (6, .int (nI n))]) (kk : ∀ (H1 : Heap) (locs1 : List Loc) (ls1 : Array Slot), va_P D vwCl (((q22, .inl (z.2, 10, .inl g)) :: []) ++ (qW z cG b rp rw rm lv lk pu fa he n nv du w mp mi k nt fu re ++ xW z a lv lk pu fa he n nv du ta w mp mi k nt fu re)) H1 → va_D A (((q22, .inl (z.2, 10, .inl g)) :: []) ++ (qW z cG b rp rw rm lv lk pu fa he n nv du w mp mi k nt fu re ++ xW z a lv lk pu fa he n nv du ta w mp mi k nt fu re)) → va_S A s.heap H1 locs1 → lv_has ls1 19 [(0, .ref xb), (1, .ref (a 0)), (2, .ref h), (3, .ref q22), (4, .int (nI i)), (5, .int v5)] → W p l e room_1 s m #[.ref xb] below meth c H1 locs1 cells slots Q (F0 m 926 ls1 [])) : W p l e room_1 s m #[.ref xb] below meth c H locs cells slots Q (F0 m 775 ls []) := by
  have hx := hC.1
  have hb := hC.2.1
  have hml := hC.2.2.1
  have hown := hC.2.2.2.1
  have hts := hC.2.2.2.2
  obtain ⟨⟨hn, hw, hk6⟩, h01, hlk, hfa, hpu, hH, hdead, hnv, hdu, hmp, hmi, ⟨FF, hfu, hFF⟩, ⟨rr, hre, hrr⟩⟩ := id hIV
  refine lv_iconst (v := 0) hx hb dL_law_775 (by decide) ?_
  refine lv_istore (lv' := [(16, .int 0), (0, .ref xb), (1, .ref (a 0)), (2, .ref h), (3, .ref q22), (4, .int (nI i)), (5, .int v5), (6, .int (nI n))]) hx hb dL_law_776 hl (by decide) rfl (fun ls hl => ?_)
  refine lv_iconst (v := 0) hx hb dL_law_778 (by decide) ?_
  refine lv_istore (lv' := [(17, .int 0), (16, .int 0), (0, .ref xb), (1, .ref (a 0)), (2, .ref h), (3, .ref q22), (4, .int (nI i)), (5, .int v5), (6, .int (nI n))]) hx hb dL_law_779 hl (by decide) rfl (fun ls hl => ?_)
  have loop_781 : ∀ (f : Nat) (j : Nat) (x16 : Int32), j ≤ k → k + 1 ≤ j + f → x16 = sp_cert mi j → ∀ (H : Heap) (locs : List Loc), va_P D vwCl (((q22, .inl (z.2, 10, .inl g)) :: []) ++ (qW z cG b rp rw rm lv lk pu fa he n nv du w mp mi k nt fu re ++ xW z a lv lk pu fa he n nv du ta w mp mi k nt fu re)) H → va_D A (((q22, .inl (z.2, 10, .inl g)) :: []) ++ (qW z cG b rp rw rm lv lk pu fa he n nv du w mp mi k nt fu re ++ xW z a lv lk pu fa he n nv du ta w mp mi k nt fu re)) → va_S A s.heap H locs → ∀ ls : Array Slot, lv_has ls 19 [(0, .ref xb), (1, .ref (a 0)), (2, .ref h), (3, .ref q22), (4, .int (nI i)), (5, .int v5), (6, .int (nI n)), (16, .int x16), (17, .int (nI j))] → W p l e room_1 s m #[.ref xb] below meth c H locs (cells) (slots) Q (F0 m 781 ls []) := by
    intro f
    induction f with
    | zero =>
      intro j x16 hj hf ex16
      exact absurd hf (by omega)
    | succ f ih781 =>
      intro j x16 hj hf ex16 H locs hP hD hS ls hl
      refine lv_iload hx hb dL_law_781 (lv_at hl 8 rfl) ?_
      refine lv_aload_n hx hb dL_law_783 rfl (lv_at hl 1 rfl) ?_
      refine kx_X0_misses hC mM_L_121 hK hP hl.1 ⟨Nat.le_of_ble_eq_true rfl, Nat.le_of_ble_eq_true rfl⟩ ⟨(by show _ ≤ 600172; omega), (by show _ ≤ 7300668; omega)⟩ (Nat.le_of_ble_eq_true rfl)   dL_law_784 ?_
      refine lv_icmp_ge (tgt := 915) hx hb dL_law_787 (by decide) (fun c_787 => ?_) (fun c_787 => ?_)
      · have nc_787 : k ≤ j := nn_le (by omega) c_787
        have ejk : j = k := by omega
        rw [ejk] at ex16
        refine lv_iload hx hb dL_law_915 (lv_at hl 7 rfl) ?_
        refine lv_aload_n hx hb dL_law_917 rfl (lv_at hl 1 rfl) ?_
        refine kx_X0_certified hC mM_L_126 hK hP hl.1 ⟨Nat.le_of_ble_eq_true rfl, Nat.le_of_ble_eq_true rfl⟩ ⟨(by show _ ≤ 600172; omega), (by show _ ≤ 7300668; omega)⟩ (Nat.le_of_ble_eq_true rfl)  (by first | assumption | omega) dL_law_918 ?_
        refine lv_icmp_eq (tgt := 926) hx hb dL_law_921 (by decide) (fun c_921 => ?_) (fun c_921 => ?_)
        · exact kk _ _ _ hP hD hS (lv_sub hl [0, 1, 2, 3, 4, 5] rfl)
        · exact absurd ex16 c_921
      · have nc_787 : j < k := nn_nle (by omega) c_787
        obtain ⟨yp, hyp, eyp⟩ := hmp j nc_787
        obtain ⟨yi, hyi, eyi⟩ := hmi j nc_787
        refine lv_iload hx hb dL_law_790 (lv_at hl 7 rfl) ?_
        have tail_809 : ∀ (y16 : Int32), y16 = sp_cert mi (j + 1) → ∀ ls : Array Slot, lv_has ls 19 [(0, .ref xb), (1, .ref (a 0)), (2, .ref h), (3, .ref q22), (4, .int (nI i)), (5, .int v5), (6, .int (nI n)), (16, .int y16), (17, .int (nI j))] → W p l e room_1 s m #[.ref xb] below meth c H locs (cells) (slots) Q (F0 m 809 ls []) := by
          intro y16 hy16 ls hl
          refine lv_aload_n hx hb dL_law_809 rfl (lv_at hl 1 rfl) ?_
          refine lv_iload hx hb dL_law_810 (lv_at hl 8 rfl) ?_
          have tail_909 : ∀ ls : Array Slot, lv_has ls 19 [(0, .ref xb), (1, .ref (a 0)), (2, .ref h), (3, .ref q22), (4, .int (nI i)), (5, .int v5), (6, .int (nI n)), (16, .int y16), (17, .int (nI j))] → W p l e room_1 s m #[.ref xb] below meth c H locs (cells) (slots) Q (F0 m 909 ls []) := by
            intro ls hl
            refine lv_iinc (v := nI (j + 1)) (lv' := [(17, .int (nI (j + 1))), (0, .ref xb), (1, .ref (a 0)), (2, .ref h), (3, .ref q22), (4, .int (nI i)), (5, .int v5), (6, .int (nI n)), (16, .int y16)]) hx hb dL_law_909 hl (k := 8) rfl (nI_1 _) (by decide) rfl (fun ls hl => ?_)
            refine lv_goto (tgt := 781) hx hb dL_law_912 (by decide) ?_
            exact ih781 (j + 1) y16 (by omega) (by omega) hy16 _ _ hP hD hS  _ (lv_sub hl [1, 2, 3, 4, 5, 6, 7, 8, 0] rfl)
          refine kx_X0_inchesOf hC mM_L_161 hK hP hl.1 ⟨Nat.le_of_ble_eq_true rfl, Nat.le_of_ble_eq_true rfl⟩ ⟨(by show _ ≤ 600172; omega), (by show _ ≤ 7300668; omega)⟩ (Nat.le_of_ble_eq_true rfl) rfl (by first | assumption | omega) (by first | assumption | omega) dL_law_812 ?_
          refine lv_if_lt (tgt := 849) hx hb dL_law_815 (by decide) (fun c_815 => ?_) (fun c_815 => ?_)
          · exact absurd c_815 (by rw [eyi]; exact nI_pos (by omega))
          · refine lv_aload_n hx hb dL_law_818 rfl (lv_at hl 1 rfl) ?_
            refine lv_iload hx hb dL_law_819 (lv_at hl 8 rfl) ?_
            refine kx_X0_inchesOf hC mM_L_161 hK hP hl.1 ⟨Nat.le_of_ble_eq_true rfl, Nat.le_of_ble_eq_true rfl⟩ ⟨(by show _ ≤ 600172; omega), (by show _ ≤ 7300668; omega)⟩ (Nat.le_of_ble_eq_true rfl) rfl (by first | assumption | omega) (by first | assumption | omega) dL_law_821 ?_
            refine lv_bipush (v := 60) hx hb dL_law_824 (by decide) ?_
            refine lv_icmp_gt (tgt := 849) hx hb dL_law_826 (by decide) (fun c_826 => ?_) (fun c_826 => ?_)
            · exact absurd c_826 (by rw [eyi]; exact nI_nlt (a := 60) (b := yi) (by omega) (by omega))
            · refine lv_aload_n hx hb dL_law_829 rfl (lv_at hl 1 rfl) ?_
              refine lv_iload hx hb dL_law_830 (lv_at hl 8 rfl) ?_
              refine kx_X0_personOf hC mM_L_164 hK hP hl.1 ⟨Nat.le_of_ble_eq_true rfl, Nat.le_of_ble_eq_true rfl⟩ ⟨(by show _ ≤ 600172; omega), (by show _ ≤ 7300668; omega)⟩ (Nat.le_of_ble_eq_true rfl) rfl (by first | assumption | omega) (by first | assumption | omega) dL_law_832 ?_
              refine lv_if_lt (tgt := 849) hx hb dL_law_835 (by decide) (fun c_835 => ?_) (fun c_835 => ?_)
              · exact absurd c_835 (by rw [eyp]; exact nI_pos (by omega))
              · refine lv_aload_n hx hb dL_law_838 rfl (lv_at hl 1 rfl) ?_
                refine lv_iload hx hb dL_law_839 (lv_at hl 8 rfl) ?_
                refine kx_X0_personOf hC mM_L_164 hK hP hl.1 ⟨Nat.le_of_ble_eq_true rfl, Nat.le_of_ble_eq_true rfl⟩ ⟨(by show _ ≤ 600172; omega), (by show _ ≤ 7300668; omega)⟩ (Nat.le_of_ble_eq_true rfl) rfl (by first | assumption | omega) (by first | assumption | omega) dL_law_841 ?_
                refine lv_iload hx hb dL_law_844 (lv_at hl 6 rfl) ?_
                refine lv_icmp_lt (tgt := 851) hx hb dL_law_846 (by decide) (fun c_846 => ?_) (fun c_846 => ?_)
                · refine lv_iload hx hb dL_law_851 (lv_at hl 8 rfl) ?_
                  refine lv_if_le (tgt := 909) hx hb dL_law_853 (by decide) (fun c_853 => ?_) (fun c_853 => ?_)
                  · have nc_853 : j ≤ 0 := nn_le (by omega) c_853
                    exact tail_909 _ (lv_sub hl [0, 1, 2, 3, 4, 5, 6, 7, 8] rfl)
                  · have nc_853 : 0 < j := nn_nle (by omega) c_853
                    refine lv_aload_n hx hb dL_law_856 rfl (lv_at hl 1 rfl) ?_
                    refine lv_iload hx hb dL_law_857 (lv_at hl 8 rfl) ?_
                    refine kx_X0_inchesOf hC mM_L_161 hK hP hl.1 ⟨Nat.le_of_ble_eq_true rfl, Nat.le_of_ble_eq_true rfl⟩ ⟨(by show _ ≤ 600172; omega), (by show _ ≤ 7300668; omega)⟩ (Nat.le_of_ble_eq_true rfl) rfl (by first | assumption | omega) (by first | assumption | omega) dL_law_859 ?_
                    refine lv_aload_n hx hb dL_law_862 rfl (lv_at hl 1 rfl) ?_
                    refine lv_iload hx hb dL_law_863 (lv_at hl 8 rfl) ?_
                    refine lv_iconst (v := 1) hx hb dL_law_865 (by decide) ?_
                    refine lv_isub hx hb dL_law_866 ?_
                    refine kx_X0_inchesOf hC mM_L_161 hK hP hl.1 ⟨Nat.le_of_ble_eq_true rfl, Nat.le_of_ble_eq_true rfl⟩ ⟨(by show _ ≤ 600172; omega), (by show _ ≤ 7300668; omega)⟩ (Nat.le_of_ble_eq_true rfl) (ix_s1 nc_853) (by first | assumption | omega) (by first | assumption | omega) dL_law_867 ?_
                    refine lv_icmp_ne (tgt := 909) hx hb dL_law_870 (by decide) (fun c_870 => ?_) (fun c_870 => ?_)
                    · exact tail_909 _ (lv_sub hl [0, 1, 2, 3, 4, 5, 6, 7, 8] rfl)
                    · refine lv_aload_n hx hb dL_law_873 rfl (lv_at hl 1 rfl) ?_
                      refine lv_iload hx hb dL_law_874 (lv_at hl 8 rfl) ?_
                      refine kx_X0_personOf hC mM_L_164 hK hP hl.1 ⟨Nat.le_of_ble_eq_true rfl, Nat.le_of_ble_eq_true rfl⟩ ⟨(by show _ ≤ 600172; omega), (by show _ ≤ 7300668; omega)⟩ (Nat.le_of_ble_eq_true rfl) rfl (by first | assumption | omega) (by first | assumption | omega) dL_law_876 ?_
                      refine lv_aload_n hx hb dL_law_879 rfl (lv_at hl 1 rfl) ?_
                      refine lv_iload hx hb dL_law_880 (lv_at hl 8 rfl) ?_
                      refine lv_iconst (v := 1) hx hb dL_law_882 (by decide) ?_
                      refine lv_isub hx hb dL_law_883 ?_
                      refine kx_X0_personOf hC mM_L_164 hK hP hl.1 ⟨Nat.le_of_ble_eq_true rfl, Nat.le_of_ble_eq_true rfl⟩ ⟨(by show _ ≤ 600172; omega), (by show _ ≤ 7300668; omega)⟩ (Nat.le_of_ble_eq_true rfl) (ix_s1 nc_853) (by first | assumption | omega) (by first | assumption | omega) dL_law_884 ?_
                      refine lv_icmp_ne (tgt := 909) hx hb dL_law_887 (by decide) (fun c_887 => ?_) (fun c_887 => ?_)
                      · exact tail_909 _ (lv_sub hl [0, 1, 2, 3, 4, 5, 6, 7, 8] rfl)
                      · refine lv_aload_n hx hb dL_law_890 rfl (lv_at hl 1 rfl) ?_
                        refine lv_iload hx hb dL_law_891 (lv_at hl 8 rfl) ?_
                        refine kx_X0_sealOf hC mM_L_167 hK hP (hE.at hS) hl.1 ⟨Nat.le_of_ble_eq_true rfl, Nat.le_of_ble_eq_true rfl⟩ ⟨(by show _ ≤ 600172; omega), (by show _ ≤ 7300668; omega)⟩ (Nat.le_of_ble_eq_true rfl) rfl (by first | assumption | omega) (by first | assumption | omega) dL_law_893 ?_
                        refine lv_aload_n hx hb dL_law_896 rfl (lv_at hl 1 rfl) ?_
                        refine lv_iload hx hb dL_law_897 (lv_at hl 8 rfl) ?_
                        refine lv_iconst (v := 1) hx hb dL_law_899 (by decide) ?_
                        refine lv_isub hx hb dL_law_900 ?_
                        refine kx_X0_sealOf hC mM_L_167 hK hP (hE.at hS) hl.1 ⟨Nat.le_of_ble_eq_true rfl, Nat.le_of_ble_eq_true rfl⟩ ⟨(by show _ ≤ 600172; omega), (by show _ ≤ 7300668; omega)⟩ (Nat.le_of_ble_eq_true rfl) (ix_s1 nc_853) (by first | assumption | omega) (by first | assumption | omega) dL_law_901 ?_
                        refine lv_icmp_eq (tgt := 909) hx hb dL_law_904 (by decide) (fun c_904 => ?_) (fun c_904 => ?_)
                        · exact tail_909 _ (lv_sub hl [0, 1, 2, 3, 4, 5, 6, 7, 8] rfl)
                        · exact absurd (by rw [c_870, c_887]) c_904
                · exact absurd (by rw [eyp]; exact nI_lt (by omega) (by omega)) c_846
        refine lv_aload_n hx hb dL_law_792 rfl (lv_at hl 1 rfl) ?_
        refine lv_iload hx hb dL_law_793 (lv_at hl 8 rfl) ?_
        refine kx_X0_inchesOf hC mM_L_161 hK hP hl.1 ⟨Nat.le_of_ble_eq_true rfl, Nat.le_of_ble_eq_true rfl⟩ ⟨(by show _ ≤ 600172; omega), (by show _ ≤ 7300668; omega)⟩ (Nat.le_of_ble_eq_true rfl) rfl (by first | assumption | omega) (by first | assumption | omega) dL_law_795 ?_
        refine lv_if_le (tgt := 805) hx hb dL_law_798 (by decide) (fun c_798 => ?_) (fun c_798 => ?_)
        · refine lv_iconst (v := 0) hx hb dL_law_805 (by decide) ?_
          refine lv_iadd hx hb dL_law_806 ?_
          refine lv_istore (lv' := [(16, .int (x16 + 0)), (0, .ref xb), (1, .ref (a 0)), (2, .ref h), (3, .ref q22), (4, .int (nI i)), (5, .int v5), (6, .int (nI n)), (17, .int (nI j))]) hx hb dL_law_807 hl (by decide) rfl (fun ls hl => ?_)
          exact tail_809 (x16 + 0) (cert_0 c_798 ex16) _ (lv_sub hl [1, 2, 3, 4, 5, 6, 7, 0, 8] rfl)
        · refine lv_iconst (v := 1) hx hb dL_law_801 (by decide) ?_
          refine lv_goto (tgt := 806) hx hb dL_law_802 (by decide) ?_
          refine lv_iadd hx hb dL_law_806 ?_
          refine lv_istore (lv' := [(16, .int (x16 + 1)), (0, .ref xb), (1, .ref (a 0)), (2, .ref h), (3, .ref q22), (4, .int (nI i)), (5, .int v5), (6, .int (nI n)), (17, .int (nI j))]) hx hb dL_law_807 hl (by decide) rfl (fun ls hl => ?_)
          exact tail_809 (x16 + 1) (cert_1 c_798 ex16) _ (lv_sub hl [1, 2, 3, 4, 5, 6, 7, 0, 8] rfl)
  exact loop_781 (k + 1) 0 0 (Nat.zero_le _) (by omega) rfl _ _ hP hD hS  _ (lv_sub hl [2, 3, 4, 5, 6, 7, 8, 1, 0] rfl)

def sp_dper (lv lk pu fa he : Nat → Int32) (n : Nat) (mp mi : Nat → Int32) (k : Nat) (i : Nat) (d : Int64) : Int64 := sp_mix (sp_mix (sp_mix (sp_mix (sp_mix (sp_mix (sp_mix (sp_mix d (sp_bit (lv i)).toInt64) (lk i).toInt64) (pu i).toInt64) (fa i).toInt64) (he i).toInt64) (sp_heir he lv n i n (he i)).toInt64) (sp_many mp (nI i) k).toInt64) (sp_close mp mi (nI i) k).toInt64
def sp_dpers (lv lk pu fa he : Nat → Int32) (n : Nat) (mp mi : Nat → Int32) (k : Nat) (d : Int64) : Nat → Int64
  | 0 => d
  | j + 1 => sp_dper lv lk pu fa he n mp mi k j (sp_dpers lv lk pu fa he n mp mi k d j)
def sp_dwit (nv du : Nat → Int32) (d : Int64) : Nat → Int64
  | 0 => d
  | j + 1 => sp_mix (sp_mix (sp_dwit nv du d j) (nv j).toInt64) (sp_bit (du j)).toInt64
def sp_dlast (mp mi : Nat → Int32) (k : Nat) (d : Int64) : Int64 := if k = 0 then sp_mix (sp_mix d 0) 0 else sp_mix (sp_mix d (mi (k - 1)).toInt64) (sp_seal (mp (k - 1)) (mi (k - 1))).toInt64
def sp_dreg (lv lk : Nat → Int32) (n : Nat) (nv du ta : Nat → Int32) (w : Nat) (mi : Nat → Int32) (k : Nat) (nt fu re : Int32) (d : Int64) : Int64 := sp_mix (sp_mix (sp_mix (sp_mix (sp_mix (sp_mix (sp_mix (sp_mix (sp_mix (sp_mix (sp_mix (sp_mix (sp_mix (sp_mix d nt.toInt64) (nI n).toInt64) (sp_cnt lv n).toInt64) (nI w).toInt64) (sp_shk nv w).toInt64) fu.toInt64) re.toInt64) (nI k).toInt64) (sp_cert mi k).toInt64) (sp_mid du nv 20 ta w).toInt64) (sp_mus nv du w 10).toInt64) (sp_nuc nv du w).toInt64) (sp_best du nv w).1.toInt64) (sp_best lv lk n).1.toInt64

set_option maxHeartbeats 4000000 in
set_option maxRecDepth 100000 in
theorem c_X0_wouldCertify (l : Launch) (sz : Nat) {D : va_G} {z : ClassId × ClassId} {a : Nat → Nat} {lv lk pu fa he : Nat → Int32} {n : Nat} {nv du ta : Nat → Int32} {w : Nat} {mp mi : Nat → Int32} {k : Nat} {nt fu re : Int32} (b : Int32) (h1 : ¬ b < 1) (h2 : b ≤ 60) (hw : w ≤ 6) : Met l yX0_wouldCertify (ws_ yX0_wouldCertify cX0_wouldCertify 2 (some .int)) ({ frames := 3, cells := 0, slots := 0, locals := 66 } : Room) (va_Pc [.ref (a 0), .int b] (fun U => U.heap.size = sz ∧ xI D z a lv lk pu fa he n nv du ta w mp mi k nt fu re U ∧ va_D (fun _ => True) (xW z a lv lk pu fa he n nv du ta w mp mi k nt fu re))) (va_Qi (fun (r : Int32) (_ : Unit) => r = sp_mid du nv b ta w) (fun _ t9 => va_P D vwCl (xW z a lv lk pu fa he n nv du (sp_tarr du nv b ta w) w mp mi k nt fu re) t9.heap ∧ kK D z t9 ∧ va_D (va_A (xW z a lv lk pu fa he n nv du ta w mp mi k nt fu re) sz) (xW z a lv lk pu fa he n nv du (sp_tarr du nv b ta w) w mp mi k nt fu re)) (va_A (xW z a lv lk pu fa he n nv du ta w mp mi k nt fu re) sz)) 0 0 (va_A (xW z a lv lk pu fa he n nv du ta w mp mi k nt fu re) sz) := by
  refine Met.ofW (cc := cX0_wouldCertify) (maxL := 2) (ret := (some .int)) (by decide) rfl ?_
  intro p e s m args below meth c s₁ B hml hv
  obtain ⟨rfl, hsz, ⟨hP, hK⟩, hD0⟩ := hv
  have hx := B.exec
  have hb := B.bytes
  have hr := B.returns
  have hts := atoms_spec (ws := ws_ yX0_wouldCertify cX0_wouldCertify 2 (some .int)) B.pre
  have hts : ∀ w ∈ lw_all, w.before _ s = true := fun w h => hts w (List.mem_cons_of_mem _ h)
  have hown : s.vm.findClass RX0 = some m.cls := findClass_of_methodNamed B.named
  have hlocks := B.notSynchronized
  have hC : CallFix p m c cX0_wouldCertify 2 s _ lw_all RX0 := ⟨hx, hb, hml, hown, hts⟩
  subst hsz
  have hD := hD0.self (sz := s.heap.size)
  generalize hAe : va_A (xW z a lv lk pu fa he n nv du ta w mp mi k nt fu re) s.heap.size = A at hD ⊢
  have hA : ∀ q : Nat, s.heap.size ≤ q → A q := fun q h => by rw [← hAe]; exact Or.inr h
  have hS : va_S A s.heap s.heap [] := va_S.rf
  have hl := lv_entry ([.ref (a 0), .int b]) (n := 2) (Nat.le_of_ble_eq_true rfl)
  rw [lg_entry_eq]
  generalize (lg_sl ([.ref (a 0), .int b]) ++ List.replicate (2 - (lg_sl ([.ref (a 0), .int b])).length) Slot.unset).toArray = ls at hl ⊢
  have hl : lv_has ls 2 [(0, .ref (a 0)), (1, .int b)] := hl
  refine lv_aload_n hx hb dX0_wouldCertify_0 rfl (lv_at hl 0 rfl) ?_
  refine lv_iload_n hx hb dX0_wouldCertify_1 rfl (lv_at hl 1 rfl) ?_
  refine k_X0_requireInches hC hK hP hl.1 ⟨Nat.le_of_ble_eq_true rfl, Nat.le_of_ble_eq_true rfl⟩ ⟨Nat.zero_le _, Nat.zero_le _⟩ (Nat.le_of_ble_eq_true rfl)  (by first | assumption | omega) (by first | assumption | omega) dX0_wouldCertify_2 ?_
  refine lv_aload_n hx hb dX0_wouldCertify_5 rfl (lv_at hl 0 rfl) ?_
  refine lv_iload_n hx hb dX0_wouldCertify_6 rfl (lv_at hl 1 rfl) ?_
  refine k_X0_middleTale hC hK hP hD hS hA hl.1 ⟨Nat.le_of_ble_eq_true rfl, Nat.le_of_ble_eq_true rfl⟩ ⟨Nat.zero_le _, Nat.zero_le _⟩ (Nat.le_of_ble_eq_true rfl)  (by first | assumption | omega) dX0_wouldCertify_7 (fun H locs hP hD hS => ?_)
  exact W.iret (v := sp_mid du nv b ta w) hx hb hr (fun t ht hW => ⟨⟨sp_mid du nv b ta w, (), rfl, rfl, by rw [ht]; exact hP, va_K.moved hW.alike hK, hD⟩, hS.F ht⟩) hS.2.2 dX0_wouldCertify_10
set_option maxRecDepth 100000 in
theorem k_X0_wouldCertify {p : Program} {l : Launch} {e : Env} {R : Room} {s : State} {m : MethodId} {args : Array Value} {below : List Frame} {meth : Method} {c : Code} {H : Heap} {locs : List Loc} {cells slots : Nat} {Q : State → Prop} {D : va_G} {z : ClassId × ClassId} {a : Nat → Nat} {lv lk pu fa he : Nat → Int32} {n : Nat} {nv du ta : Nat → Int32} {w : Nat} {mp mi : Nat → Int32} {k : Nat} {nt fu re : Int32} {cc : ByteArray} {nL pc : Nat} {ls : Array Slot} {rest : List Value} {A : Nat → Prop} {H0 : Heap} (hC : CallFix p m c cc nL s args lw_all RX0) (hK : kK D z s) (hP : va_P D vwCl (xW z a lv lk pu fa he n nv du ta w mp mi k nt fu re) H) (hD : va_D A (xW z a lv lk pu fa he n nv du ta w mp mi k nt fu re)) (hS : va_S A H0 H locs) (hA : ∀ q : Nat, H0.size ≤ q → A q) (hl : ls.size = nL) (hR : 4 ≤ R.frames ∧ 87 ≤ R.locals) (hz : cells ≤ R.cells ∧ slots ≤ R.slots) (hr : (rest.map fun v => v.category).sum ≤ 8) {b : Int32}  (h1 : ¬ b < 1) (h2 : b ≤ 60) (hw : w ≤ 6) (hdg : decode cc pc = .ok (.invokevirtual 257, 3)) (kk : ∀ (H1 : Heap) (locs1 : List Loc), va_P D vwCl (xW z a lv lk pu fa he n nv du (sp_tarr du nv b ta w) w mp mi k nt fu re) H1 → va_D A (xW z a lv lk pu fa he n nv du (sp_tarr du nv b ta w) w mp mi k nt fu re) → va_S A H0 H1 locs1 → W p l e R s m args below meth c H1 locs1 cells slots Q (F0 m (pc + 3) ls (.int (sp_mid du nv b ta w) :: rest))) : W p l e R s m args below meth c H locs cells slots Q (F0 m pc ls (.int b :: .ref (a 0) :: rest)) := by
  have hF := va_free (wc := xW z a lv lk pu fa he n nv du ta w mp mi k nt fu re) hD hS hA [0, 1, 2, 3, 4, 5, 6, 7, 8, 9, 10] rfl
  refine va_calli (va_runV (As := [.int b]) (rest := rest) hC (c_X0_wouldCertify l H.size b h1 h2 hw) (cwV 1 hC.2.2.2.2 (gi_V mM_X0_257 mV_X0_wouldCertify mS_X0_wouldCertify mI_MissRegistry mC_X0_wouldCertify) rfl rfl rfl (by decide +kernel) hR) ⟨fun a1 U g mk q => ⟨q.1, q.2.1, ⟨q.2.2.1.1, va_K.moved (u := U) (U := U.calling g mk a1) (Vm.Alike.refl U.vm) q.2.2.1.2⟩, q.2.2.2⟩, va_recv hK hP (ci := 0) (q0 := 0) rfl rfl, fun U hU hW => ⟨rfl, by rw [hU], ⟨by rw [hU]; exact hP, va_K.moved hW.alike hK⟩, hD.weaken (fun _ _ _ _ => trivial)⟩⟩ rfl rfl hl rfl (lv_room hr) hdg hz) hS (fun q _ h => hF q h) hF (fun r u t H1 locs1 ht hvm hw hB hz1 hk1 hS1 => ?_)
  obtain ⟨hP1, hK1, hD1⟩ := hB
  rw [ht] at hP1
  have hw : r = sp_mid du nv b ta w := hw
  rw [hw]
  exact kk H1 locs1 hP1 (hD1.weaken (fun _ q9 _ h => hF q9.1 h)) hS1
set_option maxHeartbeats 4000000 in
set_option maxRecDepth 100000 in
theorem c_X0_wouldRefund (l : Launch) (sz : Nat) {D : va_G} {z : ClassId × ClassId} {a : Nat → Nat} {lv lk pu fa he : Nat → Int32} {n : Nat} {nv du ta : Nat → Int32} {w : Nat} {mp mi : Nat → Int32} {k : Nat} {nt fu re : Int32} (i : Nat) (b : Int32) (hi : i < n) (hn : n ≤ 10) (h1 : ¬ b < 1) (h2 : b ≤ 60) (hw : w ≤ 6) : Met l yX0_wouldRefund (ws_ yX0_wouldRefund cX0_wouldRefund 3 (some .int)) ({ frames := 3, cells := 0, slots := 0, locals := 66 } : Room) (va_Pc [.ref (a 0), .int (nI i), .int b] (fun U => U.heap.size = sz ∧ xI D z a lv lk pu fa he n nv du ta w mp mi k nt fu re U ∧ va_D (fun _ => True) (xW z a lv lk pu fa he n nv du ta w mp mi k nt fu re))) (va_Qi (fun (r : Int32) (_ : Unit) => r = sp_coins (lv i) (fa i) (lk i) fu (sp_mid du nv b ta w)) (fun _ t9 => va_P D vwCl (xW z a lv lk pu fa he n nv du (sp_tarr du nv b ta w) w mp mi k nt fu re) t9.heap ∧ kK D z t9 ∧ va_D (va_A (xW z a lv lk pu fa he n nv du ta w mp mi k nt fu re) sz) (xW z a lv lk pu fa he n nv du (sp_tarr du nv b ta w) w mp mi k nt fu re)) (va_A (xW z a lv lk pu fa he n nv du ta w mp mi k nt fu re) sz)) 0 0 (va_A (xW z a lv lk pu fa he n nv du ta w mp mi k nt fu re) sz) := by
  refine Met.ofW (cc := cX0_wouldRefund) (maxL := 3) (ret := (some .int)) (by decide) rfl ?_
  intro p e s m args below meth c s₁ B hml hv
  obtain ⟨rfl, hsz, ⟨hP, hK⟩, hD0⟩ := hv
  have hx := B.exec
  have hb := B.bytes
  have hr := B.returns
  have hts := atoms_spec (ws := ws_ yX0_wouldRefund cX0_wouldRefund 3 (some .int)) B.pre
  have hts : ∀ w ∈ lw_all, w.before _ s = true := fun w h => hts w (List.mem_cons_of_mem _ h)
  have hown : s.vm.findClass RX0 = some m.cls := findClass_of_methodNamed B.named
  have hlocks := B.notSynchronized
  have hC : CallFix p m c cX0_wouldRefund 3 s _ lw_all RX0 := ⟨hx, hb, hml, hown, hts⟩
  subst hsz
  have hD := hD0.self (sz := s.heap.size)
  generalize hAe : va_A (xW z a lv lk pu fa he n nv du ta w mp mi k nt fu re) s.heap.size = A at hD ⊢
  have hA : ∀ q : Nat, s.heap.size ≤ q → A q := fun q h => by rw [← hAe]; exact Or.inr h
  have hS : va_S A s.heap s.heap [] := va_S.rf
  have hl := lv_entry ([.ref (a 0), .int (nI i), .int b]) (n := 3) (Nat.le_of_ble_eq_true rfl)
  rw [lg_entry_eq]
  generalize (lg_sl ([.ref (a 0), .int (nI i), .int b]) ++ List.replicate (3 - (lg_sl ([.ref (a 0), .int (nI i), .int b])).length) Slot.unset).toArray = ls at hl ⊢
  have hl : lv_has ls 3 [(0, .ref (a 0)), (1, .int (nI i)), (2, .int b)] := hl
  refine lv_aload_n hx hb dX0_wouldRefund_0 rfl (lv_at hl 0 rfl) ?_
  refine lv_iload_n hx hb dX0_wouldRefund_1 rfl (lv_at hl 1 rfl) ?_
  refine k_X0_requirePerson hC hK hP hl.1 ⟨Nat.le_of_ble_eq_true rfl, Nat.le_of_ble_eq_true rfl⟩ ⟨Nat.zero_le _, Nat.zero_le _⟩ (Nat.le_of_ble_eq_true rfl) rfl (by first | assumption | omega) (by first | assumption | omega) dX0_wouldRefund_2 ?_
  refine lv_aload_n hx hb dX0_wouldRefund_5 rfl (lv_at hl 0 rfl) ?_
  refine lv_iload_n hx hb dX0_wouldRefund_6 rfl (lv_at hl 2 rfl) ?_
  refine k_X0_requireInches hC hK hP hl.1 ⟨Nat.le_of_ble_eq_true rfl, Nat.le_of_ble_eq_true rfl⟩ ⟨Nat.zero_le _, Nat.zero_le _⟩ (Nat.le_of_ble_eq_true rfl)  (by first | assumption | omega) (by first | assumption | omega) dX0_wouldRefund_7 ?_
  refine lv_aload_n hx hb dX0_wouldRefund_10 rfl (lv_at hl 0 rfl) ?_
  refine lv_iload_n hx hb dX0_wouldRefund_11 rfl (lv_at hl 1 rfl) ?_
  refine lv_aload_n hx hb dX0_wouldRefund_12 rfl (lv_at hl 0 rfl) ?_
  refine lv_iload_n hx hb dX0_wouldRefund_13 rfl (lv_at hl 2 rfl) ?_
  refine k_X0_middleTale hC hK hP hD hS hA hl.1 ⟨Nat.le_of_ble_eq_true rfl, Nat.le_of_ble_eq_true rfl⟩ ⟨Nat.zero_le _, Nat.zero_le _⟩ (Nat.le_of_ble_eq_true rfl)  (by first | assumption | omega) dX0_wouldRefund_14 (fun H locs hP hD hS => ?_)
  refine k_X0_refundCoins hC hK hP hl.1 ⟨Nat.le_of_ble_eq_true rfl, Nat.le_of_ble_eq_true rfl⟩ ⟨Nat.zero_le _, Nat.zero_le _⟩ (Nat.le_of_ble_eq_true rfl) rfl (by first | assumption | omega) dX0_wouldRefund_17 ?_
  exact W.iret (v := sp_coins (lv i) (fa i) (lk i) fu (sp_mid du nv b ta w)) hx hb hr (fun t ht hW => ⟨⟨sp_coins (lv i) (fa i) (lk i) fu (sp_mid du nv b ta w), (), rfl, rfl, by rw [ht]; exact hP, va_K.moved hW.alike hK, hD⟩, hS.F ht⟩) hS.2.2 dX0_wouldRefund_20
set_option maxHeartbeats 4000000 in
set_option maxRecDepth 100000 in
theorem c_X0_sealOf (l : Launch) {D : va_G} {z : ClassId × ClassId} {a : Nat → Nat} {lv lk pu fa he : Nat → Int32} {n : Nat} {nv du ta : Nat → Int32} {w : Nat} {mp mi : Nat → Int32} {k : Nat} {nt fu re : Int32} {q9 t9 : Nat → Nat} (i : Nat) (hi : i < k) (hk : k ≤ 60) : Met l yX0_sealOf (ws_ yX0_sealOf cX0_sealOf 2 (some .int)) ({ frames := 6, cells := 0, slots := 0, locals := 129 } : Room) (va_Pc [.ref (a 0), .int (nI i)] (fun U => xI D z a lv lk pu fa he n nv du ta w mp mi k nt fu re U ∧ cH q9 t9 nA U U.heap)) (vp_Si (fun r : Int32 => r = sp_seal (mp i) (mi i))) 0 0 (fun _ => False) := by
  refine Met.ofW (cc := cX0_sealOf) (maxL := 2) (ret := (some .int)) (by decide) rfl ?_
  intro p e s m args below meth c s₁ B hml hv
  obtain ⟨rfl, ⟨hP, hK⟩, hE⟩ := hv
  have hx := B.exec
  have hb := B.bytes
  have hr := B.returns
  have hts := atoms_spec (ws := ws_ yX0_sealOf cX0_sealOf 2 (some .int)) B.pre
  have hts : ∀ w ∈ lw_all, w.before _ s = true := fun w h => hts w (List.mem_cons_of_mem _ h)
  have hown : s.vm.findClass RX0 = some m.cls := findClass_of_methodNamed B.named
  have hlocks := B.notSynchronized
  have hC : CallFix p m c cX0_sealOf 2 s _ lw_all RX0 := ⟨hx, hb, hml, hown, hts⟩
  have hl := lv_entry ([.ref (a 0), .int (nI i)]) (n := 2) (Nat.le_of_ble_eq_true rfl)
  rw [lg_entry_eq]
  generalize (lg_sl ([.ref (a 0), .int (nI i)]) ++ List.replicate (2 - (lg_sl ([.ref (a 0), .int (nI i)])).length) Slot.unset).toArray = ls at hl ⊢
  have hl : lv_has ls 2 [(0, .ref (a 0)), (1, .int (nI i))] := hl
  refine lv_aload_n hx hb dX0_sealOf_0 rfl (lv_at hl 0 rfl) ?_
  refine lv_iload_n hx hb dX0_sealOf_1 rfl (lv_at hl 1 rfl) ?_
  refine k_X0_requireMiss hC hK hP hl.1 ⟨Nat.le_of_ble_eq_true rfl, Nat.le_of_ble_eq_true rfl⟩ ⟨Nat.zero_le _, Nat.zero_le _⟩ (Nat.le_of_ble_eq_true rfl) rfl (by first | assumption | omega) (by first | assumption | omega) dX0_sealOf_2 ?_
  refine lv_aload_n hx hb dX0_sealOf_5 rfl (lv_at hl 0 rfl) ?_
  refine xg_mp hC hK hP dX0_sealOf_6 ?_
  refine lv_iload_n hx hb dX0_sealOf_9 rfl (lv_at hl 1 rfl) ?_
  refine xl_mp hC hK hP i rfl (by omega) dX0_sealOf_10 ?_
  refine lv_aload_n hx hb dX0_sealOf_11 rfl (lv_at hl 0 rfl) ?_
  refine xg_mi hC hK hP dX0_sealOf_12 ?_
  refine lv_iload_n hx hb dX0_sealOf_15 rfl (lv_at hl 1 rfl) ?_
  refine xl_mi hC hK hP i rfl (by omega) dX0_sealOf_16 ?_
  refine k_X0_certificateSeal hC mM_X0_148 hE hl.1 ⟨Nat.le_of_ble_eq_true rfl, Nat.le_of_ble_eq_true rfl⟩ ⟨Nat.zero_le _, Nat.zero_le _⟩ (Nat.le_of_ble_eq_true rfl) dX0_sealOf_17 ?_
  exact W.iret (v := sp_seal (mp i) (mi i)) hx hb hr (fun t ht hW => ⟨sp_seal (mp i) (mi i), rfl, rfl, ht⟩) (fun q hq => absurd hq List.not_mem_nil) dX0_sealOf_20
set_option maxRecDepth 100000 in
theorem k_X0_sealOf {p : Program} {l : Launch} {e : Env} {R : Room} {s : State} {m : MethodId} {args : Array Value} {below : List Frame} {meth : Method} {c : Code} {H : Heap} {locs : List Loc} {cells slots : Nat} {Q : State → Prop} {D : va_G} {z : ClassId × ClassId} {a : Nat → Nat} {lv lk pu fa he : Nat → Int32} {n : Nat} {nv du ta : Nat → Int32} {w : Nat} {mp mi : Nat → Int32} {k : Nat} {nt fu re : Int32} {q9 t9 : Nat → Nat} {cc : ByteArray} {nL pc : Nat} {ls : Array Slot} {rest : List Value} (hC : CallFix p m c cc nL s args lw_all RX0) (hK : kK D z s) (hP : va_P D vwCl (xW z a lv lk pu fa he n nv du ta w mp mi k nt fu re) H) (hE : cH q9 t9 nA s H) (hl : ls.size = nL) (hR : 7 ≤ R.frames ∧ 150 ≤ R.locals) (hz : cells ≤ R.cells ∧ slots ≤ R.slots) (hr : (rest.map fun v => v.category).sum ≤ 8) {i : Nat} {x0 : Int32} (hx0 : x0 = nI i) (hi : i < k) (hk : k ≤ 60) (hdg : decode cc pc = .ok (.invokevirtual 296, 3)) (kk : W p l e R s m args below meth c H locs cells slots Q (F0 m (pc + 3) ls (.int (sp_seal (mp i) (mi i)) :: rest))) : W p l e R s m args below meth c H locs cells slots Q (F0 m pc ls (.int x0 :: .ref (a 0) :: rest)) := by
  subst hx0
  exact vp_callSi (W.runV (As := [.int (nI i)]) (rest := rest) hC (c_X0_sealOf l i hi hk) (cwV 1 hC.2.2.2.2 (gi_V mM_X0_296 mV_X0_sealOf mS_X0_sealOf mI_MissRegistry mC_X0_sealOf) rfl rfl rfl (by decide +kernel) hR) ⟨fun a1 U g mk q8 => ⟨q8.1, ⟨q8.2.1.1, va_K.moved (u := U) (U := U.calling g mk a1) (Vm.Alike.refl U.vm) q8.2.1.2⟩, cH.same (u := U) (U := U.calling g mk a1) rfl q8.2.2⟩, va_recv hK hP (ci := 0) (q0 := 0) rfl rfl, fun U hU hW => ⟨rfl, ⟨by rw [hU]; exact hP, va_K.moved hW.alike hK⟩, by rw [hU]; exact hE.warm hW⟩⟩ rfl rfl hl rfl (lv_room hr) hdg hz) (fun r hr => by rw [hr]; exact kk)
set_option maxHeartbeats 4000000 in
set_option maxRecDepth 100000 in
theorem c_X0_digestPerson (l : Launch) {D : va_G} {z : ClassId × ClassId} {a : Nat → Nat} {lv lk pu fa he : Nat → Int32} {n : Nat} {nv du ta : Nat → Int32} {w : Nat} {mp mi : Nat → Int32} {k : Nat} {nt fu re : Int32} (d : Int64) (i : Nat) (hi : i < n) (hn : n ≤ 10) (hk : k ≤ 60) (h01 : lv i = 0 ∨ lv i = 1) : Met l yX0_digestPerson (ws_ yX0_digestPerson cX0_digestPerson 4 (some .long)) ({ frames := 3, cells := 0, slots := 0, locals := 66 } : Room) (va_Pc [.ref (a 0), .long d, .int (nI i)] (xI D z a lv lk pu fa he n nv du ta w mp mi k nt fu re)) (vp_Sl (fun r : Int64 => r = sp_dper lv lk pu fa he n mp mi k i d)) 0 0 (fun _ => False) := by
  refine Met.ofW (cc := cX0_digestPerson) (maxL := 4) (ret := (some .long)) (by decide) rfl ?_
  intro p e s m args below meth c s₁ B hml hv
  obtain ⟨rfl, hP, hK⟩ := hv
  have hx := B.exec
  have hb := B.bytes
  have hr := B.returns
  have hts := atoms_spec (ws := ws_ yX0_digestPerson cX0_digestPerson 4 (some .long)) B.pre
  have hts : ∀ w ∈ lw_all, w.before _ s = true := fun w h => hts w (List.mem_cons_of_mem _ h)
  have hown : s.vm.findClass RX0 = some m.cls := findClass_of_methodNamed B.named
  have hlocks := B.notSynchronized
  have hC : CallFix p m c cX0_digestPerson 4 s _ lw_all RX0 := ⟨hx, hb, hml, hown, hts⟩
  have hl := lv_entry ([.ref (a 0), .long d, .int (nI i)]) (n := 4) (Nat.le_of_ble_eq_true rfl)
  rw [lg_entry_eq]
  generalize (lg_sl ([.ref (a 0), .long d, .int (nI i)]) ++ List.replicate (4 - (lg_sl ([.ref (a 0), .long d, .int (nI i)])).length) Slot.unset).toArray = ls at hl ⊢
  have hl : lv_has ls 4 [(0, .ref (a 0)), (1, .long d), (3, .int (nI i))] := hl
  refine lv_lload_n hx hb dX0_digestPerson_0 rfl (lv_at hl 1 rfl) ?_
  refine lv_aload_n hx hb dX0_digestPerson_1 rfl (lv_at hl 0 rfl) ?_
  refine lv_iload_n hx hb dX0_digestPerson_2 rfl (lv_at hl 2 rfl) ?_
  refine k_X0_isAlive hC hK hP hl.1 ⟨Nat.le_of_ble_eq_true rfl, Nat.le_of_ble_eq_true rfl⟩ ⟨Nat.zero_le _, Nat.zero_le _⟩ (Nat.le_of_ble_eq_true rfl) rfl (by first | assumption | omega) (by first | assumption | omega) (by first | assumption | omega) dX0_digestPerson_3 ?_
  refine k_X0_asNumber hC hl.1 ⟨Nat.le_of_ble_eq_true rfl, Nat.le_of_ble_eq_true rfl⟩ ⟨Nat.zero_le _, Nat.zero_le _⟩ (Nat.le_of_ble_eq_true rfl)   dX0_digestPerson_6 ?_
  refine lv_i2l hx hb dX0_digestPerson_9 rfl ?_
  refine k_X0_mix hC hl.1 ⟨Nat.le_of_ble_eq_true rfl, Nat.le_of_ble_eq_true rfl⟩ ⟨Nat.zero_le _, Nat.zero_le _⟩ (Nat.le_of_ble_eq_true rfl)   dX0_digestPerson_10 ?_
  refine lv_lstore_n (lv' := [(1, .long (sp_mix d ((sp_bit (lv i)).toInt64))), (0, .ref (a 0)), (3, .int (nI i))]) hx hb dX0_digestPerson_13 rfl hl (by decide) rfl (fun ls hl => ?_)
  refine lv_lload_n hx hb dX0_digestPerson_14 rfl (lv_at hl 0 rfl) ?_
  refine lv_aload_n hx hb dX0_digestPerson_15 rfl (lv_at hl 1 rfl) ?_
  refine lv_iload_n hx hb dX0_digestPerson_16 rfl (lv_at hl 2 rfl) ?_
  refine k_X0_luckOf hC hK hP hl.1 ⟨Nat.le_of_ble_eq_true rfl, Nat.le_of_ble_eq_true rfl⟩ ⟨Nat.zero_le _, Nat.zero_le _⟩ (Nat.le_of_ble_eq_true rfl) rfl (by first | assumption | omega) (by first | assumption | omega) dX0_digestPerson_17 ?_
  refine lv_i2l hx hb dX0_digestPerson_20 rfl ?_
  refine k_X0_mix hC hl.1 ⟨Nat.le_of_ble_eq_true rfl, Nat.le_of_ble_eq_true rfl⟩ ⟨Nat.zero_le _, Nat.zero_le _⟩ (Nat.le_of_ble_eq_true rfl)   dX0_digestPerson_21 ?_
  refine lv_lstore_n (lv' := [(1, .long (sp_mix (sp_mix d ((sp_bit (lv i)).toInt64)) ((lk i).toInt64))), (0, .ref (a 0)), (3, .int (nI i))]) hx hb dX0_digestPerson_24 rfl hl (by decide) rfl (fun ls hl => ?_)
  refine lv_lload_n hx hb dX0_digestPerson_25 rfl (lv_at hl 0 rfl) ?_
  refine lv_aload_n hx hb dX0_digestPerson_26 rfl (lv_at hl 1 rfl) ?_
  refine lv_iload_n hx hb dX0_digestPerson_27 rfl (lv_at hl 2 rfl) ?_
  refine k_X0_purseOf hC hK hP hl.1 ⟨Nat.le_of_ble_eq_true rfl, Nat.le_of_ble_eq_true rfl⟩ ⟨Nat.zero_le _, Nat.zero_le _⟩ (Nat.le_of_ble_eq_true rfl) rfl (by first | assumption | omega) (by first | assumption | omega) dX0_digestPerson_28 ?_
  refine lv_i2l hx hb dX0_digestPerson_31 rfl ?_
  refine k_X0_mix hC hl.1 ⟨Nat.le_of_ble_eq_true rfl, Nat.le_of_ble_eq_true rfl⟩ ⟨Nat.zero_le _, Nat.zero_le _⟩ (Nat.le_of_ble_eq_true rfl)   dX0_digestPerson_32 ?_
  refine lv_lstore_n (lv' := [(1, .long (sp_mix (sp_mix (sp_mix d ((sp_bit (lv i)).toInt64)) ((lk i).toInt64)) ((pu i).toInt64))), (0, .ref (a 0)), (3, .int (nI i))]) hx hb dX0_digestPerson_35 rfl hl (by decide) rfl (fun ls hl => ?_)
  refine lv_lload_n hx hb dX0_digestPerson_36 rfl (lv_at hl 0 rfl) ?_
  refine lv_aload_n hx hb dX0_digestPerson_37 rfl (lv_at hl 1 rfl) ?_
  refine lv_iload_n hx hb dX0_digestPerson_38 rfl (lv_at hl 2 rfl) ?_
  refine k_X0_fatesOf hC hK hP hl.1 ⟨Nat.le_of_ble_eq_true rfl, Nat.le_of_ble_eq_true rfl⟩ ⟨Nat.zero_le _, Nat.zero_le _⟩ (Nat.le_of_ble_eq_true rfl) rfl (by first | assumption | omega) (by first | assumption | omega) dX0_digestPerson_39 ?_
  refine lv_i2l hx hb dX0_digestPerson_42 rfl ?_
  refine k_X0_mix hC hl.1 ⟨Nat.le_of_ble_eq_true rfl, Nat.le_of_ble_eq_true rfl⟩ ⟨Nat.zero_le _, Nat.zero_le _⟩ (Nat.le_of_ble_eq_true rfl)   dX0_digestPerson_43 ?_
  refine lv_lstore_n (lv' := [(1, .long (sp_mix (sp_mix (sp_mix (sp_mix d ((sp_bit (lv i)).toInt64)) ((lk i).toInt64)) ((pu i).toInt64)) ((fa i).toInt64))), (0, .ref (a 0)), (3, .int (nI i))]) hx hb dX0_digestPerson_46 rfl hl (by decide) rfl (fun ls hl => ?_)
  refine lv_lload_n hx hb dX0_digestPerson_47 rfl (lv_at hl 0 rfl) ?_
  refine lv_aload_n hx hb dX0_digestPerson_48 rfl (lv_at hl 1 rfl) ?_
  refine lv_iload_n hx hb dX0_digestPerson_49 rfl (lv_at hl 2 rfl) ?_
  refine k_X0_heirOf hC hK hP hl.1 ⟨Nat.le_of_ble_eq_true rfl, Nat.le_of_ble_eq_true rfl⟩ ⟨Nat.zero_le _, Nat.zero_le _⟩ (Nat.le_of_ble_eq_true rfl) rfl (by first | assumption | omega) (by first | assumption | omega) dX0_digestPerson_50 ?_
  refine lv_i2l hx hb dX0_digestPerson_53 rfl ?_
  refine k_X0_mix hC hl.1 ⟨Nat.le_of_ble_eq_true rfl, Nat.le_of_ble_eq_true rfl⟩ ⟨Nat.zero_le _, Nat.zero_le _⟩ (Nat.le_of_ble_eq_true rfl)   dX0_digestPerson_54 ?_
  refine lv_lstore_n (lv' := [(1, .long (sp_mix (sp_mix (sp_mix (sp_mix (sp_mix d ((sp_bit (lv i)).toInt64)) ((lk i).toInt64)) ((pu i).toInt64)) ((fa i).toInt64)) ((he i).toInt64))), (0, .ref (a 0)), (3, .int (nI i))]) hx hb dX0_digestPerson_57 rfl hl (by decide) rfl (fun ls hl => ?_)
  refine lv_lload_n hx hb dX0_digestPerson_58 rfl (lv_at hl 0 rfl) ?_
  refine lv_aload_n hx hb dX0_digestPerson_59 rfl (lv_at hl 1 rfl) ?_
  refine lv_iload_n hx hb dX0_digestPerson_60 rfl (lv_at hl 2 rfl) ?_
  refine k_X0_lastHeirOf hC hK hP hl.1 ⟨Nat.le_of_ble_eq_true rfl, Nat.le_of_ble_eq_true rfl⟩ ⟨Nat.zero_le _, Nat.zero_le _⟩ (Nat.le_of_ble_eq_true rfl) rfl (by first | assumption | omega) (by first | assumption | omega) dX0_digestPerson_61 ?_
  refine lv_i2l hx hb dX0_digestPerson_64 rfl ?_
  refine k_X0_mix hC hl.1 ⟨Nat.le_of_ble_eq_true rfl, Nat.le_of_ble_eq_true rfl⟩ ⟨Nat.zero_le _, Nat.zero_le _⟩ (Nat.le_of_ble_eq_true rfl)   dX0_digestPerson_65 ?_
  refine lv_lstore_n (lv' := [(1, .long (sp_mix (sp_mix (sp_mix (sp_mix (sp_mix (sp_mix d ((sp_bit (lv i)).toInt64)) ((lk i).toInt64)) ((pu i).toInt64)) ((fa i).toInt64)) ((he i).toInt64)) ((sp_heir he lv n i n (he i)).toInt64))), (0, .ref (a 0)), (3, .int (nI i))]) hx hb dX0_digestPerson_68 rfl hl (by decide) rfl (fun ls hl => ?_)
  refine lv_lload_n hx hb dX0_digestPerson_69 rfl (lv_at hl 0 rfl) ?_
  refine lv_aload_n hx hb dX0_digestPerson_70 rfl (lv_at hl 1 rfl) ?_
  refine lv_iload_n hx hb dX0_digestPerson_71 rfl (lv_at hl 2 rfl) ?_
  refine k_X0_missesOf hC hK hP hl.1 ⟨Nat.le_of_ble_eq_true rfl, Nat.le_of_ble_eq_true rfl⟩ ⟨Nat.zero_le _, Nat.zero_le _⟩ (Nat.le_of_ble_eq_true rfl) rfl (by first | assumption | omega) (by first | assumption | omega) (by first | assumption | omega) dX0_digestPerson_72 ?_
  refine lv_i2l hx hb dX0_digestPerson_75 rfl ?_
  refine k_X0_mix hC hl.1 ⟨Nat.le_of_ble_eq_true rfl, Nat.le_of_ble_eq_true rfl⟩ ⟨Nat.zero_le _, Nat.zero_le _⟩ (Nat.le_of_ble_eq_true rfl)   dX0_digestPerson_76 ?_
  refine lv_lstore_n (lv' := [(1, .long (sp_mix (sp_mix (sp_mix (sp_mix (sp_mix (sp_mix (sp_mix d ((sp_bit (lv i)).toInt64)) ((lk i).toInt64)) ((pu i).toInt64)) ((fa i).toInt64)) ((he i).toInt64)) ((sp_heir he lv n i n (he i)).toInt64)) ((sp_many mp (nI i) k).toInt64))), (0, .ref (a 0)), (3, .int (nI i))]) hx hb dX0_digestPerson_79 rfl hl (by decide) rfl (fun ls hl => ?_)
  refine lv_lload_n hx hb dX0_digestPerson_80 rfl (lv_at hl 0 rfl) ?_
  refine lv_aload_n hx hb dX0_digestPerson_81 rfl (lv_at hl 1 rfl) ?_
  refine lv_iload_n hx hb dX0_digestPerson_82 rfl (lv_at hl 2 rfl) ?_
  refine k_X0_closestOf hC hK hP hl.1 ⟨Nat.le_of_ble_eq_true rfl, Nat.le_of_ble_eq_true rfl⟩ ⟨Nat.zero_le _, Nat.zero_le _⟩ (Nat.le_of_ble_eq_true rfl) rfl (by first | assumption | omega) (by first | assumption | omega) (by first | assumption | omega) dX0_digestPerson_83 ?_
  refine lv_i2l hx hb dX0_digestPerson_86 rfl ?_
  refine k_X0_mix hC hl.1 ⟨Nat.le_of_ble_eq_true rfl, Nat.le_of_ble_eq_true rfl⟩ ⟨Nat.zero_le _, Nat.zero_le _⟩ (Nat.le_of_ble_eq_true rfl)   dX0_digestPerson_87 ?_
  exact W.lret (v := sp_mix (sp_mix (sp_mix (sp_mix (sp_mix (sp_mix (sp_mix (sp_mix d ((sp_bit (lv i)).toInt64)) ((lk i).toInt64)) ((pu i).toInt64)) ((fa i).toInt64)) ((he i).toInt64)) ((sp_heir he lv n i n (he i)).toInt64)) ((sp_many mp (nI i) k).toInt64)) ((sp_close mp mi (nI i) k).toInt64)) hx hb hr (fun t ht hW => ⟨sp_mix (sp_mix (sp_mix (sp_mix (sp_mix (sp_mix (sp_mix (sp_mix d ((sp_bit (lv i)).toInt64)) ((lk i).toInt64)) ((pu i).toInt64)) ((fa i).toInt64)) ((he i).toInt64)) ((sp_heir he lv n i n (he i)).toInt64)) ((sp_many mp (nI i) k).toInt64)) ((sp_close mp mi (nI i) k).toInt64), rfl, (by unfold sp_dper; rfl), ht⟩) (fun q hq => absurd hq List.not_mem_nil) dX0_digestPerson_90
set_option maxRecDepth 100000 in
theorem k_X0_digestPerson {p : Program} {l : Launch} {e : Env} {R : Room} {s : State} {m : MethodId} {args : Array Value} {below : List Frame} {meth : Method} {c : Code} {H : Heap} {locs : List Loc} {cells slots : Nat} {Q : State → Prop} {D : va_G} {z : ClassId × ClassId} {a : Nat → Nat} {lv lk pu fa he : Nat → Int32} {n : Nat} {nv du ta : Nat → Int32} {w : Nat} {mp mi : Nat → Int32} {k : Nat} {nt fu re : Int32} {cc : ByteArray} {nL pc : Nat} {ls : Array Slot} {rest : List Value} (hC : CallFix p m c cc nL s args lw_all RX0) (hK : kK D z s) (hP : va_P D vwCl (xW z a lv lk pu fa he n nv du ta w mp mi k nt fu re) H) (hl : ls.size = nL) (hR : 4 ≤ R.frames ∧ 89 ≤ R.locals) (hz : cells ≤ R.cells ∧ slots ≤ R.slots) (hr : (rest.map fun v => v.category).sum ≤ 8) {d : Int64} {i : Nat} {x1 : Int32} (hx1 : x1 = nI i) (hi : i < n) (hn : n ≤ 10) (hk : k ≤ 60) (h01 : lv i = 0 ∨ lv i = 1) (hdg : decode cc pc = .ok (.invokevirtual 169, 3)) (kk : W p l e R s m args below meth c H locs cells slots Q (F0 m (pc + 3) ls (.long (sp_dper lv lk pu fa he n mp mi k i d) :: rest))) : W p l e R s m args below meth c H locs cells slots Q (F0 m pc ls (.int x1 :: .long d :: .ref (a 0) :: rest)) := by
  subst hx1
  exact vp_callSl (W.runV (As := [.long d, .int (nI i)]) (rest := rest) hC (c_X0_digestPerson l d i hi hn hk h01) (cwV 2 hC.2.2.2.2 (gi_V mM_X0_169 mV_X0_digestPerson mS_X0_digestPerson mI_MissRegistry mC_X0_digestPerson) rfl rfl rfl (by decide +kernel) hR) (xpre hK hP) rfl rfl hl rfl (lv_room hr) hdg hz) (fun r hr => by rw [hr]; exact kk)
theorem dl_1 {k : Nat} (h : (0 : Int32) ≤ nI k - 1) : ¬ k = 0 := by
  rintro rfl
  exact absurd h (by decide)
theorem dl_2 {k : Nat} (h : ¬ k = 0) : nI k - 1 = nI (k - 1) := pk_sub (a := k) (b := 1) (by omega)
theorem dl_0 {k : Nat} (hk : k < 2 ^ 31) (h : ¬ (0 : Int32) ≤ nI k - 1) : k = 0 := by
  by_cases h0 : k = 0
  · exact h0
  · rw [dl_2 h0] at h
    exact absurd (nI_pos' (by omega)) h
set_option maxHeartbeats 4000000 in
set_option maxRecDepth 100000 in
theorem c_X0_digestLatestMiss (l : Launch) {D : va_G} {z : ClassId × ClassId} {a : Nat → Nat} {lv lk pu fa he : Nat → Int32} {n : Nat} {nv du ta : Nat → Int32} {w : Nat} {mp mi : Nat → Int32} {k : Nat} {nt fu re : Int32} {q9 t9 : Nat → Nat} (d : Int64) (hk : k ≤ 60) : Met l yX0_digestLatestMiss (ws_ yX0_digestLatestMiss cX0_digestLatestMiss 4 (some .long)) ({ frames := 7, cells := 0, slots := 0, locals := 150 } : Room) (va_Pc [.ref (a 0), .long d] (fun U => xI D z a lv lk pu fa he n nv du ta w mp mi k nt fu re U ∧ cH q9 t9 nA U U.heap)) (vp_Sl (fun r : Int64 => r = sp_dlast mp mi k d)) 0 0 (fun _ => False) := by
  refine Met.ofW (cc := cX0_digestLatestMiss) (maxL := 4) (ret := (some .long)) (by decide) rfl ?_
  intro p e s m args below meth c s₁ B hml hv
  obtain ⟨rfl, ⟨hP, hK⟩, hE⟩ := hv
  have hx := B.exec
  have hb := B.bytes
  have hr := B.returns
  have hts := atoms_spec (ws := ws_ yX0_digestLatestMiss cX0_digestLatestMiss 4 (some .long)) B.pre
  have hts : ∀ w ∈ lw_all, w.before _ s = true := fun w h => hts w (List.mem_cons_of_mem _ h)
  have hown : s.vm.findClass RX0 = some m.cls := findClass_of_methodNamed B.named
  have hlocks := B.notSynchronized
  have hC : CallFix p m c cX0_digestLatestMiss 4 s _ lw_all RX0 := ⟨hx, hb, hml, hown, hts⟩
  have hl := lv_entry ([.ref (a 0), .long d]) (n := 4) (Nat.le_of_ble_eq_true rfl)
  rw [lg_entry_eq]
  generalize (lg_sl ([.ref (a 0), .long d]) ++ List.replicate (4 - (lg_sl ([.ref (a 0), .long d])).length) Slot.unset).toArray = ls at hl ⊢
  have hl : lv_has ls 4 [(0, .ref (a 0)), (1, .long d)] := hl
  refine lv_aload_n hx hb dX0_digestLatestMiss_0 rfl (lv_at hl 0 rfl) ?_
  refine xg_k hC hK hP dX0_digestLatestMiss_1 ?_
  refine lv_iconst (v := 1) hx hb dX0_digestLatestMiss_4 (by decide) ?_
  refine lv_isub hx hb dX0_digestLatestMiss_5 ?_
  refine lv_istore_n (lv' := [(3, .int ((nI k) - 1)), (0, .ref (a 0)), (1, .long d)]) hx hb dX0_digestLatestMiss_6 rfl hl (by decide) rfl (fun ls hl => ?_)
  refine lv_iload_n hx hb dX0_digestLatestMiss_7 rfl (lv_at hl 0 rfl) ?_
  refine lv_if_ge (tgt := 21) hx hb dX0_digestLatestMiss_8 (by decide) (fun c_8 => ?_) (fun c_8 => ?_)
  · have hk0 : ¬ k = 0 := dl_1 c_8
    refine lv_lload_n hx hb dX0_digestLatestMiss_21 rfl (lv_at hl 2 rfl) ?_
    refine lv_aload_n hx hb dX0_digestLatestMiss_22 rfl (lv_at hl 1 rfl) ?_
    refine lv_iload_n hx hb dX0_digestLatestMiss_23 rfl (lv_at hl 0 rfl) ?_
    refine k_X0_inchesOf hC hK hP hl.1 ⟨Nat.le_of_ble_eq_true rfl, Nat.le_of_ble_eq_true rfl⟩ ⟨Nat.zero_le _, Nat.zero_le _⟩ (Nat.le_of_ble_eq_true rfl) (dl_2 (dl_1 c_8)) (by first | assumption | omega) (by first | assumption | omega) dX0_digestLatestMiss_24 ?_
    refine lv_i2l hx hb dX0_digestLatestMiss_27 rfl ?_
    refine k_X0_mix hC hl.1 ⟨Nat.le_of_ble_eq_true rfl, Nat.le_of_ble_eq_true rfl⟩ ⟨Nat.zero_le _, Nat.zero_le _⟩ (Nat.le_of_ble_eq_true rfl)   dX0_digestLatestMiss_28 ?_
    refine lv_lstore_n (lv' := [(1, .long (sp_mix d ((mi (k - 1)).toInt64))), (3, .int ((nI k) - 1)), (0, .ref (a 0))]) hx hb dX0_digestLatestMiss_31 rfl hl (by decide) rfl (fun ls hl => ?_)
    refine lv_lload_n hx hb dX0_digestLatestMiss_32 rfl (lv_at hl 0 rfl) ?_
    refine lv_aload_n hx hb dX0_digestLatestMiss_33 rfl (lv_at hl 2 rfl) ?_
    refine lv_iload_n hx hb dX0_digestLatestMiss_34 rfl (lv_at hl 1 rfl) ?_
    refine k_X0_sealOf hC hK hP hE hl.1 ⟨Nat.le_of_ble_eq_true rfl, Nat.le_of_ble_eq_true rfl⟩ ⟨Nat.zero_le _, Nat.zero_le _⟩ (Nat.le_of_ble_eq_true rfl) (dl_2 (dl_1 c_8)) (by first | assumption | omega) (by first | assumption | omega) dX0_digestLatestMiss_35 ?_
    refine lv_i2l hx hb dX0_digestLatestMiss_38 rfl ?_
    refine k_X0_mix hC hl.1 ⟨Nat.le_of_ble_eq_true rfl, Nat.le_of_ble_eq_true rfl⟩ ⟨Nat.zero_le _, Nat.zero_le _⟩ (Nat.le_of_ble_eq_true rfl)   dX0_digestLatestMiss_39 ?_
    exact W.lret (v := sp_mix (sp_mix d ((mi (k - 1)).toInt64)) ((sp_seal (mp (k - 1)) (mi (k - 1))).toInt64)) hx hb hr (fun t ht hW => ⟨sp_mix (sp_mix d ((mi (k - 1)).toInt64)) ((sp_seal (mp (k - 1)) (mi (k - 1))).toInt64), rfl, (by unfold sp_dlast; rw [if_neg (dl_1 c_8)]), ht⟩) (fun q hq => absurd hq List.not_mem_nil) dX0_digestLatestMiss_42
  · refine lv_lload_n hx hb dX0_digestLatestMiss_11 rfl (lv_at hl 2 rfl) ?_
    refine lv_lconst (v := 0) hx hb dX0_digestLatestMiss_12 rfl ?_
    refine k_X0_mix hC hl.1 ⟨Nat.le_of_ble_eq_true rfl, Nat.le_of_ble_eq_true rfl⟩ ⟨Nat.zero_le _, Nat.zero_le _⟩ (Nat.le_of_ble_eq_true rfl)   dX0_digestLatestMiss_13 ?_
    refine lv_lconst (v := 0) hx hb dX0_digestLatestMiss_16 rfl ?_
    refine k_X0_mix hC hl.1 ⟨Nat.le_of_ble_eq_true rfl, Nat.le_of_ble_eq_true rfl⟩ ⟨Nat.zero_le _, Nat.zero_le _⟩ (Nat.le_of_ble_eq_true rfl)   dX0_digestLatestMiss_17 ?_
    exact W.lret (v := sp_mix (sp_mix d 0) 0) hx hb hr (fun t ht hW => ⟨sp_mix (sp_mix d 0) 0, rfl, (by unfold sp_dlast; rw [if_pos (dl_0 (by omega) c_8)]), ht⟩) (fun q hq => absurd hq List.not_mem_nil) dX0_digestLatestMiss_20
set_option maxRecDepth 100000 in
theorem k_X0_digestLatestMiss {p : Program} {l : Launch} {e : Env} {R : Room} {s : State} {m : MethodId} {args : Array Value} {below : List Frame} {meth : Method} {c : Code} {H : Heap} {locs : List Loc} {cells slots : Nat} {Q : State → Prop} {D : va_G} {z : ClassId × ClassId} {a : Nat → Nat} {lv lk pu fa he : Nat → Int32} {n : Nat} {nv du ta : Nat → Int32} {w : Nat} {mp mi : Nat → Int32} {k : Nat} {nt fu re : Int32} {q9 t9 : Nat → Nat} {cc : ByteArray} {nL pc : Nat} {ls : Array Slot} {rest : List Value} (hC : CallFix p m c cc nL s args lw_all RX0) (hK : kK D z s) (hP : va_P D vwCl (xW z a lv lk pu fa he n nv du ta w mp mi k nt fu re) H) (hE : cH q9 t9 nA s H) (hl : ls.size = nL) (hR : 8 ≤ R.frames ∧ 173 ≤ R.locals) (hz : cells ≤ R.cells ∧ slots ≤ R.slots) (hr : (rest.map fun v => v.category).sum ≤ 8) {d : Int64}  (hk : k ≤ 60) (hdg : decode cc pc = .ok (.invokevirtual 181, 3)) (kk : W p l e R s m args below meth c H locs cells slots Q (F0 m (pc + 3) ls (.long (sp_dlast mp mi k d) :: rest))) : W p l e R s m args below meth c H locs cells slots Q (F0 m pc ls (.long d :: .ref (a 0) :: rest)) := by
  exact vp_callSl (W.runV (As := [.long d]) (rest := rest) hC (c_X0_digestLatestMiss l d hk) (cwV 1 hC.2.2.2.2 (gi_V mM_X0_181 mV_X0_digestLatestMiss mS_X0_digestLatestMiss mI_MissRegistry mC_X0_digestLatestMiss) rfl rfl rfl (by decide +kernel) hR) ⟨fun a1 U g mk q8 => ⟨q8.1, ⟨q8.2.1.1, va_K.moved (u := U) (U := U.calling g mk a1) (Vm.Alike.refl U.vm) q8.2.1.2⟩, cH.same (u := U) (U := U.calling g mk a1) rfl q8.2.2⟩, va_recv hK hP (ci := 0) (q0 := 0) rfl rfl, fun U hU hW => ⟨rfl, ⟨by rw [hU]; exact hP, va_K.moved hW.alike hK⟩, by rw [hU]; exact hE.warm hW⟩⟩ rfl rfl hl rfl (lv_room hr) hdg hz) (fun r hr => by rw [hr]; exact kk)
set_option maxHeartbeats 4000000 in
set_option maxRecDepth 100000 in
theorem c_X0_digestRegistry (l : Launch) (sz : Nat) {D : va_G} {z : ClassId × ClassId} {a : Nat → Nat} {lv lk pu fa he : Nat → Int32} {n : Nat} {nv du ta : Nat → Int32} {w : Nat} {mp mi : Nat → Int32} {k : Nat} {nt fu re : Int32} (d : Int64) (hn : n ≤ 10) (hw : w ≤ 6) (hk : k ≤ 60) : Met l yX0_digestRegistry (ws_ yX0_digestRegistry cX0_digestRegistry 3 (some .long)) ({ frames := 4, cells := 0, slots := 0, locals := 87 } : Room) (va_Pc [.ref (a 0), .long d] (fun U => U.heap.size = sz ∧ xI D z a lv lk pu fa he n nv du ta w mp mi k nt fu re U ∧ va_D (fun _ => True) (xW z a lv lk pu fa he n nv du ta w mp mi k nt fu re))) (va_Ql (fun (r : Int64) (_ : Unit) => r = sp_dreg lv lk n nv du ta w mi k nt fu re d) (fun _ t9 => va_P D vwCl (xW z a lv lk pu fa he n nv du (sp_tarr du nv 20 ta w) w mp mi k nt fu re) t9.heap ∧ kK D z t9 ∧ va_D (va_A (xW z a lv lk pu fa he n nv du ta w mp mi k nt fu re) sz) (xW z a lv lk pu fa he n nv du (sp_tarr du nv 20 ta w) w mp mi k nt fu re)) (va_A (xW z a lv lk pu fa he n nv du ta w mp mi k nt fu re) sz)) 0 0 (va_A (xW z a lv lk pu fa he n nv du ta w mp mi k nt fu re) sz) := by
  refine Met.ofW (cc := cX0_digestRegistry) (maxL := 3) (ret := (some .long)) (by decide) rfl ?_
  intro p e s m args below meth c s₁ B hml hv
  obtain ⟨rfl, hsz, ⟨hP, hK⟩, hD0⟩ := hv
  have hx := B.exec
  have hb := B.bytes
  have hr := B.returns
  have hts := atoms_spec (ws := ws_ yX0_digestRegistry cX0_digestRegistry 3 (some .long)) B.pre
  have hts : ∀ w ∈ lw_all, w.before _ s = true := fun w h => hts w (List.mem_cons_of_mem _ h)
  have hown : s.vm.findClass RX0 = some m.cls := findClass_of_methodNamed B.named
  have hlocks := B.notSynchronized
  have hC : CallFix p m c cX0_digestRegistry 3 s _ lw_all RX0 := ⟨hx, hb, hml, hown, hts⟩
  subst hsz
  have hD := hD0.self (sz := s.heap.size)
  generalize hAe : va_A (xW z a lv lk pu fa he n nv du ta w mp mi k nt fu re) s.heap.size = A at hD ⊢
  have hA : ∀ q : Nat, s.heap.size ≤ q → A q := fun q h => by rw [← hAe]; exact Or.inr h
  have hS : va_S A s.heap s.heap [] := va_S.rf
  have hl := lv_entry ([.ref (a 0), .long d]) (n := 3) (Nat.le_of_ble_eq_true rfl)
  rw [lg_entry_eq]
  generalize (lg_sl ([.ref (a 0), .long d]) ++ List.replicate (3 - (lg_sl ([.ref (a 0), .long d])).length) Slot.unset).toArray = ls at hl ⊢
  have hl : lv_has ls 3 [(0, .ref (a 0)), (1, .long d)] := hl
  refine lv_lload_n hx hb dX0_digestRegistry_0 rfl (lv_at hl 1 rfl) ?_
  refine lv_aload_n hx hb dX0_digestRegistry_1 rfl (lv_at hl 0 rfl) ?_
  refine k_X0_night hC hK hP hl.1 ⟨Nat.le_of_ble_eq_true rfl, Nat.le_of_ble_eq_true rfl⟩ ⟨Nat.zero_le _, Nat.zero_le _⟩ (Nat.le_of_ble_eq_true rfl)   dX0_digestRegistry_2 ?_
  refine lv_i2l hx hb dX0_digestRegistry_5 rfl ?_
  refine k_X0_mix hC hl.1 ⟨Nat.le_of_ble_eq_true rfl, Nat.le_of_ble_eq_true rfl⟩ ⟨Nat.zero_le _, Nat.zero_le _⟩ (Nat.le_of_ble_eq_true rfl)   dX0_digestRegistry_6 ?_
  refine lv_lstore_n (lv' := [(1, .long (sp_mix d (nt.toInt64))), (0, .ref (a 0))]) hx hb dX0_digestRegistry_9 rfl hl (by decide) rfl (fun ls hl => ?_)
  refine lv_lload_n hx hb dX0_digestRegistry_10 rfl (lv_at hl 0 rfl) ?_
  refine lv_aload_n hx hb dX0_digestRegistry_11 rfl (lv_at hl 1 rfl) ?_
  refine k_X0_persons hC hK hP hl.1 ⟨Nat.le_of_ble_eq_true rfl, Nat.le_of_ble_eq_true rfl⟩ ⟨Nat.zero_le _, Nat.zero_le _⟩ (Nat.le_of_ble_eq_true rfl)   dX0_digestRegistry_12 ?_
  refine lv_i2l hx hb dX0_digestRegistry_15 rfl ?_
  refine k_X0_mix hC hl.1 ⟨Nat.le_of_ble_eq_true rfl, Nat.le_of_ble_eq_true rfl⟩ ⟨Nat.zero_le _, Nat.zero_le _⟩ (Nat.le_of_ble_eq_true rfl)   dX0_digestRegistry_16 ?_
  refine lv_lstore_n (lv' := [(1, .long (sp_mix (sp_mix d (nt.toInt64)) ((nI n).toInt64))), (0, .ref (a 0))]) hx hb dX0_digestRegistry_19 rfl hl (by decide) rfl (fun ls hl => ?_)
  refine lv_lload_n hx hb dX0_digestRegistry_20 rfl (lv_at hl 0 rfl) ?_
  refine lv_aload_n hx hb dX0_digestRegistry_21 rfl (lv_at hl 1 rfl) ?_
  refine k_X0_alive hC hK hP hl.1 ⟨Nat.le_of_ble_eq_true rfl, Nat.le_of_ble_eq_true rfl⟩ ⟨Nat.zero_le _, Nat.zero_le _⟩ (Nat.le_of_ble_eq_true rfl)  (by first | assumption | omega) dX0_digestRegistry_22 ?_
  refine lv_i2l hx hb dX0_digestRegistry_25 rfl ?_
  refine k_X0_mix hC hl.1 ⟨Nat.le_of_ble_eq_true rfl, Nat.le_of_ble_eq_true rfl⟩ ⟨Nat.zero_le _, Nat.zero_le _⟩ (Nat.le_of_ble_eq_true rfl)   dX0_digestRegistry_26 ?_
  refine lv_lstore_n (lv' := [(1, .long (sp_mix (sp_mix (sp_mix d (nt.toInt64)) ((nI n).toInt64)) ((sp_cnt lv n).toInt64))), (0, .ref (a 0))]) hx hb dX0_digestRegistry_29 rfl hl (by decide) rfl (fun ls hl => ?_)
  refine lv_lload_n hx hb dX0_digestRegistry_30 rfl (lv_at hl 0 rfl) ?_
  refine lv_aload_n hx hb dX0_digestRegistry_31 rfl (lv_at hl 1 rfl) ?_
  refine k_X0_witnesses hC hK hP hl.1 ⟨Nat.le_of_ble_eq_true rfl, Nat.le_of_ble_eq_true rfl⟩ ⟨Nat.zero_le _, Nat.zero_le _⟩ (Nat.le_of_ble_eq_true rfl)   dX0_digestRegistry_32 ?_
  refine lv_i2l hx hb dX0_digestRegistry_35 rfl ?_
  refine k_X0_mix hC hl.1 ⟨Nat.le_of_ble_eq_true rfl, Nat.le_of_ble_eq_true rfl⟩ ⟨Nat.zero_le _, Nat.zero_le _⟩ (Nat.le_of_ble_eq_true rfl)   dX0_digestRegistry_36 ?_
  refine lv_lstore_n (lv' := [(1, .long (sp_mix (sp_mix (sp_mix (sp_mix d (nt.toInt64)) ((nI n).toInt64)) ((sp_cnt lv n).toInt64)) ((nI w).toInt64))), (0, .ref (a 0))]) hx hb dX0_digestRegistry_39 rfl hl (by decide) rfl (fun ls hl => ?_)
  refine lv_lload_n hx hb dX0_digestRegistry_40 rfl (lv_at hl 0 rfl) ?_
  refine lv_aload_n hx hb dX0_digestRegistry_41 rfl (lv_at hl 1 rfl) ?_
  refine k_X0_shaken hC hK hP hl.1 ⟨Nat.le_of_ble_eq_true rfl, Nat.le_of_ble_eq_true rfl⟩ ⟨Nat.zero_le _, Nat.zero_le _⟩ (Nat.le_of_ble_eq_true rfl)  (by first | assumption | omega) dX0_digestRegistry_42 ?_
  refine lv_i2l hx hb dX0_digestRegistry_45 rfl ?_
  refine k_X0_mix hC hl.1 ⟨Nat.le_of_ble_eq_true rfl, Nat.le_of_ble_eq_true rfl⟩ ⟨Nat.zero_le _, Nat.zero_le _⟩ (Nat.le_of_ble_eq_true rfl)   dX0_digestRegistry_46 ?_
  refine lv_lstore_n (lv' := [(1, .long (sp_mix (sp_mix (sp_mix (sp_mix (sp_mix d (nt.toInt64)) ((nI n).toInt64)) ((sp_cnt lv n).toInt64)) ((nI w).toInt64)) ((sp_shk nv w).toInt64))), (0, .ref (a 0))]) hx hb dX0_digestRegistry_49 rfl hl (by decide) rfl (fun ls hl => ?_)
  refine lv_lload_n hx hb dX0_digestRegistry_50 rfl (lv_at hl 0 rfl) ?_
  refine lv_aload_n hx hb dX0_digestRegistry_51 rfl (lv_at hl 1 rfl) ?_
  refine k_X0_fund hC hK hP hl.1 ⟨Nat.le_of_ble_eq_true rfl, Nat.le_of_ble_eq_true rfl⟩ ⟨Nat.zero_le _, Nat.zero_le _⟩ (Nat.le_of_ble_eq_true rfl)   dX0_digestRegistry_52 ?_
  refine lv_i2l hx hb dX0_digestRegistry_55 rfl ?_
  refine k_X0_mix hC hl.1 ⟨Nat.le_of_ble_eq_true rfl, Nat.le_of_ble_eq_true rfl⟩ ⟨Nat.zero_le _, Nat.zero_le _⟩ (Nat.le_of_ble_eq_true rfl)   dX0_digestRegistry_56 ?_
  refine lv_lstore_n (lv' := [(1, .long (sp_mix (sp_mix (sp_mix (sp_mix (sp_mix (sp_mix d (nt.toInt64)) ((nI n).toInt64)) ((sp_cnt lv n).toInt64)) ((nI w).toInt64)) ((sp_shk nv w).toInt64)) (fu.toInt64))), (0, .ref (a 0))]) hx hb dX0_digestRegistry_59 rfl hl (by decide) rfl (fun ls hl => ?_)
  refine lv_lload_n hx hb dX0_digestRegistry_60 rfl (lv_at hl 0 rfl) ?_
  refine lv_aload_n hx hb dX0_digestRegistry_61 rfl (lv_at hl 1 rfl) ?_
  refine k_X0_refunded hC hK hP hl.1 ⟨Nat.le_of_ble_eq_true rfl, Nat.le_of_ble_eq_true rfl⟩ ⟨Nat.zero_le _, Nat.zero_le _⟩ (Nat.le_of_ble_eq_true rfl)   dX0_digestRegistry_62 ?_
  refine lv_i2l hx hb dX0_digestRegistry_65 rfl ?_
  refine k_X0_mix hC hl.1 ⟨Nat.le_of_ble_eq_true rfl, Nat.le_of_ble_eq_true rfl⟩ ⟨Nat.zero_le _, Nat.zero_le _⟩ (Nat.le_of_ble_eq_true rfl)   dX0_digestRegistry_66 ?_
  refine lv_lstore_n (lv' := [(1, .long (sp_mix (sp_mix (sp_mix (sp_mix (sp_mix (sp_mix (sp_mix d (nt.toInt64)) ((nI n).toInt64)) ((sp_cnt lv n).toInt64)) ((nI w).toInt64)) ((sp_shk nv w).toInt64)) (fu.toInt64)) (re.toInt64))), (0, .ref (a 0))]) hx hb dX0_digestRegistry_69 rfl hl (by decide) rfl (fun ls hl => ?_)
  refine lv_lload_n hx hb dX0_digestRegistry_70 rfl (lv_at hl 0 rfl) ?_
  refine lv_aload_n hx hb dX0_digestRegistry_71 rfl (lv_at hl 1 rfl) ?_
  refine k_X0_misses hC hK hP hl.1 ⟨Nat.le_of_ble_eq_true rfl, Nat.le_of_ble_eq_true rfl⟩ ⟨Nat.zero_le _, Nat.zero_le _⟩ (Nat.le_of_ble_eq_true rfl)   dX0_digestRegistry_72 ?_
  refine lv_i2l hx hb dX0_digestRegistry_75 rfl ?_
  refine k_X0_mix hC hl.1 ⟨Nat.le_of_ble_eq_true rfl, Nat.le_of_ble_eq_true rfl⟩ ⟨Nat.zero_le _, Nat.zero_le _⟩ (Nat.le_of_ble_eq_true rfl)   dX0_digestRegistry_76 ?_
  refine lv_lstore_n (lv' := [(1, .long (sp_mix (sp_mix (sp_mix (sp_mix (sp_mix (sp_mix (sp_mix (sp_mix d (nt.toInt64)) ((nI n).toInt64)) ((sp_cnt lv n).toInt64)) ((nI w).toInt64)) ((sp_shk nv w).toInt64)) (fu.toInt64)) (re.toInt64)) ((nI k).toInt64))), (0, .ref (a 0))]) hx hb dX0_digestRegistry_79 rfl hl (by decide) rfl (fun ls hl => ?_)
  refine lv_lload_n hx hb dX0_digestRegistry_80 rfl (lv_at hl 0 rfl) ?_
  refine lv_aload_n hx hb dX0_digestRegistry_81 rfl (lv_at hl 1 rfl) ?_
  refine k_X0_certified hC hK hP hl.1 ⟨Nat.le_of_ble_eq_true rfl, Nat.le_of_ble_eq_true rfl⟩ ⟨Nat.zero_le _, Nat.zero_le _⟩ (Nat.le_of_ble_eq_true rfl)  (by first | assumption | omega) dX0_digestRegistry_82 ?_
  refine lv_i2l hx hb dX0_digestRegistry_85 rfl ?_
  refine k_X0_mix hC hl.1 ⟨Nat.le_of_ble_eq_true rfl, Nat.le_of_ble_eq_true rfl⟩ ⟨Nat.zero_le _, Nat.zero_le _⟩ (Nat.le_of_ble_eq_true rfl)   dX0_digestRegistry_86 ?_
  refine lv_lstore_n (lv' := [(1, .long (sp_mix (sp_mix (sp_mix (sp_mix (sp_mix (sp_mix (sp_mix (sp_mix (sp_mix d (nt.toInt64)) ((nI n).toInt64)) ((sp_cnt lv n).toInt64)) ((nI w).toInt64)) ((sp_shk nv w).toInt64)) (fu.toInt64)) (re.toInt64)) ((nI k).toInt64)) ((sp_cert mi k).toInt64))), (0, .ref (a 0))]) hx hb dX0_digestRegistry_89 rfl hl (by decide) rfl (fun ls hl => ?_)
  refine lv_lload_n hx hb dX0_digestRegistry_90 rfl (lv_at hl 0 rfl) ?_
  refine lv_aload_n hx hb dX0_digestRegistry_91 rfl (lv_at hl 1 rfl) ?_
  refine lv_bipush (v := 20) hx hb dX0_digestRegistry_92 (by decide) ?_
  refine k_X0_wouldCertify hC hK hP hD hS hA hl.1 ⟨Nat.le_of_ble_eq_true rfl, Nat.le_of_ble_eq_true rfl⟩ ⟨Nat.zero_le _, Nat.zero_le _⟩ (Nat.le_of_ble_eq_true rfl)  (by decide) (by decide) (by first | assumption | omega) dX0_digestRegistry_94 (fun H locs hP hD hS => ?_)
  refine lv_i2l hx hb dX0_digestRegistry_97 rfl ?_
  refine k_X0_mix hC hl.1 ⟨Nat.le_of_ble_eq_true rfl, Nat.le_of_ble_eq_true rfl⟩ ⟨Nat.zero_le _, Nat.zero_le _⟩ (Nat.le_of_ble_eq_true rfl)   dX0_digestRegistry_98 ?_
  refine lv_lstore_n (lv' := [(1, .long (sp_mix (sp_mix (sp_mix (sp_mix (sp_mix (sp_mix (sp_mix (sp_mix (sp_mix (sp_mix d (nt.toInt64)) ((nI n).toInt64)) ((sp_cnt lv n).toInt64)) ((nI w).toInt64)) ((sp_shk nv w).toInt64)) (fu.toInt64)) (re.toInt64)) ((nI k).toInt64)) ((sp_cert mi k).toInt64)) ((sp_mid du nv 20 ta w).toInt64))), (0, .ref (a 0))]) hx hb dX0_digestRegistry_101 rfl hl (by decide) rfl (fun ls hl => ?_)
  refine lv_lload_n hx hb dX0_digestRegistry_102 rfl (lv_at hl 0 rfl) ?_
  refine lv_aload_n hx hb dX0_digestRegistry_103 rfl (lv_at hl 1 rfl) ?_
  refine lv_bipush (v := 10) hx hb dX0_digestRegistry_104 (by decide) ?_
  refine k_X0_missesUntilShaken hC hK hP hl.1 ⟨Nat.le_of_ble_eq_true rfl, Nat.le_of_ble_eq_true rfl⟩ ⟨Nat.zero_le _, Nat.zero_le _⟩ (Nat.le_of_ble_eq_true rfl)  (by decide) (by decide) (by first | assumption | omega) dX0_digestRegistry_106 ?_
  refine lv_i2l hx hb dX0_digestRegistry_109 rfl ?_
  refine k_X0_mix hC hl.1 ⟨Nat.le_of_ble_eq_true rfl, Nat.le_of_ble_eq_true rfl⟩ ⟨Nat.zero_le _, Nat.zero_le _⟩ (Nat.le_of_ble_eq_true rfl)   dX0_digestRegistry_110 ?_
  refine lv_lstore_n (lv' := [(1, .long (sp_mix (sp_mix (sp_mix (sp_mix (sp_mix (sp_mix (sp_mix (sp_mix (sp_mix (sp_mix (sp_mix d (nt.toInt64)) ((nI n).toInt64)) ((sp_cnt lv n).toInt64)) ((nI w).toInt64)) ((sp_shk nv w).toInt64)) (fu.toInt64)) (re.toInt64)) ((nI k).toInt64)) ((sp_cert mi k).toInt64)) ((sp_mid du nv 20 ta w).toInt64)) ((sp_mus nv du w 10).toInt64))), (0, .ref (a 0))]) hx hb dX0_digestRegistry_113 rfl hl (by decide) rfl (fun ls hl => ?_)
  refine lv_lload_n hx hb dX0_digestRegistry_114 rfl (lv_at hl 0 rfl) ?_
  refine lv_aload_n hx hb dX0_digestRegistry_115 rfl (lv_at hl 1 rfl) ?_
  refine k_X0_nightsUntilCalm hC hK hP hl.1 ⟨Nat.le_of_ble_eq_true rfl, Nat.le_of_ble_eq_true rfl⟩ ⟨Nat.zero_le _, Nat.zero_le _⟩ (Nat.le_of_ble_eq_true rfl)  (by first | assumption | omega) dX0_digestRegistry_116 ?_
  refine lv_i2l hx hb dX0_digestRegistry_119 rfl ?_
  refine k_X0_mix hC hl.1 ⟨Nat.le_of_ble_eq_true rfl, Nat.le_of_ble_eq_true rfl⟩ ⟨Nat.zero_le _, Nat.zero_le _⟩ (Nat.le_of_ble_eq_true rfl)   dX0_digestRegistry_120 ?_
  refine lv_lstore_n (lv' := [(1, .long (sp_mix (sp_mix (sp_mix (sp_mix (sp_mix (sp_mix (sp_mix (sp_mix (sp_mix (sp_mix (sp_mix (sp_mix d (nt.toInt64)) ((nI n).toInt64)) ((sp_cnt lv n).toInt64)) ((nI w).toInt64)) ((sp_shk nv w).toInt64)) (fu.toInt64)) (re.toInt64)) ((nI k).toInt64)) ((sp_cert mi k).toInt64)) ((sp_mid du nv 20 ta w).toInt64)) ((sp_mus nv du w 10).toInt64)) ((sp_nuc nv du w).toInt64))), (0, .ref (a 0))]) hx hb dX0_digestRegistry_123 rfl hl (by decide) rfl (fun ls hl => ?_)
  refine lv_lload_n hx hb dX0_digestRegistry_124 rfl (lv_at hl 0 rfl) ?_
  refine lv_aload_n hx hb dX0_digestRegistry_125 rfl (lv_at hl 1 rfl) ?_
  refine k_X0_steadiest hC hK hP hl.1 ⟨Nat.le_of_ble_eq_true rfl, Nat.le_of_ble_eq_true rfl⟩ ⟨Nat.zero_le _, Nat.zero_le _⟩ (Nat.le_of_ble_eq_true rfl)  (by first | assumption | omega) dX0_digestRegistry_126 ?_
  refine lv_i2l hx hb dX0_digestRegistry_129 rfl ?_
  refine k_X0_mix hC hl.1 ⟨Nat.le_of_ble_eq_true rfl, Nat.le_of_ble_eq_true rfl⟩ ⟨Nat.zero_le _, Nat.zero_le _⟩ (Nat.le_of_ble_eq_true rfl)   dX0_digestRegistry_130 ?_
  refine lv_lstore_n (lv' := [(1, .long (sp_mix (sp_mix (sp_mix (sp_mix (sp_mix (sp_mix (sp_mix (sp_mix (sp_mix (sp_mix (sp_mix (sp_mix (sp_mix d (nt.toInt64)) ((nI n).toInt64)) ((sp_cnt lv n).toInt64)) ((nI w).toInt64)) ((sp_shk nv w).toInt64)) (fu.toInt64)) (re.toInt64)) ((nI k).toInt64)) ((sp_cert mi k).toInt64)) ((sp_mid du nv 20 ta w).toInt64)) ((sp_mus nv du w 10).toInt64)) ((sp_nuc nv du w).toInt64)) (((sp_best du nv w).1).toInt64))), (0, .ref (a 0))]) hx hb dX0_digestRegistry_133 rfl hl (by decide) rfl (fun ls hl => ?_)
  refine lv_lload_n hx hb dX0_digestRegistry_134 rfl (lv_at hl 0 rfl) ?_
  refine lv_aload_n hx hb dX0_digestRegistry_135 rfl (lv_at hl 1 rfl) ?_
  refine k_X0_luckiest hC hK hP hl.1 ⟨Nat.le_of_ble_eq_true rfl, Nat.le_of_ble_eq_true rfl⟩ ⟨Nat.zero_le _, Nat.zero_le _⟩ (Nat.le_of_ble_eq_true rfl)  (by first | assumption | omega) dX0_digestRegistry_136 ?_
  refine lv_i2l hx hb dX0_digestRegistry_139 rfl ?_
  refine k_X0_mix hC hl.1 ⟨Nat.le_of_ble_eq_true rfl, Nat.le_of_ble_eq_true rfl⟩ ⟨Nat.zero_le _, Nat.zero_le _⟩ (Nat.le_of_ble_eq_true rfl)   dX0_digestRegistry_140 ?_
  exact W.lret (v := sp_mix (sp_mix (sp_mix (sp_mix (sp_mix (sp_mix (sp_mix (sp_mix (sp_mix (sp_mix (sp_mix (sp_mix (sp_mix (sp_mix d (nt.toInt64)) ((nI n).toInt64)) ((sp_cnt lv n).toInt64)) ((nI w).toInt64)) ((sp_shk nv w).toInt64)) (fu.toInt64)) (re.toInt64)) ((nI k).toInt64)) ((sp_cert mi k).toInt64)) ((sp_mid du nv 20 ta w).toInt64)) ((sp_mus nv du w 10).toInt64)) ((sp_nuc nv du w).toInt64)) (((sp_best du nv w).1).toInt64)) (((sp_best lv lk n).1).toInt64)) hx hb hr (fun t ht hW => ⟨⟨sp_mix (sp_mix (sp_mix (sp_mix (sp_mix (sp_mix (sp_mix (sp_mix (sp_mix (sp_mix (sp_mix (sp_mix (sp_mix (sp_mix d (nt.toInt64)) ((nI n).toInt64)) ((sp_cnt lv n).toInt64)) ((nI w).toInt64)) ((sp_shk nv w).toInt64)) (fu.toInt64)) (re.toInt64)) ((nI k).toInt64)) ((sp_cert mi k).toInt64)) ((sp_mid du nv 20 ta w).toInt64)) ((sp_mus nv du w 10).toInt64)) ((sp_nuc nv du w).toInt64)) (((sp_best du nv w).1).toInt64)) (((sp_best lv lk n).1).toInt64), (), rfl, (by unfold sp_dreg; rfl), by rw [ht]; exact hP, va_K.moved hW.alike hK, hD⟩, hS.F ht⟩) hS.2.2 dX0_digestRegistry_143
set_option maxRecDepth 100000 in
theorem k_X0_digestRegistry {p : Program} {l : Launch} {e : Env} {R : Room} {s : State} {m : MethodId} {args : Array Value} {below : List Frame} {meth : Method} {c : Code} {H : Heap} {locs : List Loc} {cells slots : Nat} {Q : State → Prop} {D : va_G} {z : ClassId × ClassId} {a : Nat → Nat} {lv lk pu fa he : Nat → Int32} {n : Nat} {nv du ta : Nat → Int32} {w : Nat} {mp mi : Nat → Int32} {k : Nat} {nt fu re : Int32} {cc : ByteArray} {nL pc : Nat} {ls : Array Slot} {rest : List Value} {A : Nat → Prop} {H0 : Heap} (hC : CallFix p m c cc nL s args lw_all RX0) (hK : kK D z s) (hP : va_P D vwCl (xW z a lv lk pu fa he n nv du ta w mp mi k nt fu re) H) (hD : va_D A (xW z a lv lk pu fa he n nv du ta w mp mi k nt fu re)) (hS : va_S A H0 H locs) (hA : ∀ q : Nat, H0.size ≤ q → A q) (hl : ls.size = nL) (hR : 5 ≤ R.frames ∧ 109 ≤ R.locals) (hz : cells ≤ R.cells ∧ slots ≤ R.slots) (hr : (rest.map fun v => v.category).sum ≤ 8) {d : Int64}  (hn : n ≤ 10) (hw : w ≤ 6) (hk : k ≤ 60) (hdg : decode cc pc = .ok (.invokevirtual 165, 3)) (kk : ∀ (H1 : Heap) (locs1 : List Loc), va_P D vwCl (xW z a lv lk pu fa he n nv du (sp_tarr du nv 20 ta w) w mp mi k nt fu re) H1 → va_D A (xW z a lv lk pu fa he n nv du (sp_tarr du nv 20 ta w) w mp mi k nt fu re) → va_S A H0 H1 locs1 → W p l e R s m args below meth c H1 locs1 cells slots Q (F0 m (pc + 3) ls (.long (sp_dreg lv lk n nv du ta w mi k nt fu re d) :: rest))) : W p l e R s m args below meth c H locs cells slots Q (F0 m pc ls (.long d :: .ref (a 0) :: rest)) := by
  have hF := va_free (wc := xW z a lv lk pu fa he n nv du ta w mp mi k nt fu re) hD hS hA [0, 1, 2, 3, 4, 5, 6, 7, 8, 9, 10] rfl
  refine va_calll (va_runV (As := [.long d]) (rest := rest) hC (c_X0_digestRegistry l H.size d hn hw hk) (cwV 1 hC.2.2.2.2 (gi_V mM_X0_165 mV_X0_digestRegistry mS_X0_digestRegistry mI_MissRegistry mC_X0_digestRegistry) rfl rfl rfl (by decide +kernel) hR) ⟨fun a1 U g mk q => ⟨q.1, q.2.1, ⟨q.2.2.1.1, va_K.moved (u := U) (U := U.calling g mk a1) (Vm.Alike.refl U.vm) q.2.2.1.2⟩, q.2.2.2⟩, va_recv hK hP (ci := 0) (q0 := 0) rfl rfl, fun U hU hW => ⟨rfl, by rw [hU], ⟨by rw [hU]; exact hP, va_K.moved hW.alike hK⟩, hD.weaken (fun _ _ _ _ => trivial)⟩⟩ rfl rfl hl rfl (lv_room hr) hdg hz) hS (fun q _ h => hF q h) hF (fun r u t H1 locs1 ht hvm hw hB hz1 hk1 hS1 => ?_)
  obtain ⟨hP1, hK1, hD1⟩ := hB
  rw [ht] at hP1
  have hw : r = sp_dreg lv lk n nv du ta w mi k nt fu re d := hw
  rw [hw]
  exact kk H1 locs1 hP1 (hD1.weaken (fun _ q9 _ h => hF q9.1 h)) hS1
set_option maxHeartbeats 4000000 in
set_option maxRecDepth 100000 in
theorem c_X0_digest (l : Launch) (sz : Nat) {D : va_G} {z : ClassId × ClassId} {a : Nat → Nat} {lv lk pu fa he : Nat → Int32} {n : Nat} {nv du ta : Nat → Int32} {w : Nat} {mp mi : Nat → Int32} {k : Nat} {nt fu re : Int32} {q9 t9 : Nat → Nat} (hn : n ≤ 10) (hw : w ≤ 6) (hk : k ≤ 60) (h01 : ∀ i : Nat, i < n → lv i = 0 ∨ lv i = 1) : Met l yX0_digest (ws_ yX0_digest cX0_digest 4 (some .long)) ({ frames := 8, cells := 0, slots := 0, locals := 173 } : Room) (va_Pc [.ref (a 0)] (fun U => U.heap.size = sz ∧ xI D z a lv lk pu fa he n nv du ta w mp mi k nt fu re U ∧ va_D (fun _ => True) (xW z a lv lk pu fa he n nv du ta w mp mi k nt fu re) ∧ cH q9 t9 (va_A (xW z a lv lk pu fa he n nv du ta w mp mi k nt fu re) sz) U U.heap)) (va_Ql (fun (r : Int64) (_ : Unit) => r = sp_dlast mp mi k (sp_dwit nv du (sp_dpers lv lk pu fa he n mp mi k (sp_dreg lv lk n nv du ta w mi k nt fu re 1951) n) w)) (fun _ t9 => va_P D vwCl (xW z a lv lk pu fa he n nv du (sp_tarr du nv 20 ta w) w mp mi k nt fu re) t9.heap ∧ kK D z t9 ∧ va_D (va_A (xW z a lv lk pu fa he n nv du ta w mp mi k nt fu re) sz) (xW z a lv lk pu fa he n nv du (sp_tarr du nv 20 ta w) w mp mi k nt fu re)) (va_A (xW z a lv lk pu fa he n nv du ta w mp mi k nt fu re) sz)) 0 0 (va_A (xW z a lv lk pu fa he n nv du ta w mp mi k nt fu re) sz) := by
  refine Met.ofW (cc := cX0_digest) (maxL := 4) (ret := (some .long)) (by decide) rfl ?_
  intro p e s m args below meth c s₁ B hml hv
  obtain ⟨rfl, hsz, ⟨hP, hK⟩, hD0, hE⟩ := hv
  have hx := B.exec
  have hb := B.bytes
  have hr := B.returns
  have hts := atoms_spec (ws := ws_ yX0_digest cX0_digest 4 (some .long)) B.pre
  have hts : ∀ w ∈ lw_all, w.before _ s = true := fun w h => hts w (List.mem_cons_of_mem _ h)
  have hown : s.vm.findClass RX0 = some m.cls := findClass_of_methodNamed B.named
  have hlocks := B.notSynchronized
  have hC : CallFix p m c cX0_digest 4 s _ lw_all RX0 := ⟨hx, hb, hml, hown, hts⟩
  subst hsz
  have hD := hD0.self (sz := s.heap.size)
  generalize hAe : va_A (xW z a lv lk pu fa he n nv du ta w mp mi k nt fu re) s.heap.size = A at hD hE ⊢
  have hA : ∀ q : Nat, s.heap.size ≤ q → A q := fun q h => by rw [← hAe]; exact Or.inr h
  have hS : va_S A s.heap s.heap [] := va_S.rf
  have hl := lv_entry ([.ref (a 0)]) (n := 4) (Nat.le_of_ble_eq_true rfl)
  rw [lg_entry_eq]
  generalize (lg_sl ([.ref (a 0)]) ++ List.replicate (4 - (lg_sl ([.ref (a 0)])).length) Slot.unset).toArray = ls at hl ⊢
  have hl : lv_has ls 4 [(0, .ref (a 0))] := hl
  refine lv_aload_n hx hb dX0_digest_0 rfl (lv_at hl 0 rfl) ?_
  refine lv_ldc2 (v := 1951) hx hb hown (hts _ mL_X0_163) dX0_digest_1 ?_
  refine k_X0_digestRegistry hC hK hP hD hS hA hl.1 ⟨Nat.le_of_ble_eq_true rfl, Nat.le_of_ble_eq_true rfl⟩ ⟨Nat.zero_le _, Nat.zero_le _⟩ (Nat.le_of_ble_eq_true rfl)  (by first | assumption | omega) (by first | assumption | omega) (by first | assumption | omega) dX0_digest_4 (fun H locs hP hD hS => ?_)
  refine lv_lstore_n (lv' := [(1, .long (sp_dreg lv lk n nv du ta w mi k nt fu re 1951)), (0, .ref (a 0))]) hx hb dX0_digest_7 rfl hl (by decide) rfl (fun ls hl => ?_)
  refine lv_iconst (v := 0) hx hb dX0_digest_8 (by decide) ?_
  refine lv_istore_n (lv' := [(3, .int 0), (1, .long (sp_dreg lv lk n nv du ta w mi k nt fu re 1951)), (0, .ref (a 0))]) hx hb dX0_digest_9 rfl hl (by decide) rfl (fun ls hl => ?_)
  have loop_10 : ∀ (f : Nat) (j : Nat) (d : Int64), j ≤ n → n + 1 ≤ j + f → d = sp_dpers lv lk pu fa he n mp mi k (sp_dreg lv lk n nv du ta w mi k nt fu re 1951) j → ∀ (H : Heap) (locs : List Loc), va_P D vwCl (xW z a lv lk pu fa he n nv du (sp_tarr du nv 20 ta w) w mp mi k nt fu re) H → va_D A (xW z a lv lk pu fa he n nv du (sp_tarr du nv 20 ta w) w mp mi k nt fu re) → va_S A s.heap H locs → ∀ ls : Array Slot, lv_has ls 4 [(0, .ref (a 0)), (1, .long d), (3, .int (nI j))] → W p l e ({ frames := 8, cells := 0, slots := 0, locals := 173 } : Room) s m ([.ref (a 0)] : List Value).toArray below meth c H locs 0 0 (MQ below (va_Ql (fun (r : Int64) (_ : Unit) => r = sp_dlast mp mi k (sp_dwit nv du (sp_dpers lv lk pu fa he n mp mi k (sp_dreg lv lk n nv du ta w mi k nt fu re 1951) n) w)) (fun _ t9 => va_P D vwCl (xW z a lv lk pu fa he n nv du (sp_tarr du nv 20 ta w) w mp mi k nt fu re) t9.heap ∧ kK D z t9 ∧ va_D A (xW z a lv lk pu fa he n nv du (sp_tarr du nv 20 ta w) w mp mi k nt fu re)) A) ([.ref (a 0)] : List Value).toArray s 0 0 A) (F0 m 10 ls []) := by
    intro f
    induction f with
    | zero =>
      intro j d hj hf ed
      exact absurd hf (by omega)
    | succ f ih10 =>
      intro j d hj hf ed H locs hP hD hS ls hl
      refine lv_iload_n hx hb dX0_digest_10 rfl (lv_at hl 2 rfl) ?_
      refine lv_aload_n hx hb dX0_digest_11 rfl (lv_at hl 0 rfl) ?_
      refine xg_n hC hK hP dX0_digest_12 ?_
      refine lv_icmp_ge (tgt := 31) hx hb dX0_digest_15 (by decide) (fun c_15 => ?_) (fun c_15 => ?_)
      · have nc_15 : n ≤ j := nn_le (by omega) c_15
        refine lv_iconst (v := 0) hx hb dX0_digest_31 (by decide) ?_
        refine lv_istore_n (lv' := [(3, .int 0), (0, .ref (a 0)), (1, .long d)]) hx hb dX0_digest_32 rfl hl (by decide) rfl (fun ls hl => ?_)
        have loop_33 : ∀ (f : Nat) (i : Nat) (g : Int64), i ≤ w → w + 1 ≤ i + f → g = sp_dwit nv du (sp_dpers lv lk pu fa he n mp mi k (sp_dreg lv lk n nv du ta w mi k nt fu re 1951) n) i → ∀ (H : Heap) (locs : List Loc), va_P D vwCl (xW z a lv lk pu fa he n nv du (sp_tarr du nv 20 ta w) w mp mi k nt fu re) H → va_D A (xW z a lv lk pu fa he n nv du (sp_tarr du nv 20 ta w) w mp mi k nt fu re) → va_S A s.heap H locs → ∀ ls : Array Slot, lv_has ls 4 [(0, .ref (a 0)), (1, .long g), (3, .int (nI i))] → W p l e ({ frames := 8, cells := 0, slots := 0, locals := 173 } : Room) s m ([.ref (a 0)] : List Value).toArray below meth c H locs 0 0 (MQ below (va_Ql (fun (r : Int64) (_ : Unit) => r = sp_dlast mp mi k (sp_dwit nv du (sp_dpers lv lk pu fa he n mp mi k (sp_dreg lv lk n nv du ta w mi k nt fu re 1951) n) w)) (fun _ t9 => va_P D vwCl (xW z a lv lk pu fa he n nv du (sp_tarr du nv 20 ta w) w mp mi k nt fu re) t9.heap ∧ kK D z t9 ∧ va_D A (xW z a lv lk pu fa he n nv du (sp_tarr du nv 20 ta w) w mp mi k nt fu re)) A) ([.ref (a 0)] : List Value).toArray s 0 0 A) (F0 m 33 ls []) := by
          intro f
          induction f with
          | zero =>
            intro i g hi hf2 eg
            exact absurd hf2 (by omega)
          | succ f ih33 =>
            intro i g hi hf2 eg H locs hP hD hS ls hl
            refine lv_iload_n hx hb dX0_digest_33 rfl (lv_at hl 2 rfl) ?_
            refine lv_aload_n hx hb dX0_digest_34 rfl (lv_at hl 0 rfl) ?_
            refine xg_w hC hK hP dX0_digest_35 ?_
            refine lv_icmp_ge (tgt := 74) hx hb dX0_digest_38 (by decide) (fun c_38 => ?_) (fun c_38 => ?_)
            · have nc_38 : w ≤ i := nn_le (by omega) c_38
              refine lv_aload_n hx hb dX0_digest_74 rfl (lv_at hl 0 rfl) ?_
              refine lv_lload_n hx hb dX0_digest_75 rfl (lv_at hl 1 rfl) ?_
              refine k_X0_digestLatestMiss hC hK hP (hE.at hS) hl.1 ⟨Nat.le_of_ble_eq_true rfl, Nat.le_of_ble_eq_true rfl⟩ ⟨Nat.zero_le _, Nat.zero_le _⟩ (Nat.le_of_ble_eq_true rfl)  (by first | assumption | omega) dX0_digest_76 ?_
              exact W.lret (v := sp_dlast mp mi k g) hx hb hr (fun t ht hW => ⟨⟨sp_dlast mp mi k g, (), rfl, (by rw [eg, show i = w by omega]), by rw [ht]; exact hP, va_K.moved hW.alike hK, hD⟩, hS.F ht⟩) hS.2.2 dX0_digest_79
            · have nc_38 : i < w := nn_nle (by omega) c_38
              refine lv_lload_n hx hb dX0_digest_41 rfl (lv_at hl 1 rfl) ?_
              refine lv_aload_n hx hb dX0_digest_42 rfl (lv_at hl 0 rfl) ?_
              refine xg_nv hC hK hP dX0_digest_43 ?_
              refine lv_iload_n hx hb dX0_digest_46 rfl (lv_at hl 2 rfl) ?_
              refine xl_nv hC hK hP i rfl (by omega) dX0_digest_47 ?_
              refine lv_i2l hx hb dX0_digest_48 rfl ?_
              refine k_X0_mix hC hl.1 ⟨Nat.le_of_ble_eq_true rfl, Nat.le_of_ble_eq_true rfl⟩ ⟨Nat.zero_le _, Nat.zero_le _⟩ (Nat.le_of_ble_eq_true rfl)   dX0_digest_49 ?_
              refine lv_lstore_n (lv' := [(1, .long (sp_mix g ((nv i).toInt64))), (0, .ref (a 0)), (3, .int (nI i))]) hx hb dX0_digest_52 rfl hl (by decide) rfl (fun ls hl => ?_)
              refine lv_lload_n hx hb dX0_digest_53 rfl (lv_at hl 0 rfl) ?_
              refine lv_aload_n hx hb dX0_digest_54 rfl (lv_at hl 1 rfl) ?_
              refine xg_du hC hK hP dX0_digest_55 ?_
              refine lv_iload_n hx hb dX0_digest_58 rfl (lv_at hl 2 rfl) ?_
              refine xl_du hC hK hP i rfl (by omega) dX0_digest_59 ?_
              refine k_X0_asNumber hC hl.1 ⟨Nat.le_of_ble_eq_true rfl, Nat.le_of_ble_eq_true rfl⟩ ⟨Nat.zero_le _, Nat.zero_le _⟩ (Nat.le_of_ble_eq_true rfl)   dX0_digest_60 ?_
              refine lv_i2l hx hb dX0_digest_63 rfl ?_
              refine k_X0_mix hC hl.1 ⟨Nat.le_of_ble_eq_true rfl, Nat.le_of_ble_eq_true rfl⟩ ⟨Nat.zero_le _, Nat.zero_le _⟩ (Nat.le_of_ble_eq_true rfl)   dX0_digest_64 ?_
              refine lv_lstore_n (lv' := [(1, .long (sp_mix (sp_mix g ((nv i).toInt64)) ((sp_bit (du i)).toInt64))), (0, .ref (a 0)), (3, .int (nI i))]) hx hb dX0_digest_67 rfl hl (by decide) rfl (fun ls hl => ?_)
              refine lv_iinc (v := nI (i + 1)) (lv' := [(3, .int (nI (i + 1))), (1, .long (sp_mix (sp_mix g ((nv i).toInt64)) ((sp_bit (du i)).toInt64))), (0, .ref (a 0))]) hx hb dX0_digest_68 hl (k := 2) rfl (nI_1 _) (by decide) rfl (fun ls hl => ?_)
              refine lv_goto (tgt := 33) hx hb dX0_digest_71 (by decide) ?_
              exact ih33 (i + 1) (sp_mix (sp_mix g ((nv i).toInt64)) ((sp_bit (du i)).toInt64)) (by omega) (by omega) (by rw [eg]; rfl) _ _ hP hD hS _ (lv_sub hl [2, 1, 0] rfl)
        exact loop_33 (w + 1) 0 d (Nat.zero_le _) (by omega) (by rw [ed, show j = n by omega]; rfl) _ _ hP hD hS _ (lv_sub hl [1, 2, 0] rfl)
      · have nc_15 : j < n := nn_nle (by omega) c_15
        refine lv_aload_n hx hb dX0_digest_18 rfl (lv_at hl 0 rfl) ?_
        refine lv_lload_n hx hb dX0_digest_19 rfl (lv_at hl 1 rfl) ?_
        refine lv_iload_n hx hb dX0_digest_20 rfl (lv_at hl 2 rfl) ?_
        refine k_X0_digestPerson hC hK hP hl.1 ⟨Nat.le_of_ble_eq_true rfl, Nat.le_of_ble_eq_true rfl⟩ ⟨Nat.zero_le _, Nat.zero_le _⟩ (Nat.le_of_ble_eq_true rfl) rfl (by first | assumption | omega) (by first | assumption | omega) (by first | assumption | omega) (h01 j nc_15) dX0_digest_21 ?_
        refine lv_lstore_n (lv' := [(1, .long (sp_dper lv lk pu fa he n mp mi k j d)), (0, .ref (a 0)), (3, .int (nI j))]) hx hb dX0_digest_24 rfl hl (by decide) rfl (fun ls hl => ?_)
        refine lv_iinc (v := nI (j + 1)) (lv' := [(3, .int (nI (j + 1))), (1, .long (sp_dper lv lk pu fa he n mp mi k j d)), (0, .ref (a 0))]) hx hb dX0_digest_25 hl (k := 2) rfl (nI_1 _) (by decide) rfl (fun ls hl => ?_)
        refine lv_goto (tgt := 10) hx hb dX0_digest_28 (by decide) ?_
        exact ih10 (j + 1) (sp_dper lv lk pu fa he n mp mi k j d) (by omega) (by omega) (by rw [ed]; rfl) _ _ hP hD hS _ (lv_sub hl [2, 1, 0] rfl)
  exact loop_10 (n + 1) 0 (sp_dreg lv lk n nv du ta w mi k nt fu re 1951) (Nat.zero_le _) (by omega) rfl _ _ hP hD hS _ (lv_sub hl [2, 1, 0] rfl)

/-- a text in the heap: its object, its row of bytes, how many, and what they are -/
def sH (q t N : Nat) (f : Nat → Int32) (A : Nat → Prop) (U : State) (H : Heap) : Prop := va_O "java/lang/String" q A U H ∧ va_OF "java/lang/String" "coder" "B" (.int 0) q A U H ∧ va_OF "java/lang/String" "value" "[B" (.ref t) q A U H ∧ va_T .byte t N (fun j => .int (f j)) A U H
theorem sH.moved {q t N : Nat} {f : Nat → Int32} {A : Nat → Prop} {u U : State} {H : Heap} (hvm : u.vm.Alike U.vm) (h : sH q t N f A u H) : sH q t N f A U H := ⟨va_O.moved hvm h.1, va_OF.moved hvm h.2.1, va_OF.moved hvm h.2.2.1, va_T.moved hvm h.2.2.2⟩
theorem sH.kept {q t N : Nat} {f : Nat → Int32} {A : Nat → Prop} {U : State} {H H1 : Heap} (h : sH q t N f A U H) (hq : ∀ a : Nat, a < H.size → ¬ A a → H1[a]? = H[a]?) : sH q t N f A U H1 := ⟨h.1.kept hq, h.2.1.kept hq, h.2.2.1.kept hq, h.2.2.2.kept hq⟩
theorem sH.narrow {q t N : Nat} {f : Nat → Int32} {A B : Nat → Prop} {U : State} {H : Heap} (h : sH q t N f A U H) (hAB : ∀ q, B q → A q) : sH q t N f B U H := ⟨h.1.narrow hAB, h.2.1.narrow hAB, h.2.2.1.narrow hAB, h.2.2.2.narrow hAB⟩
/-- the two statics of the JDK that charAt reads -/
def jH (A : Nat → Prop) (U : State) (H : Heap) : Prop := va_Z "java/lang/String" "COMPACT_STRINGS" "Z" (.int 1) A U H ∧ va_Zq "jdk/internal/util/Preconditions" "SIOOBE_FORMATTER" "Ljava/util/function/BiFunction;" A U H
theorem jH.moved {A : Nat → Prop} {u U : State} {H : Heap} (hvm : u.vm.Alike U.vm) (h : jH A u H) : jH A U H := ⟨va_Z.moved hvm h.1, va_Zq.moved hvm h.2⟩
theorem jH.kept {A : Nat → Prop} {U : State} {H H1 : Heap} (h : jH A U H) (hq : ∀ a : Nat, a < H.size → ¬ A a → H1[a]? = H[a]?) : jH A U H1 := ⟨h.1.kept hq, h.2.kept hq⟩
theorem jH.narrow {A B : Nat → Prop} {U : State} {H : Heap} (h : jH A U H) (hAB : ∀ q, B q → A q) : jH B U H := ⟨h.1.narrow hAB, h.2.narrow hAB⟩
abbrev nA : Nat → Prop := fun _ => False
def sp_txt (f : Nat → Int32) (x : Int32) : Nat → Int32
  | 0 => x
  | j + 1 => sp_txt f x j * 31 + (f j &&& 255)

set_option maxHeartbeats 4000000 in
set_option maxRecDepth 100000 in
theorem c_J0_coder_7d493 (l : Launch) {q t9 N : Nat} {f9 : Nat → Int32}  : Met l yJ0_coder_7d493 (ws_ yJ0_coder_7d493 cJ0_coder_7d493 1 (some .byte)) ({ frames := 0, cells := 0, slots := 0, locals := 0 } : Room) (va_Pc [.ref q] (fun U => sH q t9 N f9 nA U U.heap ∧ jH nA U U.heap)) (vp_Si (fun r : Int32 => r = 0)) 0 0 (fun _ => False) := by
  refine Met.ofW (cc := cJ0_coder_7d493) (maxL := 1) (ret := (some .byte)) (by decide) rfl ?_
  intro p e s m args below meth c s₁ B hml hv
  obtain ⟨rfl, hE, hJ⟩ := hv
  have hx := B.exec
  have hb := B.bytes
  have hr := B.returns
  have hts := atoms_spec (ws := ws_ yJ0_coder_7d493 cJ0_coder_7d493 1 (some .byte)) B.pre
  have hts : ∀ w ∈ lw_all, w.before _ s = true := fun w h => hts w (List.mem_cons_of_mem _ h)
  have hown : s.vm.findClass RJ0 = some m.cls := findClass_of_methodNamed B.named
  have hlocks := B.notSynchronized
  have hC : CallFix p m c cJ0_coder_7d493 1 s _ lw_all RJ0 := ⟨hx, hb, hml, hown, hts⟩
  have hl := lv_entry ([.ref q]) (n := 1) (Nat.le_of_ble_eq_true rfl)
  rw [lg_entry_eq]
  generalize (lg_sl ([.ref q]) ++ List.replicate (1 - (lg_sl ([.ref q])).length) Slot.unset).toArray = ls at hl ⊢
  have hl : lv_has ls 1 [(0, .ref q)] := hl
  refine va_gets hx hb hJ.1 (va_S.rf (A := nA) (H0 := s.heap)) hown (hts _ mF_J0_38) (fun _ h9 => h9) dJ0_coder_7d493_0 ?_
  refine lv_if_eq (tgt := 13) hx hb dJ0_coder_7d493_3 (by decide) (fun c_3 => ?_) (fun c_3 => ?_)
  · exact absurd c_3 (by decide)
  · refine lv_aload_n hx hb dJ0_coder_7d493_6 rfl (lv_at hl 0 rfl) ?_
    refine vk_getf hx hb hE.2.1 (va_S.rf (A := nA) (H0 := s.heap)) hown (hts _ mF_J0_15) (fun _ h9 => h9) dJ0_coder_7d493_7 ?_
    refine lv_goto (tgt := 14) hx hb dJ0_coder_7d493_10 (by decide) ?_
    exact W.zret (v := 0) hx hb hr (by decide) (fun t ht hW => ⟨0, rfl, rfl, ht⟩) (fun q hq => absurd hq List.not_mem_nil) dJ0_coder_7d493_14
set_option maxRecDepth 100000 in
theorem k_J0_coder_7d493 {p : Program} {l : Launch} {e : Env} {R : Room} {s : State} {m : MethodId} {args : Array Value} {below : List Frame} {meth : Method} {c : Code} {H : Heap} {locs : List Loc} {cells slots : Nat} {Q : State → Prop} {cc : ByteArray} {nL pc : Nat} {ls : Array Slot} {rest : List Value} {q t9 N : Nat} {f9 : Nat → Int32} {own : String} {idx : Nat} (hC : CallFix p m c cc nL s args lw_all own) (hk : Cond.methodLink own idx yJ0_coder_7d493 ∈ lw_all) (hE : sH q t9 N f9 nA s H) (hJ : jH nA s H) (hl : ls.size = nL) (hR : 1 ≤ R.frames ∧ 20 ≤ R.locals) (hz : cells ≤ R.cells ∧ slots ≤ R.slots) (hr : (rest.map fun v => v.category).sum ≤ 8) (hdg : decode cc pc = .ok (.invokevirtual idx, 3)) (kk : W p l e R s m args below meth c H locs cells slots Q (F0 m (pc + 3) ls (.int 0 :: rest))) : W p l e R s m args below meth c H locs cells slots Q (F0 m pc ls (.ref q :: rest)) :=
  vp_callSi (W.runV (As := []) (b := q) (rest := rest) hC (c_J0_coder_7d493 l ) (cwV 0 hC.2.2.2.2 (gi_V hk mV_J0_coder_7d493 mS_J0_coder_7d493 mI_String mC_J0_coder_7d493) rfl rfl rfl (by decide +kernel) hR) ⟨fun a1 U g mk q9 => ⟨q9.1, sH.moved (u := U) (U := U.calling g mk a1) (Vm.Alike.refl U.vm) q9.2.1, jH.moved (u := U) (U := U.calling g mk a1) (Vm.Alike.refl U.vm) q9.2.2⟩, (by obtain ⟨cell, h1, h2, h3, -⟩ := hE.1; exact ⟨cell, h1, h2, h3⟩), fun U hU hW => ⟨rfl, by rw [hU]; exact hE.moved hW.alike, by rw [hU]; exact hJ.moved hW.alike⟩⟩ rfl rfl hl rfl (lv_room hr) hdg hz) (fun r hr => by rw [hr]; exact kk)
set_option maxHeartbeats 4000000 in
set_option maxRecDepth 100000 in
theorem c_J0_isLatin1_aae02 (l : Launch) {q t9 N : Nat} {f9 : Nat → Int32}  : Met l yJ0_isLatin1_aae02 (ws_ yJ0_isLatin1_aae02 cJ0_isLatin1_aae02 1 (some .boolean)) ({ frames := 0, cells := 0, slots := 0, locals := 0 } : Room) (va_Pc [.ref q] (fun U => sH q t9 N f9 nA U U.heap ∧ jH nA U U.heap)) (vp_Si (fun r : Int32 => r = 1)) 0 0 (fun _ => False) := by
  refine Met.ofW (cc := cJ0_isLatin1_aae02) (maxL := 1) (ret := (some .boolean)) (by decide) rfl ?_
  intro p e s m args below meth c s₁ B hml hv
  obtain ⟨rfl, hE, hJ⟩ := hv
  have hx := B.exec
  have hb := B.bytes
  have hr := B.returns
  have hts := atoms_spec (ws := ws_ yJ0_isLatin1_aae02 cJ0_isLatin1_aae02 1 (some .boolean)) B.pre
  have hts : ∀ w ∈ lw_all, w.before _ s = true := fun w h => hts w (List.mem_cons_of_mem _ h)
  have hown : s.vm.findClass RJ0 = some m.cls := findClass_of_methodNamed B.named
  have hlocks := B.notSynchronized
  have hC : CallFix p m c cJ0_isLatin1_aae02 1 s _ lw_all RJ0 := ⟨hx, hb, hml, hown, hts⟩
  have hl := lv_entry ([.ref q]) (n := 1) (Nat.le_of_ble_eq_true rfl)
  rw [lg_entry_eq]
  generalize (lg_sl ([.ref q]) ++ List.replicate (1 - (lg_sl ([.ref q])).length) Slot.unset).toArray = ls at hl ⊢
  have hl : lv_has ls 1 [(0, .ref q)] := hl
  refine va_gets hx hb hJ.1 (va_S.rf (A := nA) (H0 := s.heap)) hown (hts _ mF_J0_38) (fun _ h9 => h9) dJ0_isLatin1_aae02_0 ?_
  refine lv_if_eq (tgt := 17) hx hb dJ0_isLatin1_aae02_3 (by decide) (fun c_3 => ?_) (fun c_3 => ?_)
  · exact absurd c_3 (by decide)
  · refine lv_aload_n hx hb dJ0_isLatin1_aae02_6 rfl (lv_at hl 0 rfl) ?_
    refine vk_getf hx hb hE.2.1 (va_S.rf (A := nA) (H0 := s.heap)) hown (hts _ mF_J0_15) (fun _ h9 => h9) dJ0_isLatin1_aae02_7 ?_
    refine lv_if_ne (tgt := 17) hx hb dJ0_isLatin1_aae02_10 (by decide) (fun c_10 => ?_) (fun c_10 => ?_)
    · exact absurd rfl c_10
    · refine lv_iconst (v := 1) hx hb dJ0_isLatin1_aae02_13 (by decide) ?_
      refine lv_goto (tgt := 18) hx hb dJ0_isLatin1_aae02_14 (by decide) ?_
      exact W.zret (v := 1) hx hb hr (by decide) (fun t ht hW => ⟨1, rfl, rfl, ht⟩) (fun q hq => absurd hq List.not_mem_nil) dJ0_isLatin1_aae02_18
set_option maxRecDepth 100000 in
theorem k_J0_isLatin1_aae02 {p : Program} {l : Launch} {e : Env} {R : Room} {s : State} {m : MethodId} {args : Array Value} {below : List Frame} {meth : Method} {c : Code} {H : Heap} {locs : List Loc} {cells slots : Nat} {Q : State → Prop} {cc : ByteArray} {nL pc : Nat} {ls : Array Slot} {rest : List Value} {q t9 N : Nat} {f9 : Nat → Int32} {own : String} {idx : Nat} (hC : CallFix p m c cc nL s args lw_all own) (hk : Cond.methodLink own idx yJ0_isLatin1_aae02 ∈ lw_all) (hE : sH q t9 N f9 nA s H) (hJ : jH nA s H) (hl : ls.size = nL) (hR : 1 ≤ R.frames ∧ 20 ≤ R.locals) (hz : cells ≤ R.cells ∧ slots ≤ R.slots) (hr : (rest.map fun v => v.category).sum ≤ 8) (hdg : decode cc pc = .ok (.invokevirtual idx, 3)) (kk : W p l e R s m args below meth c H locs cells slots Q (F0 m (pc + 3) ls (.int 1 :: rest))) : W p l e R s m args below meth c H locs cells slots Q (F0 m pc ls (.ref q :: rest)) :=
  vp_callSi (W.runV (As := []) (b := q) (rest := rest) hC (c_J0_isLatin1_aae02 l ) (cwV 0 hC.2.2.2.2 (gi_V hk mV_J0_isLatin1_aae02 mS_J0_isLatin1_aae02 mI_String mC_J0_isLatin1_aae02) rfl rfl rfl (by decide +kernel) hR) ⟨fun a1 U g mk q9 => ⟨q9.1, sH.moved (u := U) (U := U.calling g mk a1) (Vm.Alike.refl U.vm) q9.2.1, jH.moved (u := U) (U := U.calling g mk a1) (Vm.Alike.refl U.vm) q9.2.2⟩, (by obtain ⟨cell, h1, h2, h3, -⟩ := hE.1; exact ⟨cell, h1, h2, h3⟩), fun U hU hW => ⟨rfl, by rw [hU]; exact hE.moved hW.alike, by rw [hU]; exact hJ.moved hW.alike⟩⟩ rfl rfl hl rfl (lv_room hr) hdg hz) (fun r hr => by rw [hr]; exact kk)
set_option maxHeartbeats 4000000 in
set_option maxRecDepth 100000 in
theorem c_J0_length_8abf5 (l : Launch) {q t9 N : Nat} {f9 : Nat → Int32} (hN : N < 2 ^ 31) : Met l yJ0_length_8abf5 (ws_ yJ0_length_8abf5 cJ0_length_8abf5 1 (some .int)) ({ frames := 1, cells := 0, slots := 0, locals := 20 } : Room) (va_Pc [.ref q] (fun U => sH q t9 N f9 nA U U.heap ∧ jH nA U U.heap)) (vp_Si (fun r : Int32 => r = nI N)) 0 0 (fun _ => False) := by
  refine Met.ofW (cc := cJ0_length_8abf5) (maxL := 1) (ret := (some .int)) (by decide) rfl ?_
  intro p e s m args below meth c s₁ B hml hv
  obtain ⟨rfl, hE, hJ⟩ := hv
  have hx := B.exec
  have hb := B.bytes
  have hr := B.returns
  have hts := atoms_spec (ws := ws_ yJ0_length_8abf5 cJ0_length_8abf5 1 (some .int)) B.pre
  have hts : ∀ w ∈ lw_all, w.before _ s = true := fun w h => hts w (List.mem_cons_of_mem _ h)
  have hown : s.vm.findClass RJ0 = some m.cls := findClass_of_methodNamed B.named
  have hlocks := B.notSynchronized
  have hC : CallFix p m c cJ0_length_8abf5 1 s _ lw_all RJ0 := ⟨hx, hb, hml, hown, hts⟩
  have hl := lv_entry ([.ref q]) (n := 1) (Nat.le_of_ble_eq_true rfl)
  rw [lg_entry_eq]
  generalize (lg_sl ([.ref q]) ++ List.replicate (1 - (lg_sl ([.ref q])).length) Slot.unset).toArray = ls at hl ⊢
  have hl : lv_has ls 1 [(0, .ref q)] := hl
  refine lv_aload_n hx hb dJ0_length_8abf5_0 rfl (lv_at hl 0 rfl) ?_
  refine vk_getf hx hb hE.2.2.1 (va_S.rf (A := nA) (H0 := s.heap)) hown (hts _ mF_J0_9) (fun _ h9 => h9) dJ0_length_8abf5_1 ?_
  refine va_tlen hx hb hE.2.2.2 (va_S.rf (A := nA) (H0 := s.heap)) (v := nI N) rfl dJ0_length_8abf5_4 ?_
  refine lv_aload_n hx hb dJ0_length_8abf5_5 rfl (lv_at hl 0 rfl) ?_
  refine k_J0_coder_7d493 hC mM_J0_335 hE hJ hl.1 ⟨Nat.le_of_ble_eq_true rfl, Nat.le_of_ble_eq_true rfl⟩ ⟨Nat.zero_le _, Nat.zero_le _⟩ (Nat.le_of_ble_eq_true rfl) dJ0_length_8abf5_6 ?_
  refine lv_ishr hx hb dJ0_length_8abf5_9 ?_
  exact W.iret (v := (nI N) >>> (0 &&& 31)) hx hb hr (fun t ht hW => ⟨(nI N) >>> (0 &&& 31), rfl, (sc_shr0 hN), ht⟩) (fun q hq => absurd hq List.not_mem_nil) dJ0_length_8abf5_10
set_option maxRecDepth 100000 in
theorem k_J0_length_8abf5 {p : Program} {l : Launch} {e : Env} {R : Room} {s : State} {m : MethodId} {args : Array Value} {below : List Frame} {meth : Method} {c : Code} {H : Heap} {locs : List Loc} {cells slots : Nat} {Q : State → Prop} {cc : ByteArray} {nL pc : Nat} {ls : Array Slot} {rest : List Value} {q t9 N : Nat} {f9 : Nat → Int32} {own : String} {idx : Nat} (hC : CallFix p m c cc nL s args lw_all own) (hk : Cond.methodLink own idx yJ0_length_8abf5 ∈ lw_all) (hE : sH q t9 N f9 nA s H) (hJ : jH nA s H) (hN : N < 2 ^ 31) (hl : ls.size = nL) (hR : 2 ≤ R.frames ∧ 40 ≤ R.locals) (hz : cells ≤ R.cells ∧ slots ≤ R.slots) (hr : (rest.map fun v => v.category).sum ≤ 8) (hdg : decode cc pc = .ok (.invokevirtual idx, 3)) (kk : W p l e R s m args below meth c H locs cells slots Q (F0 m (pc + 3) ls (.int (nI N) :: rest))) : W p l e R s m args below meth c H locs cells slots Q (F0 m pc ls (.ref q :: rest)) :=
  vp_callSi (W.runV (As := []) (b := q) (rest := rest) hC (c_J0_length_8abf5 l hN) (cwV 0 hC.2.2.2.2 (gi_V hk mV_J0_length_8abf5 mS_J0_length_8abf5 mI_String mC_J0_length_8abf5) rfl rfl rfl (by decide +kernel) hR) ⟨fun a1 U g mk q9 => ⟨q9.1, sH.moved (u := U) (U := U.calling g mk a1) (Vm.Alike.refl U.vm) q9.2.1, jH.moved (u := U) (U := U.calling g mk a1) (Vm.Alike.refl U.vm) q9.2.2⟩, (by obtain ⟨cell, h1, h2, h3, -⟩ := hE.1; exact ⟨cell, h1, h2, h3⟩), fun U hU hW => ⟨rfl, by rw [hU]; exact hE.moved hW.alike, by rw [hU]; exact hJ.moved hW.alike⟩⟩ rfl rfl hl rfl (lv_room hr) hdg hz) (fun r hr => by rw [hr]; exact kk)
set_option maxHeartbeats 4000000 in
set_option maxRecDepth 100000 in
theorem c_J3_checkIndex_8e157 (l : Launch) {g9 : Nat} {N : Nat} (j : Nat) (hj : j < N) (hN : N < 2 ^ 31) : Met l yJ3_checkIndex_8e157 (ws_ yJ3_checkIndex_8e157 cJ3_checkIndex_8e157 3 (some .int)) ({ frames := 0, cells := 0, slots := 0, locals := 0 } : Room) (va_Pc [.int (nI j), .int (nI N), .ref g9] (fun _ => True)) (vp_Si (fun r : Int32 => r = nI j)) 0 0 (fun _ => False) := by
  refine Met.ofW (cc := cJ3_checkIndex_8e157) (maxL := 3) (ret := (some .int)) (by decide) rfl ?_
  intro p e s m args below meth c s₁ B hml hv
  obtain ⟨rfl, -⟩ := hv
  have hx := B.exec
  have hb := B.bytes
  have hr := B.returns
  have hts := atoms_spec (ws := ws_ yJ3_checkIndex_8e157 cJ3_checkIndex_8e157 3 (some .int)) B.pre
  have hts : ∀ w ∈ lw_all, w.before _ s = true := fun w h => hts w (List.mem_cons_of_mem _ h)
  have hown : s.vm.findClass RJ3 = some m.cls := findClass_of_methodNamed B.named
  have hlocks := B.notSynchronized
  have hC : CallFix p m c cJ3_checkIndex_8e157 3 s _ lw_all RJ3 := ⟨hx, hb, hml, hown, hts⟩
  have hl := lv_entry ([.int (nI j), .int (nI N), .ref g9]) (n := 3) (Nat.le_of_ble_eq_true rfl)
  rw [lg_entry_eq]
  generalize (lg_sl ([.int (nI j), .int (nI N), .ref g9]) ++ List.replicate (3 - (lg_sl ([.int (nI j), .int (nI N), .ref g9])).length) Slot.unset).toArray = ls at hl ⊢
  have hl : lv_has ls 3 [(0, .int (nI j)), (1, .int (nI N)), (2, .ref g9)] := hl
  refine lv_iload_n hx hb dJ3_checkIndex_8e157_0 rfl (lv_at hl 0 rfl) ?_
  refine lv_if_lt (tgt := 9) hx hb dJ3_checkIndex_8e157_1 (by decide) (fun c_1 => ?_) (fun c_1 => ?_)
  · exact absurd c_1 (nI_pos (by omega))
  · have nc_1 : 0 ≤ j := nn_nlt (by omega) c_1
    refine lv_iload_n hx hb dJ3_checkIndex_8e157_4 rfl (lv_at hl 0 rfl) ?_
    refine lv_iload_n hx hb dJ3_checkIndex_8e157_5 rfl (lv_at hl 1 rfl) ?_
    refine lv_icmp_lt (tgt := 16) hx hb dJ3_checkIndex_8e157_6 (by decide) (fun c_6 => ?_) (fun c_6 => ?_)
    · have nc_6 : j < N := nn_lt (by omega) c_6
      refine lv_iload_n hx hb dJ3_checkIndex_8e157_16 rfl (lv_at hl 0 rfl) ?_
      exact W.iret (v := nI j) hx hb hr (fun t ht hW => ⟨nI j, rfl, rfl, ht⟩) (fun q hq => absurd hq List.not_mem_nil) dJ3_checkIndex_8e157_17
    · exact absurd (nI_lt hj hN) c_6
set_option maxRecDepth 100000 in
theorem k_J3_checkIndex_8e157 {p : Program} {l : Launch} {e : Env} {R : Room} {s : State} {m : MethodId} {args : Array Value} {below : List Frame} {meth : Method} {c : Code} {H : Heap} {locs : List Loc} {cells slots : Nat} {Q : State → Prop} {cc : ByteArray} {nL pc : Nat} {ls : Array Slot} {rest : List Value} {g9 : Nat} {N j : Nat} {own : String} {idx : Nat} (hC : CallFix p m c cc nL s args lw_all own) (hk : Cond.methodLink own idx yJ3_checkIndex_8e157 ∈ lw_all) (hj : j < N) (hN : N < 2 ^ 31) (hl : ls.size = nL) (hR : 1 ≤ R.frames ∧ 22 ≤ R.locals) (hz : cells ≤ R.cells ∧ slots ≤ R.slots) (hr : (rest.map fun v => v.category).sum ≤ 8) (hdg : decode cc pc = .ok (.invokestatic idx, 3)) (kk : W p l e R s m args below meth c H locs cells slots Q (F0 m (pc + 3) ls (.int (nI j) :: rest))) : W p l e R s m args below meth c H locs cells slots Q (F0 m pc ls (.ref g9 :: .int (nI N) :: .int (nI j) :: rest)) :=
  vp_callSi (W.runS (As := [.int (nI j), .int (nI N), .ref g9]) (rest := rest) hC (c_J3_checkIndex_8e157 l j hj hN) (va_cwS 3 hC.2.2.2.2 (gi_S hk mT_J3_checkIndex_8e157 mI_Preconditions mC_J3_checkIndex_8e157) rfl rfl rfl (by decide +kernel) hR) ⟨fun _ _ _ _ q => q, fun U hU hW => ⟨rfl, trivial⟩⟩ rfl rfl hl rfl (lv_room hr) hdg hz) (fun r hr => by rw [hr]; exact kk)
set_option maxHeartbeats 4000000 in
set_option maxRecDepth 100000 in
theorem c_J3_checkIndex_8e157n (l : Launch) {N : Nat} (j : Nat) (hj : j < N) (hN : N < 2 ^ 31) : Met l yJ3_checkIndex_8e157 (ws_ yJ3_checkIndex_8e157 cJ3_checkIndex_8e157 3 (some .int)) ({ frames := 0, cells := 0, slots := 0, locals := 0 } : Room) (va_Pc [.int (nI j), .int (nI N), .null] (fun _ => True)) (vp_Si (fun r : Int32 => r = nI j)) 0 0 (fun _ => False) := by
  refine Met.ofW (cc := cJ3_checkIndex_8e157) (maxL := 3) (ret := (some .int)) (by decide) rfl ?_
  intro p e s m args below meth c s₁ B hml hv
  obtain ⟨rfl, -⟩ := hv
  have hx := B.exec
  have hb := B.bytes
  have hr := B.returns
  have hts := atoms_spec (ws := ws_ yJ3_checkIndex_8e157 cJ3_checkIndex_8e157 3 (some .int)) B.pre
  have hts : ∀ w ∈ lw_all, w.before _ s = true := fun w h => hts w (List.mem_cons_of_mem _ h)
  have hown : s.vm.findClass RJ3 = some m.cls := findClass_of_methodNamed B.named
  have hlocks := B.notSynchronized
  have hC : CallFix p m c cJ3_checkIndex_8e157 3 s _ lw_all RJ3 := ⟨hx, hb, hml, hown, hts⟩
  have hl := lv_entry ([.int (nI j), .int (nI N), .null]) (n := 3) (Nat.le_of_ble_eq_true rfl)
  rw [lg_entry_eq]
  generalize (lg_sl ([.int (nI j), .int (nI N), .null]) ++ List.replicate (3 - (lg_sl ([.int (nI j), .int (nI N), .null])).length) Slot.unset).toArray = ls at hl ⊢
  have hl : lv_has ls 3 [(0, .int (nI j)), (1, .int (nI N)), (2, .null)] := hl
  refine lv_iload_n hx hb dJ3_checkIndex_8e157_0 rfl (lv_at hl 0 rfl) ?_
  refine lv_if_lt (tgt := 9) hx hb dJ3_checkIndex_8e157_1 (by decide) (fun c_1 => ?_) (fun c_1 => ?_)
  · exact absurd c_1 (nI_pos (by omega))
  · have nc_1 : 0 ≤ j := nn_nlt (by omega) c_1
    refine lv_iload_n hx hb dJ3_checkIndex_8e157_4 rfl (lv_at hl 0 rfl) ?_
    refine lv_iload_n hx hb dJ3_checkIndex_8e157_5 rfl (lv_at hl 1 rfl) ?_
    refine lv_icmp_lt (tgt := 16) hx hb dJ3_checkIndex_8e157_6 (by decide) (fun c_6 => ?_) (fun c_6 => ?_)
    · have nc_6 : j < N := nn_lt (by omega) c_6
      refine lv_iload_n hx hb dJ3_checkIndex_8e157_16 rfl (lv_at hl 0 rfl) ?_
      exact W.iret (v := nI j) hx hb hr (fun t ht hW => ⟨nI j, rfl, rfl, ht⟩) (fun q hq => absurd hq List.not_mem_nil) dJ3_checkIndex_8e157_17
    · exact absurd (nI_lt hj hN) c_6
set_option maxRecDepth 100000 in
theorem k_J3_checkIndex_8e157n {p : Program} {l : Launch} {e : Env} {R : Room} {s : State} {m : MethodId} {args : Array Value} {below : List Frame} {meth : Method} {c : Code} {H : Heap} {locs : List Loc} {cells slots : Nat} {Q : State → Prop} {cc : ByteArray} {nL pc : Nat} {ls : Array Slot} {rest : List Value} {N j : Nat} {own : String} {idx : Nat} (hC : CallFix p m c cc nL s args lw_all own) (hk : Cond.methodLink own idx yJ3_checkIndex_8e157 ∈ lw_all) (hj : j < N) (hN : N < 2 ^ 31) (hl : ls.size = nL) (hR : 1 ≤ R.frames ∧ 22 ≤ R.locals) (hz : cells ≤ R.cells ∧ slots ≤ R.slots) (hr : (rest.map fun v => v.category).sum ≤ 8) (hdg : decode cc pc = .ok (.invokestatic idx, 3)) (kk : W p l e R s m args below meth c H locs cells slots Q (F0 m (pc + 3) ls (.int (nI j) :: rest))) : W p l e R s m args below meth c H locs cells slots Q (F0 m pc ls (.null :: .int (nI N) :: .int (nI j) :: rest)) :=
  vp_callSi (W.runS (As := [.int (nI j), .int (nI N), .null]) (rest := rest) hC (c_J3_checkIndex_8e157n l j hj hN) (va_cwS 3 hC.2.2.2.2 (gi_S hk mT_J3_checkIndex_8e157 mI_Preconditions mC_J3_checkIndex_8e157) rfl rfl rfl (by decide +kernel) hR) ⟨fun _ _ _ _ q => q, fun U hU hW => ⟨rfl, trivial⟩⟩ rfl rfl hl rfl (lv_room hr) hdg hz) (fun r hr => by rw [hr]; exact kk)
set_option maxHeartbeats 4000000 in
set_option maxRecDepth 100000 in
theorem c_J0_checkIndex_df160 (l : Launch) {N : Nat} (j : Nat) (hj : j < N) (hN : N < 2 ^ 31) : Met l yJ0_checkIndex_df160 (ws_ yJ0_checkIndex_df160 cJ0_checkIndex_df160 2 none) ({ frames := 1, cells := 0, slots := 0, locals := 22 } : Room) (va_Pc [.int (nI j), .int (nI N)] (fun U => jH nA U U.heap)) (va_Sv (fun _ => True)) 0 0 (fun _ => False) := by
  refine Met.ofW (cc := cJ0_checkIndex_df160) (maxL := 2) (ret := none) (by decide) rfl ?_
  intro p e s m args below meth c s₁ B hml hv
  obtain ⟨rfl, hJ⟩ := hv
  have hx := B.exec
  have hb := B.bytes
  have hr := B.returns
  have hts := atoms_spec (ws := ws_ yJ0_checkIndex_df160 cJ0_checkIndex_df160 2 none) B.pre
  have hts : ∀ w ∈ lw_all, w.before _ s = true := fun w h => hts w (List.mem_cons_of_mem _ h)
  have hown : s.vm.findClass RJ0 = some m.cls := findClass_of_methodNamed B.named
  have hlocks := B.notSynchronized
  have hC : CallFix p m c cJ0_checkIndex_df160 2 s _ lw_all RJ0 := ⟨hx, hb, hml, hown, hts⟩
  have hl := lv_entry ([.int (nI j), .int (nI N)]) (n := 2) (Nat.le_of_ble_eq_true rfl)
  rw [lg_entry_eq]
  generalize (lg_sl ([.int (nI j), .int (nI N)]) ++ List.replicate (2 - (lg_sl ([.int (nI j), .int (nI N)])).length) Slot.unset).toArray = ls at hl ⊢
  have hl : lv_has ls 2 [(0, .int (nI j)), (1, .int (nI N))] := hl
  rcases hJ.2 with hg | ⟨g9, hg⟩
  · refine lv_iload_n hx hb dJ0_checkIndex_df160_0 rfl (lv_at hl 0 rfl) ?_
    refine lv_iload_n hx hb dJ0_checkIndex_df160_1 rfl (lv_at hl 1 rfl) ?_
    refine va_gets hx hb hg (va_S.rf (A := nA) (H0 := s.heap)) hown (hts _ mF_J0_1053) (fun _ h9 => h9) dJ0_checkIndex_df160_2 ?_
    refine k_J3_checkIndex_8e157n hC mM_J0_1059 hj hN hl.1 ⟨Nat.le_of_ble_eq_true rfl, Nat.le_of_ble_eq_true rfl⟩ ⟨Nat.zero_le _, Nat.zero_le _⟩ (Nat.le_of_ble_eq_true rfl) dJ0_checkIndex_df160_5 ?_
    refine lv_pop hx hb dJ0_checkIndex_df160_8 rfl ?_
    exact W.vret hx hb hr (fun t ht hW => ⟨rfl, trivial, ht⟩) (fun q hq => absurd hq List.not_mem_nil) dJ0_checkIndex_df160_9
  · refine lv_iload_n hx hb dJ0_checkIndex_df160_0 rfl (lv_at hl 0 rfl) ?_
    refine lv_iload_n hx hb dJ0_checkIndex_df160_1 rfl (lv_at hl 1 rfl) ?_
    refine va_gets hx hb hg (va_S.rf (A := nA) (H0 := s.heap)) hown (hts _ mF_J0_1053) (fun _ h9 => h9) dJ0_checkIndex_df160_2 ?_
    refine k_J3_checkIndex_8e157 hC mM_J0_1059 hj hN hl.1 ⟨Nat.le_of_ble_eq_true rfl, Nat.le_of_ble_eq_true rfl⟩ ⟨Nat.zero_le _, Nat.zero_le _⟩ (Nat.le_of_ble_eq_true rfl) dJ0_checkIndex_df160_5 ?_
    refine lv_pop hx hb dJ0_checkIndex_df160_8 rfl ?_
    exact W.vret hx hb hr (fun t ht hW => ⟨rfl, trivial, ht⟩) (fun q hq => absurd hq List.not_mem_nil) dJ0_checkIndex_df160_9
set_option maxRecDepth 100000 in
theorem k_J0_checkIndex_df160 {p : Program} {l : Launch} {e : Env} {R : Room} {s : State} {m : MethodId} {args : Array Value} {below : List Frame} {meth : Method} {c : Code} {H : Heap} {locs : List Loc} {cells slots : Nat} {Q : State → Prop} {cc : ByteArray} {nL pc : Nat} {ls : Array Slot} {rest : List Value} {N j : Nat} {own : String} {idx : Nat} (hC : CallFix p m c cc nL s args lw_all own) (hk : Cond.methodLink own idx yJ0_checkIndex_df160 ∈ lw_all) (hJ : jH nA s H) (hj : j < N) (hN : N < 2 ^ 31) (hl : ls.size = nL) (hR : 2 ≤ R.frames ∧ 43 ≤ R.locals) (hz : cells ≤ R.cells ∧ slots ≤ R.slots) (hr : (rest.map fun v => v.category).sum ≤ 8) (hdg : decode cc pc = .ok (.invokestatic idx, 3)) (kk : W p l e R s m args below meth c H locs cells slots Q (F0 m (pc + 3) ls rest)) : W p l e R s m args below meth c H locs cells slots Q (F0 m pc ls (.int (nI N) :: .int (nI j) :: rest)) :=
  va_csv (W.runS (As := [.int (nI j), .int (nI N)]) (rest := rest) hC (c_J0_checkIndex_df160 l j hj hN) (va_cwS 2 hC.2.2.2.2 (gi_S hk mT_J0_checkIndex_df160 mI_String mC_J0_checkIndex_df160) rfl rfl rfl (by decide +kernel) hR) ⟨fun a1 U g mk q9 => ⟨q9.1, jH.moved (u := U) (U := U.calling g mk a1) (Vm.Alike.refl U.vm) q9.2⟩, fun U hU hW => ⟨rfl, by show jH nA U U.heap; rw [hU]; exact hJ.moved hW.alike⟩⟩ rfl rfl hl rfl (lv_room hr) hdg hz) (fun _ => kk)
set_option maxHeartbeats 4000000 in
set_option maxRecDepth 100000 in
theorem c_J1_charAt_3b067 (l : Launch) {q t9 N : Nat} {f9 : Nat → Int32} (j : Nat) (hj : j < N) (hN : N < 2 ^ 31) : Met l yJ1_charAt_3b067 (ws_ yJ1_charAt_3b067 cJ1_charAt_3b067 2 (some .char)) ({ frames := 2, cells := 0, slots := 0, locals := 43 } : Room) (va_Pc [.ref t9, .int (nI j)] (fun U => sH q t9 N f9 nA U U.heap ∧ jH nA U U.heap)) (vp_Si (fun r : Int32 => r = f9 j &&& 255)) 0 0 (fun _ => False) := by
  refine Met.ofW (cc := cJ1_charAt_3b067) (maxL := 2) (ret := (some .char)) (by decide) rfl ?_
  intro p e s m args below meth c s₁ B hml hv
  obtain ⟨rfl, hE, hJ⟩ := hv
  have hx := B.exec
  have hb := B.bytes
  have hr := B.returns
  have hts := atoms_spec (ws := ws_ yJ1_charAt_3b067 cJ1_charAt_3b067 2 (some .char)) B.pre
  have hts : ∀ w ∈ lw_all, w.before _ s = true := fun w h => hts w (List.mem_cons_of_mem _ h)
  have hown : s.vm.findClass RJ1 = some m.cls := findClass_of_methodNamed B.named
  have hlocks := B.notSynchronized
  have hC : CallFix p m c cJ1_charAt_3b067 2 s _ lw_all RJ1 := ⟨hx, hb, hml, hown, hts⟩
  have hl := lv_entry ([.ref t9, .int (nI j)]) (n := 2) (Nat.le_of_ble_eq_true rfl)
  rw [lg_entry_eq]
  generalize (lg_sl ([.ref t9, .int (nI j)]) ++ List.replicate (2 - (lg_sl ([.ref t9, .int (nI j)])).length) Slot.unset).toArray = ls at hl ⊢
  have hl : lv_has ls 2 [(0, .ref t9), (1, .int (nI j))] := hl
  refine lv_iload_n hx hb dJ1_charAt_3b067_0 rfl (lv_at hl 1 rfl) ?_
  refine lv_aload_n hx hb dJ1_charAt_3b067_1 rfl (lv_at hl 0 rfl) ?_
  refine va_tlen hx hb hE.2.2.2 (va_S.rf (A := nA) (H0 := s.heap)) (v := nI N) rfl dJ1_charAt_3b067_2 ?_
  refine k_J0_checkIndex_df160 hC mM_J1_9 hJ hj hN hl.1 ⟨Nat.le_of_ble_eq_true rfl, Nat.le_of_ble_eq_true rfl⟩ ⟨Nat.zero_le _, Nat.zero_le _⟩ (Nat.le_of_ble_eq_true rfl) dJ1_charAt_3b067_3 ?_
  refine lv_aload_n hx hb dJ1_charAt_3b067_6 rfl (lv_at hl 0 rfl) ?_
  refine lv_iload_n hx hb dJ1_charAt_3b067_7 rfl (lv_at hl 1 rfl) ?_
  refine va_tb hx hb hE.2.2.2 (va_S.rf (A := nA) (H0 := s.heap)) (i := nI j) (v := .int (f9 j)) (vp_in_nI hj hN) (by rw [nI_clamp (by omega)]) dJ1_charAt_3b067_8 ?_
  refine lv_sipush (v := 255) hx hb dJ1_charAt_3b067_9 (by decide) ?_
  refine lv_iand hx hb dJ1_charAt_3b067_12 ?_
  refine lv_i2c (v := f9 j &&& 255) hx hb dJ1_charAt_3b067_13 (sc_c2 _) ?_
  exact W.zret (v := f9 j &&& 255) hx hb hr (sc_nar _) (fun t ht hW => ⟨f9 j &&& 255, rfl, rfl, ht⟩) (fun q hq => absurd hq List.not_mem_nil) dJ1_charAt_3b067_14
set_option maxRecDepth 100000 in
theorem k_J1_charAt_3b067 {p : Program} {l : Launch} {e : Env} {R : Room} {s : State} {m : MethodId} {args : Array Value} {below : List Frame} {meth : Method} {c : Code} {H : Heap} {locs : List Loc} {cells slots : Nat} {Q : State → Prop} {cc : ByteArray} {nL pc : Nat} {ls : Array Slot} {rest : List Value} {q t9 N : Nat} {f9 : Nat → Int32} {j : Nat} {own : String} {idx : Nat} (hC : CallFix p m c cc nL s args lw_all own) (hk : Cond.methodLink own idx yJ1_charAt_3b067 ∈ lw_all) (hE : sH q t9 N f9 nA s H) (hJ : jH nA s H) (hj : j < N) (hN : N < 2 ^ 31) (hl : ls.size = nL) (hR : 3 ≤ R.frames ∧ 64 ≤ R.locals) (hz : cells ≤ R.cells ∧ slots ≤ R.slots) (hr : (rest.map fun v => v.category).sum ≤ 8) (hdg : decode cc pc = .ok (.invokestatic idx, 3)) (kk : W p l e R s m args below meth c H locs cells slots Q (F0 m (pc + 3) ls (.int (f9 j &&& 255) :: rest))) : W p l e R s m args below meth c H locs cells slots Q (F0 m pc ls (.int (nI j) :: .ref t9 :: rest)) :=
  vp_callSi (W.runS (As := [.ref t9, .int (nI j)]) (rest := rest) hC (c_J1_charAt_3b067 l (q := q) j hj hN) (va_cwS 2 hC.2.2.2.2 (gi_S hk mT_J1_charAt_3b067 mI_StringLatin1 mC_J1_charAt_3b067) rfl rfl rfl (by decide +kernel) hR) ⟨fun a1 U g mk q9 => ⟨q9.1, sH.moved (u := U) (U := U.calling g mk a1) (Vm.Alike.refl U.vm) q9.2.1, jH.moved (u := U) (U := U.calling g mk a1) (Vm.Alike.refl U.vm) q9.2.2⟩, fun U hU hW => ⟨rfl, by rw [hU]; exact hE.moved hW.alike, by rw [hU]; exact hJ.moved hW.alike⟩⟩ rfl rfl hl rfl (lv_room hr) hdg hz) (fun r hr => by rw [hr]; exact kk)
set_option maxHeartbeats 4000000 in
set_option maxRecDepth 100000 in
theorem c_J0_charAt_5068e (l : Launch) {q t9 N : Nat} {f9 : Nat → Int32} (j : Nat) (hj : j < N) (hN : N < 2 ^ 31) : Met l yJ0_charAt_5068e (ws_ yJ0_charAt_5068e cJ0_charAt_5068e 2 (some .char)) ({ frames := 3, cells := 0, slots := 0, locals := 64 } : Room) (va_Pc [.ref q, .int (nI j)] (fun U => sH q t9 N f9 nA U U.heap ∧ jH nA U U.heap)) (vp_Si (fun r : Int32 => r = f9 j &&& 255)) 0 0 (fun _ => False) := by
  refine Met.ofW (cc := cJ0_charAt_5068e) (maxL := 2) (ret := (some .char)) (by decide) rfl ?_
  intro p e s m args below meth c s₁ B hml hv
  obtain ⟨rfl, hE, hJ⟩ := hv
  have hx := B.exec
  have hb := B.bytes
  have hr := B.returns
  have hts := atoms_spec (ws := ws_ yJ0_charAt_5068e cJ0_charAt_5068e 2 (some .char)) B.pre
  have hts : ∀ w ∈ lw_all, w.before _ s = true := fun w h => hts w (List.mem_cons_of_mem _ h)
  have hown : s.vm.findClass RJ0 = some m.cls := findClass_of_methodNamed B.named
  have hlocks := B.notSynchronized
  have hC : CallFix p m c cJ0_charAt_5068e 2 s _ lw_all RJ0 := ⟨hx, hb, hml, hown, hts⟩
  have hl := lv_entry ([.ref q, .int (nI j)]) (n := 2) (Nat.le_of_ble_eq_true rfl)
  rw [lg_entry_eq]
  generalize (lg_sl ([.ref q, .int (nI j)]) ++ List.replicate (2 - (lg_sl ([.ref q, .int (nI j)])).length) Slot.unset).toArray = ls at hl ⊢
  have hl : lv_has ls 2 [(0, .ref q), (1, .int (nI j))] := hl
  refine lv_aload_n hx hb dJ0_charAt_5068e_0 rfl (lv_at hl 0 rfl) ?_
  refine k_J0_isLatin1_aae02 hC mM_J0_492 hE hJ hl.1 ⟨Nat.le_of_ble_eq_true rfl, Nat.le_of_ble_eq_true rfl⟩ ⟨Nat.zero_le _, Nat.zero_le _⟩ (Nat.le_of_ble_eq_true rfl) dJ0_charAt_5068e_1 ?_
  refine lv_if_eq (tgt := 16) hx hb dJ0_charAt_5068e_4 (by decide) (fun c_4 => ?_) (fun c_4 => ?_)
  · exact absurd c_4 (by decide)
  · refine lv_aload_n hx hb dJ0_charAt_5068e_7 rfl (lv_at hl 0 rfl) ?_
    refine vk_getf hx hb hE.2.2.1 (va_S.rf (A := nA) (H0 := s.heap)) hown (hts _ mF_J0_9) (fun _ h9 => h9) dJ0_charAt_5068e_8 ?_
    refine lv_iload_n hx hb dJ0_charAt_5068e_11 rfl (lv_at hl 1 rfl) ?_
    refine k_J1_charAt_3b067 hC mM_J0_495 hE hJ hj hN hl.1 ⟨Nat.le_of_ble_eq_true rfl, Nat.le_of_ble_eq_true rfl⟩ ⟨Nat.zero_le _, Nat.zero_le _⟩ (Nat.le_of_ble_eq_true rfl) dJ0_charAt_5068e_12 ?_
    exact W.zret (v := f9 j &&& 255) hx hb hr (sc_nar _) (fun t ht hW => ⟨f9 j &&& 255, rfl, rfl, ht⟩) (fun q hq => absurd hq List.not_mem_nil) dJ0_charAt_5068e_15
set_option maxRecDepth 100000 in
theorem k_J0_charAt_5068e {p : Program} {l : Launch} {e : Env} {R : Room} {s : State} {m : MethodId} {args : Array Value} {below : List Frame} {meth : Method} {c : Code} {H : Heap} {locs : List Loc} {cells slots : Nat} {Q : State → Prop} {cc : ByteArray} {nL pc : Nat} {ls : Array Slot} {rest : List Value} {q t9 N : Nat} {f9 : Nat → Int32} {j : Nat} {own : String} {idx : Nat} (hC : CallFix p m c cc nL s args lw_all own) (hk : Cond.methodLink own idx yJ0_charAt_5068e ∈ lw_all) (hE : sH q t9 N f9 nA s H) (hJ : jH nA s H) (hj : j < N) (hN : N < 2 ^ 31) (hl : ls.size = nL) (hR : 4 ≤ R.frames ∧ 85 ≤ R.locals) (hz : cells ≤ R.cells ∧ slots ≤ R.slots) (hr : (rest.map fun v => v.category).sum ≤ 8) (hdg : decode cc pc = .ok (.invokevirtual idx, 3)) (kk : W p l e R s m args below meth c H locs cells slots Q (F0 m (pc + 3) ls (.int (f9 j &&& 255) :: rest))) : W p l e R s m args below meth c H locs cells slots Q (F0 m pc ls (.int (nI j) :: .ref q :: rest)) :=
  vp_callSi (W.runV (As := [.int (nI j)]) (b := q) (rest := rest) hC (c_J0_charAt_5068e l j hj hN) (cwV 1 hC.2.2.2.2 (gi_V hk mV_J0_charAt_5068e mS_J0_charAt_5068e mI_String mC_J0_charAt_5068e) rfl rfl rfl (by decide +kernel) hR) ⟨fun a1 U g mk q9 => ⟨q9.1, sH.moved (u := U) (U := U.calling g mk a1) (Vm.Alike.refl U.vm) q9.2.1, jH.moved (u := U) (U := U.calling g mk a1) (Vm.Alike.refl U.vm) q9.2.2⟩, (by obtain ⟨cell, h1, h2, h3, -⟩ := hE.1; exact ⟨cell, h1, h2, h3⟩), fun U hU hW => ⟨rfl, by rw [hU]; exact hE.moved hW.alike, by rw [hU]; exact hJ.moved hW.alike⟩⟩ rfl rfl hl rfl (lv_room hr) hdg hz) (fun r hr => by rw [hr]; exact kk)
set_option maxHeartbeats 4000000 in
set_option maxRecDepth 100000 in
theorem c_X0_sealText (l : Launch) {q t9 N : Nat} {f9 : Nat → Int32} (x : Int32) (hN : N < 100) : Met l yX0_sealText (ws_ yX0_sealText cX0_sealText 3 (some .int)) ({ frames := 4, cells := 0, slots := 0, locals := 85 } : Room) (va_Pc [.int x, .ref q] (fun U => sH q t9 N f9 nA U U.heap ∧ jH nA U U.heap)) (vp_Si (fun r : Int32 => r = sp_txt f9 x N)) 0 0 (fun _ => False) := by
  refine Met.ofW (cc := cX0_sealText) (maxL := 3) (ret := (some .int)) (by decide) rfl ?_
  intro p e s m args below meth c s₁ B hml hv
  obtain ⟨rfl, hE, hJ⟩ := hv
  have hx := B.exec
  have hb := B.bytes
  have hr := B.returns
  have hts := atoms_spec (ws := ws_ yX0_sealText cX0_sealText 3 (some .int)) B.pre
  have hts : ∀ w ∈ lw_all, w.before _ s = true := fun w h => hts w (List.mem_cons_of_mem _ h)
  have hown : s.vm.findClass RX0 = some m.cls := findClass_of_methodNamed B.named
  have hlocks := B.notSynchronized
  have hC : CallFix p m c cX0_sealText 3 s _ lw_all RX0 := ⟨hx, hb, hml, hown, hts⟩
  have hl := lv_entry ([.int x, .ref q]) (n := 3) (Nat.le_of_ble_eq_true rfl)
  rw [lg_entry_eq]
  generalize (lg_sl ([.int x, .ref q]) ++ List.replicate (3 - (lg_sl ([.int x, .ref q])).length) Slot.unset).toArray = ls at hl ⊢
  have hl : lv_has ls 3 [(0, .int x), (1, .ref q)] := hl
  have hN1 : N < 2 ^ 31 := by omega
  refine lv_iconst (v := 0) hx hb dX0_sealText_0 (by decide) ?_
  refine lv_istore_n (lv' := [(2, .int 0), (0, .int x), (1, .ref q)]) hx hb dX0_sealText_1 rfl hl (by decide) rfl (fun ls hl => ?_)
  have loop_2 : ∀ (f : Nat) (j : Nat) (y : Int32), j ≤ N → N + 1 ≤ j + f → y = sp_txt f9 x j → ∀ ls : Array Slot, lv_has ls 3 [(0, .int y), (1, .ref q), (2, .int (nI j))] → W p l e ({ frames := 4, cells := 0, slots := 0, locals := 85 } : Room) s m ([.int x, .ref q] : List Value).toArray below meth c s.heap [] 0 0 (MQ below (vp_Si (fun r : Int32 => r = sp_txt f9 x N)) ([.int x, .ref q] : List Value).toArray s 0 0 (fun _ => False)) (F0 m 2 ls []) := by
    intro f
    induction f with
    | zero =>
      intro j y hj hf ey
      exact absurd hf (by omega)
    | succ f ih2 =>
      intro j y hj hf ey ls hl
      refine lv_iload_n hx hb dX0_sealText_2 rfl (lv_at hl 2 rfl) ?_
      refine lv_aload_n hx hb dX0_sealText_3 rfl (lv_at hl 1 rfl) ?_
      refine k_J0_length_8abf5 hC mM_X0_222 hE hJ hN1 hl.1 ⟨Nat.le_of_ble_eq_true rfl, Nat.le_of_ble_eq_true rfl⟩ ⟨Nat.zero_le _, Nat.zero_le _⟩ (Nat.le_of_ble_eq_true rfl) dX0_sealText_4 ?_
      refine lv_icmp_ge (tgt := 27) hx hb dX0_sealText_7 (by decide) (fun c_7 => ?_) (fun c_7 => ?_)
      · have nc_7 : N ≤ j := nn_le (by omega) c_7
        refine lv_iload_n hx hb dX0_sealText_27 rfl (lv_at hl 0 rfl) ?_
        exact W.iret (v := y) hx hb hr (fun t ht hW => ⟨y, rfl, (by rw [ey, show j = N by omega]), ht⟩) (fun q hq => absurd hq List.not_mem_nil) dX0_sealText_28
      · have nc_7 : j < N := nn_nle (by omega) c_7
        refine lv_iload_n hx hb dX0_sealText_10 rfl (lv_at hl 0 rfl) ?_
        refine lv_bipush (v := 31) hx hb dX0_sealText_11 (by decide) ?_
        refine lv_imul hx hb dX0_sealText_13 ?_
        refine lv_aload_n hx hb dX0_sealText_14 rfl (lv_at hl 1 rfl) ?_
        refine lv_iload_n hx hb dX0_sealText_15 rfl (lv_at hl 2 rfl) ?_
        refine k_J0_charAt_5068e hC mM_X0_227 hE hJ nc_7 hN1 hl.1 ⟨Nat.le_of_ble_eq_true rfl, Nat.le_of_ble_eq_true rfl⟩ ⟨Nat.zero_le _, Nat.zero_le _⟩ (Nat.le_of_ble_eq_true rfl) dX0_sealText_16 ?_
        refine lv_iadd hx hb dX0_sealText_19 ?_
        refine lv_istore_n (lv' := [(0, .int ((y * 31) + (f9 j &&& 255))), (1, .ref q), (2, .int (nI j))]) hx hb dX0_sealText_20 rfl hl (by decide) rfl (fun ls hl => ?_)
        refine lv_iinc (v := nI (j + 1)) (lv' := [(2, .int (nI (j + 1))), (0, .int ((y * 31) + (f9 j &&& 255))), (1, .ref q)]) hx hb dX0_sealText_21 hl (k := 2) rfl (nI_1 _) (by decide) rfl (fun ls hl => ?_)
        refine lv_goto (tgt := 2) hx hb dX0_sealText_24 (by decide) ?_
        exact ih2 (j + 1) ((y * 31) + (f9 j &&& 255)) (by omega) (by omega) (by rw [ey]; rfl) _ (lv_sub hl [1, 2, 0] rfl)
  exact loop_2 (N + 1) 0 x (Nat.zero_le _) (by omega) rfl _ (lv_sub hl [1, 2, 0] rfl)
set_option maxRecDepth 100000 in
theorem k_X0_sealText {p : Program} {l : Launch} {e : Env} {R : Room} {s : State} {m : MethodId} {args : Array Value} {below : List Frame} {meth : Method} {c : Code} {H : Heap} {locs : List Loc} {cells slots : Nat} {Q : State → Prop} {cc : ByteArray} {nL pc : Nat} {ls : Array Slot} {rest : List Value} {q t9 N : Nat} {f9 : Nat → Int32} {x : Int32} {own : String} {idx : Nat} (hC : CallFix p m c cc nL s args lw_all own) (hk : Cond.methodLink own idx yX0_sealText ∈ lw_all) (hE : sH q t9 N f9 nA s H) (hJ : jH nA s H) (hN : N < 100) (hl : ls.size = nL) (hR : 5 ≤ R.frames ∧ 107 ≤ R.locals) (hz : cells ≤ R.cells ∧ slots ≤ R.slots) (hr : (rest.map fun v => v.category).sum ≤ 8) (hdg : decode cc pc = .ok (.invokestatic idx, 3)) (kk : W p l e R s m args below meth c H locs cells slots Q (F0 m (pc + 3) ls (.int (sp_txt f9 x N) :: rest))) : W p l e R s m args below meth c H locs cells slots Q (F0 m pc ls (.ref q :: .int x :: rest)) :=
  vp_callSi (W.runS (As := [.int x, .ref q]) (rest := rest) hC (c_X0_sealText l x hN) (va_cwS 2 hC.2.2.2.2 (gi_S hk mT_X0_sealText mI_MissRegistry mC_X0_sealText) rfl rfl rfl (by decide +kernel) hR) ⟨fun a1 U g mk q9 => ⟨q9.1, sH.moved (u := U) (U := U.calling g mk a1) (Vm.Alike.refl U.vm) q9.2.1, jH.moved (u := U) (U := U.calling g mk a1) (Vm.Alike.refl U.vm) q9.2.2⟩, fun U hU hW => ⟨rfl, by rw [hU]; exact hE.moved hW.alike, by rw [hU]; exact hJ.moved hW.alike⟩⟩ rfl rfl hl rfl (lv_room hr) hdg hz) (fun r hr => by rw [hr]; exact kk)
/-- the four texts of the seals: how long, and their bytes -/
def lenS : List Nat := [7, 2, 13, 7]
def bytS : List (List Int32) := [[112, 101, 114, 115, 111, 110, 32], [58, 32], [110, 111, 116, 32, 99, 101, 114, 116, 105, 102, 105, 101, 100], [32, 105, 110, 99, 104, 101, 115]]
def tL (i : Nat) : Nat := lenS.getD i 0
def tF (i j : Nat) : Int32 := (bytS.getD i []).getD j 0
def cH (q9 t9 : Nat → Nat) (A : Nat → Prop) (U : State) (H : Heap) : Prop := (∀ i : Nat, i < 4 → sH (q9 i) (t9 i) (tL i) (tF i) A U H) ∧ jH A U H ∧ vk_R RX0 207 "person " (q9 0) U ∧ vk_R RX0 216 ": " (q9 1) U ∧ vk_R RX0 218 "not certified" (q9 2) U ∧ vk_R RX0 220 " inches" (q9 3) U ∧ vk_R RX1 69 "person " (q9 0) U ∧ vk_R RX1 78 ": " (q9 1) U ∧ vk_R RX1 80 "not certified" (q9 2) U ∧ vk_R RX1 82 " inches" (q9 3) U
theorem cH.same {q9 t9 : Nat → Nat} {A : Nat → Prop} {u U : State} {H : Heap} (hv : U.vm = u.vm) (h : cH q9 t9 A u H) : cH q9 t9 A U H :=
  ⟨fun i hi => sH.moved (by rw [hv]; exact Vm.Alike.refl u.vm) (h.1 i hi), jH.moved (by rw [hv]; exact Vm.Alike.refl u.vm) h.2.1, h.2.2.1.same hv, h.2.2.2.1.same hv, h.2.2.2.2.1.same hv, h.2.2.2.2.2.1.same hv, h.2.2.2.2.2.2.1.same hv, h.2.2.2.2.2.2.2.1.same hv, h.2.2.2.2.2.2.2.2.1.same hv, h.2.2.2.2.2.2.2.2.2.same hv⟩
theorem cH.warm {q9 t9 : Nat → Nat} {A : Nat → Prop} {s U : State} {H : Heap} (hW : s.WarmedH U.vm) (h : cH q9 t9 A s H) : cH q9 t9 A U H :=
  ⟨fun i hi => (h.1 i hi).moved hW.alike, h.2.1.moved hW.alike, h.2.2.1.warm hW, h.2.2.2.1.warm hW, h.2.2.2.2.1.warm hW, h.2.2.2.2.2.1.warm hW, h.2.2.2.2.2.2.1.warm hW, h.2.2.2.2.2.2.2.1.warm hW, h.2.2.2.2.2.2.2.2.1.warm hW, h.2.2.2.2.2.2.2.2.2.warm hW⟩
theorem cH.kept {q9 t9 : Nat → Nat} {A : Nat → Prop} {U : State} {H H1 : Heap} (h : cH q9 t9 A U H) (hq : ∀ a : Nat, a < H.size → ¬ A a → H1[a]? = H[a]?) : cH q9 t9 A U H1 := ⟨fun i hi => (h.1 i hi).kept hq, h.2.1.kept hq, h.2.2⟩
theorem cH.narrow {q9 t9 : Nat → Nat} {A B : Nat → Prop} {U : State} {H : Heap} (h : cH q9 t9 A U H) (hAB : ∀ q, B q → A q) : cH q9 t9 B U H := ⟨fun i hi => (h.1 i hi).narrow hAB, h.2.1.narrow hAB, h.2.2⟩
theorem cH.at {q9 t9 : Nat → Nat} {A : Nat → Prop} {s : State} {H : Heap} {locs : List Loc} (h : cH q9 t9 A s s.heap) (hS : va_S A s.heap H locs) : cH q9 t9 nA s H := (h.kept hS.2.1).narrow (fun _ q => q.elim)
def sp_s3 (x : Int32) : Int32 := sp_txt (tF 1) (sp_num (sp_txt (tF 0) 7 (tL 0)) x) (tL 1)
def sp_seal (x y : Int32) : Int32 := if y = 0 then sp_txt (tF 2) (sp_s3 x) (tL 2) else sp_txt (tF 3) (sp_num (sp_s3 x) y) (tL 3)

set_option maxHeartbeats 4000000 in
set_option maxRecDepth 100000 in
theorem c_X0_certificateSeal (l : Launch) {q9 t9 : Nat → Nat} (x y : Int32) : Met l yX0_certificateSeal (ws_ yX0_certificateSeal cX0_certificateSeal 3 (some .int)) ({ frames := 5, cells := 0, slots := 0, locals := 107 } : Room) (va_Pc [.int x, .int y] (fun U => cH q9 t9 nA U U.heap)) (vp_Si (fun r : Int32 => r = sp_seal x y)) 0 0 (fun _ => False) := by
  refine Met.ofW (cc := cX0_certificateSeal) (maxL := 3) (ret := (some .int)) (by decide) rfl ?_
  intro p e s m args below meth c s₁ B hml hv
  obtain ⟨rfl, hE⟩ := hv
  have hx := B.exec
  have hb := B.bytes
  have hr := B.returns
  have hts := atoms_spec (ws := ws_ yX0_certificateSeal cX0_certificateSeal 3 (some .int)) B.pre
  have hts : ∀ w ∈ lw_all, w.before _ s = true := fun w h => hts w (List.mem_cons_of_mem _ h)
  have hown : s.vm.findClass RX0 = some m.cls := findClass_of_methodNamed B.named
  have hlocks := B.notSynchronized
  have hC : CallFix p m c cX0_certificateSeal 3 s _ lw_all RX0 := ⟨hx, hb, hml, hown, hts⟩
  have hl := lv_entry ([.int x, .int y]) (n := 3) (Nat.le_of_ble_eq_true rfl)
  rw [lg_entry_eq]
  generalize (lg_sl ([.int x, .int y]) ++ List.replicate (3 - (lg_sl ([.int x, .int y])).length) Slot.unset).toArray = ls at hl ⊢
  have hl : lv_has ls 3 [(0, .int x), (1, .int y)] := hl
  refine lv_bipush (v := 7) hx hb dX0_certificateSeal_0 (by decide) ?_
  refine va_ldcS hx hb hown hE.2.2.1 dX0_certificateSeal_2 ?_
  refine k_X0_sealText (x := 7) hC mM_X0_209 (hE.1 0 (by decide)) hE.2.1 (by decide) hl.1 ⟨Nat.le_of_ble_eq_true rfl, Nat.le_of_ble_eq_true rfl⟩ ⟨Nat.zero_le _, Nat.zero_le _⟩ (Nat.le_of_ble_eq_true rfl) dX0_certificateSeal_4 ?_
  refine lv_istore_n (lv' := [(2, .int (sp_txt (tF 0) 7 (tL 0))), (0, .int x), (1, .int y)]) hx hb dX0_certificateSeal_7 rfl hl (by decide) rfl (fun ls hl => ?_)
  refine lv_iload_n hx hb dX0_certificateSeal_8 rfl (lv_at hl 0 rfl) ?_
  refine lv_iload_n hx hb dX0_certificateSeal_9 rfl (lv_at hl 1 rfl) ?_
  refine k_X0_sealNumber hC hl.1 ⟨Nat.le_of_ble_eq_true rfl, Nat.le_of_ble_eq_true rfl⟩ ⟨Nat.zero_le _, Nat.zero_le _⟩ (Nat.le_of_ble_eq_true rfl)   dX0_certificateSeal_10 ?_
  refine lv_istore_n (lv' := [(2, .int (sp_num (sp_txt (tF 0) 7 (tL 0)) x)), (0, .int x), (1, .int y)]) hx hb dX0_certificateSeal_13 rfl hl (by decide) rfl (fun ls hl => ?_)
  refine lv_iload_n hx hb dX0_certificateSeal_14 rfl (lv_at hl 0 rfl) ?_
  refine va_ldcS hx hb hown hE.2.2.2.1 dX0_certificateSeal_15 ?_
  refine k_X0_sealText (x := (sp_num (sp_txt (tF 0) 7 (tL 0)) x)) hC mM_X0_209 (hE.1 1 (by decide)) hE.2.1 (by decide) hl.1 ⟨Nat.le_of_ble_eq_true rfl, Nat.le_of_ble_eq_true rfl⟩ ⟨Nat.zero_le _, Nat.zero_le _⟩ (Nat.le_of_ble_eq_true rfl) dX0_certificateSeal_17 ?_
  refine lv_istore_n (lv' := [(2, .int (sp_txt (tF 1) (sp_num (sp_txt (tF 0) 7 (tL 0)) x) (tL 1))), (0, .int x), (1, .int y)]) hx hb dX0_certificateSeal_20 rfl hl (by decide) rfl (fun ls hl => ?_)
  refine lv_iload_n hx hb dX0_certificateSeal_21 rfl (lv_at hl 2 rfl) ?_
  refine lv_if_ne (tgt := 32) hx hb dX0_certificateSeal_22 (by decide) (fun c_22 => ?_) (fun c_22 => ?_)
  · refine lv_iload_n hx hb dX0_certificateSeal_32 rfl (lv_at hl 0 rfl) ?_
    refine lv_iload_n hx hb dX0_certificateSeal_33 rfl (lv_at hl 2 rfl) ?_
    refine k_X0_sealNumber hC hl.1 ⟨Nat.le_of_ble_eq_true rfl, Nat.le_of_ble_eq_true rfl⟩ ⟨Nat.zero_le _, Nat.zero_le _⟩ (Nat.le_of_ble_eq_true rfl)   dX0_certificateSeal_34 ?_
    refine lv_istore_n (lv' := [(2, .int (sp_num (sp_txt (tF 1) (sp_num (sp_txt (tF 0) 7 (tL 0)) x) (tL 1)) y)), (0, .int x), (1, .int y)]) hx hb dX0_certificateSeal_37 rfl hl (by decide) rfl (fun ls hl => ?_)
    refine lv_iload_n hx hb dX0_certificateSeal_38 rfl (lv_at hl 0 rfl) ?_
    refine va_ldcS hx hb hown hE.2.2.2.2.2.1 dX0_certificateSeal_39 ?_
    refine k_X0_sealText (x := (sp_num (sp_txt (tF 1) (sp_num (sp_txt (tF 0) 7 (tL 0)) x) (tL 1)) y)) hC mM_X0_209 (hE.1 3 (by decide)) hE.2.1 (by decide) hl.1 ⟨Nat.le_of_ble_eq_true rfl, Nat.le_of_ble_eq_true rfl⟩ ⟨Nat.zero_le _, Nat.zero_le _⟩ (Nat.le_of_ble_eq_true rfl) dX0_certificateSeal_41 ?_
    exact W.iret (v := sp_txt (tF 3) (sp_num (sp_txt (tF 1) (sp_num (sp_txt (tF 0) 7 (tL 0)) x) (tL 1)) y) (tL 3)) hx hb hr (fun t ht hW => ⟨sp_txt (tF 3) (sp_num (sp_txt (tF 1) (sp_num (sp_txt (tF 0) 7 (tL 0)) x) (tL 1)) y) (tL 3), rfl, (by simp [sp_seal, sp_s3, c_22]), ht⟩) (fun q hq => absurd hq List.not_mem_nil) dX0_certificateSeal_44
  · refine lv_iload_n hx hb dX0_certificateSeal_25 rfl (lv_at hl 0 rfl) ?_
    refine va_ldcS hx hb hown hE.2.2.2.2.1 dX0_certificateSeal_26 ?_
    refine k_X0_sealText (x := (sp_txt (tF 1) (sp_num (sp_txt (tF 0) 7 (tL 0)) x) (tL 1))) hC mM_X0_209 (hE.1 2 (by decide)) hE.2.1 (by decide) hl.1 ⟨Nat.le_of_ble_eq_true rfl, Nat.le_of_ble_eq_true rfl⟩ ⟨Nat.zero_le _, Nat.zero_le _⟩ (Nat.le_of_ble_eq_true rfl) dX0_certificateSeal_28 ?_
    exact W.iret (v := sp_txt (tF 2) (sp_txt (tF 1) (sp_num (sp_txt (tF 0) 7 (tL 0)) x) (tL 1)) (tL 2)) hx hb hr (fun t ht hW => ⟨sp_txt (tF 2) (sp_txt (tF 1) (sp_num (sp_txt (tF 0) 7 (tL 0)) x) (tL 1)) (tL 2), rfl, (by simp [sp_seal, sp_s3, c_22]), ht⟩) (fun q hq => absurd hq List.not_mem_nil) dX0_certificateSeal_31
set_option maxRecDepth 100000 in
theorem k_X0_certificateSeal {p : Program} {l : Launch} {e : Env} {R : Room} {s : State} {m : MethodId} {args : Array Value} {below : List Frame} {meth : Method} {c : Code} {H : Heap} {locs : List Loc} {cells slots : Nat} {Q : State → Prop} {cc : ByteArray} {nL pc : Nat} {ls : Array Slot} {rest : List Value} {q9 t9 : Nat → Nat} {x y : Int32} {own : String} {idx : Nat} (hC : CallFix p m c cc nL s args lw_all own) (hk : Cond.methodLink own idx yX0_certificateSeal ∈ lw_all) (hE : cH q9 t9 nA s H) (hl : ls.size = nL) (hR : 6 ≤ R.frames ∧ 129 ≤ R.locals) (hz : cells ≤ R.cells ∧ slots ≤ R.slots) (hr : (rest.map fun v => v.category).sum ≤ 8) (hdg : decode cc pc = .ok (.invokestatic idx, 3)) (kk : W p l e R s m args below meth c H locs cells slots Q (F0 m (pc + 3) ls (.int (sp_seal x y) :: rest))) : W p l e R s m args below meth c H locs cells slots Q (F0 m pc ls (.int y :: .int x :: rest)) :=
  vp_callSi (W.runS (As := [.int x, .int y]) (rest := rest) hC (c_X0_certificateSeal l x y) (va_cwS 2 hC.2.2.2.2 (gi_S hk mT_X0_certificateSeal mI_MissRegistry mC_X0_certificateSeal) rfl rfl rfl (by decide +kernel) hR) ⟨fun a1 U g mk q8 => ⟨q8.1, cH.same (u := U) (U := U.calling g mk a1) rfl q8.2⟩, fun U hU hW => ⟨rfl, by show cH q9 t9 nA U U.heap; rw [hU]; exact hE.warm hW⟩⟩ rfl rfl hl rfl (lv_room hr) hdg hz) (fun r hr => by rw [hr]; exact kk)

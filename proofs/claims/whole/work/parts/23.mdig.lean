def mq_dl (f : Nat → Int32) (d : Int64) : Nat → Int64
  | 0 => d
  | j + 1 => sp_mix (mq_dl f d j) (f j).toInt64
def mq_dreg (n w : Nat) (gn lk nv of mi : Nat → Int32) (k : Nat) (nt fu re : Int32) : Int64 := sp_mix (sp_mix (sp_mix (sp_mix (sp_mix (sp_mix (sp_mix (sp_mix (sp_mix (sp_mix (sp_mix (sp_mix (sp_mix (sp_mix 1951 nt.toInt64) (nI n).toInt64) (mq_liv gn n).toInt64) (nI w).toInt64) (sp_shk nv w).toInt64) fu.toInt64) re.toInt64) (nI k).toInt64) (sp_cert mi k).toInt64) (mq_mid of nv 20 w).toInt64) (mq_usk of nv w 10).toInt64) (mq_ucl of nv w).toInt64) (mq_best of nv w).toInt64) (mq_best gn lk n).toInt64
def mq_dper (n : Nat) (gn lk pu fa he mp mi : Nat → Int32) (k j : Nat) (d : Int64) : Int64 := sp_mix (sp_mix (sp_mix (sp_mix (sp_mix (sp_mix (sp_mix (sp_mix d (sp_not (gn j)).toInt64) (lk j).toInt64) (pu j).toInt64) (fa j).toInt64) (he j).toInt64) (mq_last he gn j (n + 1) j).toInt64) (sp_many mp (nI j) k).toInt64) (sp_close mp mi (nI j) k).toInt64
def mq_dpers (n : Nat) (gn lk pu fa he mp mi : Nat → Int32) (k : Nat) (d : Int64) : Nat → Int64
  | 0 => d
  | j + 1 => mq_dper n gn lk pu fa he mp mi k j (mq_dpers n gn lk pu fa he mp mi k d j)
def mq_dwit (nv of : Nat → Int32) (d : Int64) : Nat → Int64
  | 0 => d
  | j + 1 => sp_mix (sp_mix (mq_dwit nv of d j) (nv j).toInt64) (sp_not (of j)).toInt64

section MDROWS
variable {p : Program} {l : Launch} {e : Env} {R : Room} {s : State} {m : MethodId} {args : Array Value} {below : List Frame} {meth : Method} {c : Code} {H : Heap} {locs : List Loc} {cells slots : Nat} {Q : State → Prop} {cc : ByteArray} {nL pc : Nat} {ls : Array Slot} {rest : List Value}
variable {D : va_G} {z : ClassId × ClassId} {a : Nat → Nat} {th : Int32} {n w : Nat} {gn lk pu fa he nv of mp mi : Nat → Int32} {k : Nat} {nt fu re : Int32}
theorem mxs {A : Nat → Prop} {H0 : Heap} {q N : Nat} {cA : ClassId} {f : Nat → Int32} (hC : CallFix p m c cc nL s args lw_all RX1) (hKb : va_K D vwCl [(z.1, .int), (z.2, .boolean), (cA, .int)] s) (hPb : va_P D vwCl (mW z a th n w gn lk pu fa he nv of mp mi k nt fu re ++ [(q, .inl (cA, N, .inl f))]) H) (hDb : va_D A (mW z a th n w gn lk pu fa he nv of mp mi k nt fu re ++ [(q, .inl (cA, N, .inl f))])) (hS : va_S A H0 H locs) {x v : Int32} (j : Nat) (hx : x = nI j) (hj : j < N) (hN : N < 100) (hdg : decode cc pc = .ok (.iastore, 1)) (kk : ∀ (H1 : Heap) (locs1 : List Loc), va_P D vwCl (mW z a th n w gn lk pu fa he nv of mp mi k nt fu re ++ [(q, .inl (cA, N, .inl (upd f j v)))]) H1 → va_D A (mW z a th n w gn lk pu fa he nv of mp mi k nt fu re ++ [(q, .inl (cA, N, .inl (upd f j v)))]) → va_S A H0 H1 locs1 → W p l e R s m args below meth c H1 locs1 cells slots Q (F0 m (pc + 1) ls rest)) : W p l e R s m args below meth c H locs cells slots Q (F0 m pc ls (.int v :: .int x :: .ref q :: rest)) := by
  subst hx
  refine va_iast (D := D) hC.1 hC.2.1 hKb hPb hDb hS 10 2 (n := N) (f := f) rfl rfl (vp_in_nI hj (by omega)) hdg ?_
  rw [nI_clamp (by omega)]
  exact kk
theorem mxl {q N : Nat} {cA : ClassId} {f : Nat → Int32} (hC : CallFix p m c cc nL s args lw_all RX1) (hKb : va_K D vwCl [(z.1, .int), (z.2, .boolean), (cA, .int)] s) (hPb : va_P D vwCl (mW z a th n w gn lk pu fa he nv of mp mi k nt fu re ++ [(q, .inl (cA, N, .inl f))]) H) {x : Int32} (j : Nat) (hx : x = nI j) (hj : j < N) (hN : N < 100) (hdg : decode cc pc = .ok (.iaload, 1)) (kk : W p l e R s m args below meth c H locs cells slots Q (F0 m (pc + 1) ls (.int (f j) :: rest))) : W p l e R s m args below meth c H locs cells slots Q (F0 m pc ls (.int x :: .ref q :: rest)) := by
  subst hx
  refine va_iald (D := D) hC.1 hC.2.1 hKb hPb 10 2 (n := N) (f := f) rfl rfl (vp_in_nI hj (by omega)) hdg ?_
  rw [nI_clamp (by omega)]
  exact kk
theorem mxn {q N : Nat} {cA : ClassId} {f : Nat → Int32} (hC : CallFix p m c cc nL s args lw_all RX1) (hKb : va_K D vwCl [(z.1, .int), (z.2, .boolean), (cA, .int)] s) (hPb : va_P D vwCl (mW z a th n w gn lk pu fa he nv of mp mi k nt fu re ++ [(q, .inl (cA, N, .inl f))]) H) (hdg : decode cc pc = .ok (.arraylength, 1)) (kk : W p l e R s m args below meth c H locs cells slots Q (F0 m (pc + 1) ls (.int (nI N) :: rest))) : W p l e R s m args below meth c H locs cells slots Q (F0 m pc ls (.ref q :: rest)) := va_alen (D := D) hC.1 hC.2.1 hKb hPb 10 2 (x := (N, .inl f)) rfl rfl (v := nI N) rfl hdg kk
end MDROWS
set_option maxHeartbeats 8000000 in
set_option maxRecDepth 100000 in
theorem c_X1_digest (l : Launch) (sz : Nat) {D : va_G} {z : ClassId × ClassId} {a : Nat → Nat} {th : Int32} {n w : Nat} {gn lk pu fa he nv of mp mi : Nat → Int32} {k : Nat} {nt fu re : Int32} {q9 t9 : Nat → Nat} (hn : n ≤ 10) (hw : w ≤ 6) (hk : k ≤ 60) (hH : hR he n) : Met l yX1_digest (ws_ yX1_digest cX1_digest 10 (some .long)) ({ frames := 6, cells := 11, slots := 94, locals := 130 } : Room) (va_Pc [.ref (a 0)] (fun U => U.heap.size = sz ∧ mI D z a th n w gn lk pu fa he nv of mp mi k nt fu re U ∧ va_D (fun _ => True) (mW z a th n w gn lk pu fa he nv of mp mi k nt fu re) ∧ cH q9 t9 (va_A (mW z a th n w gn lk pu fa he nv of mp mi k nt fu re) sz) U U.heap)) (va_Ql (fun (r : Int64) (_ : Unit) => r = sp_dlast mp mi k (mq_dwit nv of (mq_dpers n gn lk pu fa he mp mi k (mq_dreg n w gn lk nv of mi k nt fu re) n) w)) (fun _ t9 => va_P D vwCl (mW z a 0 n w gn lk pu fa he nv of mp mi k nt fu re) t9.heap ∧ kK D z t9 ∧ va_D (va_A (mW z a th n w gn lk pu fa he nv of mp mi k nt fu re) sz) (mW z a 0 n w gn lk pu fa he nv of mp mi k nt fu re)) (va_A (mW z a th n w gn lk pu fa he nv of mp mi k nt fu re) sz)) 11 94 (va_A (mW z a th n w gn lk pu fa he nv of mp mi k nt fu re) sz) := by
  refine Met.ofW (cc := cX1_digest) (maxL := 10) (ret := (some .long)) (by decide) rfl ?_
  intro p e s m args below meth c s₁ B hml hv
  obtain ⟨rfl, hsz, ⟨hP, hK⟩, hD0, hE⟩ := hv
  have hx := B.exec
  have hb := B.bytes
  have hr := B.returns
  have hts := atoms_spec (ws := ws_ yX1_digest cX1_digest 10 (some .long)) B.pre
  have hts : ∀ w ∈ lw_all, w.before _ s = true := fun w h => hts w (List.mem_cons_of_mem _ h)
  have hown : s.vm.findClass RX1 = some m.cls := findClass_of_methodNamed B.named
  have hlocks := B.notSynchronized
  have hC : CallFix p m c cX1_digest 10 s _ lw_all RX1 := ⟨hx, hb, hml, hown, hts⟩
  subst hsz
  have hD := hD0.self (sz := s.heap.size)
  generalize hAe : va_A (mW z a th n w gn lk pu fa he nv of mp mi k nt fu re) s.heap.size = A at hD hE ⊢
  have hA : ∀ q : Nat, s.heap.size ≤ q → A q := fun q h => by rw [← hAe]; exact Or.inr h
  have hS : va_S A s.heap s.heap [] := va_S.rf
  have hl := lv_entry ([.ref (a 0)]) (n := 10) (Nat.le_of_ble_eq_true rfl)
  rw [lg_entry_eq]
  generalize (lg_sl ([.ref (a 0)]) ++ List.replicate (10 - (lg_sl ([.ref (a 0)])).length) Slot.unset).toArray = ls at hl ⊢
  have hl : lv_has ls 10 [(0, .ref (a 0))] := hl
  refine lv_aload_n hx hb dX1_digest_0 rfl (lv_at hl 0 rfl) ?_
  refine lv_iconst (v := 0) hx hb dX1_digest_1 (by decide) ?_
  refine mp_th hC hK hP hD hS dX1_digest_2 (fun H locs hP hD hS => ?_)
  refine lv_bipush (v := 14) hx hb dX1_digest_5 (by decide) ?_
  refine va_newa (atype := .int) (a0 := (14, .inl zf)) hx hb (hts _ mA_int) rfl hK hP hD hS hA (fun _ => rfl) (by decide) (by decide) (by decide) (Nat.le_of_ble_eq_true rfl) (Nat.le_of_ble_eq_true rfl) dX1_digest_7 (fun q1 c1 H hKb hPb hDb hS => ?_)
  have hKb : va_K D vwCl [(z.1, .int), (z.2, .boolean), (c1, .int)] s := hKb
  have hP : va_P D vwCl (mW z a 0 n w gn lk pu fa he nv of mp mi k nt fu re) H := hPb.sub [0, 1, 2, 3, 4, 5, 6, 7, 8, 9] rfl
  have hD : va_D A (mW z a 0 n w gn lk pu fa he nv of mp mi k nt fu re) := hDb.sub [0, 1, 2, 3, 4, 5, 6, 7, 8, 9] (by decide) rfl
  refine lv_dup hx hb dX1_digest_9 rfl ?_
  refine lv_iconst (v := 0) hx hb dX1_digest_10 (by decide) ?_
  refine lv_aload_n hx hb dX1_digest_11 rfl (lv_at hl 0 rfl) ?_
  refine mg_nt hC hK hP dX1_digest_12 ?_
  refine mxs hC hKb hPb hDb hS 0 rfl (by decide) (by decide) dX1_digest_15 (fun H locs hPb hDb hS => ?_)
  have hP : va_P D vwCl (mW z a 0 n w gn lk pu fa he nv of mp mi k nt fu re) H := hPb.sub [0, 1, 2, 3, 4, 5, 6, 7, 8, 9] rfl
  have hD : va_D A (mW z a 0 n w gn lk pu fa he nv of mp mi k nt fu re) := hDb.sub [0, 1, 2, 3, 4, 5, 6, 7, 8, 9] (by decide) rfl
  refine lv_dup hx hb dX1_digest_16 rfl ?_
  refine lv_iconst (v := 1) hx hb dX1_digest_17 (by decide) ?_
  refine lv_aload_n hx hb dX1_digest_18 rfl (lv_at hl 0 rfl) ?_
  refine mg_n hC hK hP dX1_digest_19 ?_
  refine mxs hC hKb hPb hDb hS 1 rfl (by decide) (by decide) dX1_digest_22 (fun H locs hPb hDb hS => ?_)
  have hP : va_P D vwCl (mW z a 0 n w gn lk pu fa he nv of mp mi k nt fu re) H := hPb.sub [0, 1, 2, 3, 4, 5, 6, 7, 8, 9] rfl
  have hD : va_D A (mW z a 0 n w gn lk pu fa he nv of mp mi k nt fu re) := hDb.sub [0, 1, 2, 3, 4, 5, 6, 7, 8, 9] (by decide) rfl
  refine lv_dup hx hb dX1_digest_23 rfl ?_
  refine lv_iconst (v := 2) hx hb dX1_digest_24 (by decide) ?_
  refine lv_aload_n hx hb dX1_digest_25 rfl (lv_at hl 0 rfl) ?_
  refine k_X1_living hC hK hP hl.1 ⟨Nat.le_of_ble_eq_true rfl, Nat.le_of_ble_eq_true rfl⟩ ⟨(show _ ≤ 11 by omega), (show _ ≤ 94 by omega)⟩ (Nat.le_of_ble_eq_true rfl)  (by first | assumption | omega) dX1_digest_26 ?_
  refine mxs hC hKb hPb hDb hS 2 rfl (by decide) (by decide) dX1_digest_29 (fun H locs hPb hDb hS => ?_)
  have hP : va_P D vwCl (mW z a 0 n w gn lk pu fa he nv of mp mi k nt fu re) H := hPb.sub [0, 1, 2, 3, 4, 5, 6, 7, 8, 9] rfl
  have hD : va_D A (mW z a 0 n w gn lk pu fa he nv of mp mi k nt fu re) := hDb.sub [0, 1, 2, 3, 4, 5, 6, 7, 8, 9] (by decide) rfl
  refine lv_dup hx hb dX1_digest_30 rfl ?_
  refine lv_iconst (v := 3) hx hb dX1_digest_31 (by decide) ?_
  refine lv_aload_n hx hb dX1_digest_32 rfl (lv_at hl 0 rfl) ?_
  refine mg_w hC hK hP dX1_digest_33 ?_
  refine mxs hC hKb hPb hDb hS 3 rfl (by decide) (by decide) dX1_digest_36 (fun H locs hPb hDb hS => ?_)
  have hP : va_P D vwCl (mW z a 0 n w gn lk pu fa he nv of mp mi k nt fu re) H := hPb.sub [0, 1, 2, 3, 4, 5, 6, 7, 8, 9] rfl
  have hD : va_D A (mW z a 0 n w gn lk pu fa he nv of mp mi k nt fu re) := hDb.sub [0, 1, 2, 3, 4, 5, 6, 7, 8, 9] (by decide) rfl
  refine lv_dup hx hb dX1_digest_37 rfl ?_
  refine lv_iconst (v := 4) hx hb dX1_digest_38 (by decide) ?_
  refine lv_aload_n hx hb dX1_digest_39 rfl (lv_at hl 0 rfl) ?_
  refine k_X1_shakenNow hC hK hP hl.1 ⟨Nat.le_of_ble_eq_true rfl, Nat.le_of_ble_eq_true rfl⟩ ⟨(show _ ≤ 11 by omega), (show _ ≤ 94 by omega)⟩ (Nat.le_of_ble_eq_true rfl)  (by first | assumption | omega) dX1_digest_40 ?_
  refine mxs hC hKb hPb hDb hS 4 rfl (by decide) (by decide) dX1_digest_43 (fun H locs hPb hDb hS => ?_)
  have hP : va_P D vwCl (mW z a 0 n w gn lk pu fa he nv of mp mi k nt fu re) H := hPb.sub [0, 1, 2, 3, 4, 5, 6, 7, 8, 9] rfl
  have hD : va_D A (mW z a 0 n w gn lk pu fa he nv of mp mi k nt fu re) := hDb.sub [0, 1, 2, 3, 4, 5, 6, 7, 8, 9] (by decide) rfl
  refine lv_dup hx hb dX1_digest_44 rfl ?_
  refine lv_iconst (v := 5) hx hb dX1_digest_45 (by decide) ?_
  refine lv_aload_n hx hb dX1_digest_46 rfl (lv_at hl 0 rfl) ?_
  refine mg_fu hC hK hP dX1_digest_47 ?_
  refine mxs hC hKb hPb hDb hS 5 rfl (by decide) (by decide) dX1_digest_50 (fun H locs hPb hDb hS => ?_)
  have hP : va_P D vwCl (mW z a 0 n w gn lk pu fa he nv of mp mi k nt fu re) H := hPb.sub [0, 1, 2, 3, 4, 5, 6, 7, 8, 9] rfl
  have hD : va_D A (mW z a 0 n w gn lk pu fa he nv of mp mi k nt fu re) := hDb.sub [0, 1, 2, 3, 4, 5, 6, 7, 8, 9] (by decide) rfl
  refine lv_dup hx hb dX1_digest_51 rfl ?_
  refine lv_bipush (v := 6) hx hb dX1_digest_52 (by decide) ?_
  refine lv_aload_n hx hb dX1_digest_54 rfl (lv_at hl 0 rfl) ?_
  refine mg_re hC hK hP dX1_digest_55 ?_
  refine mxs hC hKb hPb hDb hS 6 rfl (by decide) (by decide) dX1_digest_58 (fun H locs hPb hDb hS => ?_)
  have hP : va_P D vwCl (mW z a 0 n w gn lk pu fa he nv of mp mi k nt fu re) H := hPb.sub [0, 1, 2, 3, 4, 5, 6, 7, 8, 9] rfl
  have hD : va_D A (mW z a 0 n w gn lk pu fa he nv of mp mi k nt fu re) := hDb.sub [0, 1, 2, 3, 4, 5, 6, 7, 8, 9] (by decide) rfl
  refine lv_dup hx hb dX1_digest_59 rfl ?_
  refine lv_bipush (v := 7) hx hb dX1_digest_60 (by decide) ?_
  refine lv_aload_n hx hb dX1_digest_62 rfl (lv_at hl 0 rfl) ?_
  refine mg_k hC hK hP dX1_digest_63 ?_
  refine mxs hC hKb hPb hDb hS 7 rfl (by decide) (by decide) dX1_digest_66 (fun H locs hPb hDb hS => ?_)
  have hP : va_P D vwCl (mW z a 0 n w gn lk pu fa he nv of mp mi k nt fu re) H := hPb.sub [0, 1, 2, 3, 4, 5, 6, 7, 8, 9] rfl
  have hD : va_D A (mW z a 0 n w gn lk pu fa he nv of mp mi k nt fu re) := hDb.sub [0, 1, 2, 3, 4, 5, 6, 7, 8, 9] (by decide) rfl
  refine lv_dup hx hb dX1_digest_67 rfl ?_
  refine lv_bipush (v := 8) hx hb dX1_digest_68 (by decide) ?_
  refine lv_aload_n hx hb dX1_digest_70 rfl (lv_at hl 0 rfl) ?_
  refine k_X1_sealed hC hK hP hl.1 ⟨Nat.le_of_ble_eq_true rfl, Nat.le_of_ble_eq_true rfl⟩ ⟨(show _ ≤ 11 by omega), (show _ ≤ 94 by omega)⟩ (Nat.le_of_ble_eq_true rfl)  (by first | assumption | omega) dX1_digest_71 ?_
  refine mxs hC hKb hPb hDb hS 8 rfl (by decide) (by decide) dX1_digest_74 (fun H locs hPb hDb hS => ?_)
  have hP : va_P D vwCl (mW z a 0 n w gn lk pu fa he nv of mp mi k nt fu re) H := hPb.sub [0, 1, 2, 3, 4, 5, 6, 7, 8, 9] rfl
  have hD : va_D A (mW z a 0 n w gn lk pu fa he nv of mp mi k nt fu re) := hDb.sub [0, 1, 2, 3, 4, 5, 6, 7, 8, 9] (by decide) rfl
  refine lv_dup hx hb dX1_digest_75 rfl ?_
  refine lv_bipush (v := 9) hx hb dX1_digest_76 (by decide) ?_
  refine lv_aload_n hx hb dX1_digest_78 rfl (lv_at hl 0 rfl) ?_
  refine lv_bipush (v := 20) hx hb dX1_digest_79 (by decide) ?_
  refine k_X1_middle hC hK hP hl.1 ⟨Nat.le_of_ble_eq_true rfl, Nat.le_of_ble_eq_true rfl⟩ ⟨(show _ ≤ 11 by omega), (show _ ≤ 94 by omega)⟩ (Nat.le_of_ble_eq_true rfl)  hw dX1_digest_81 ?_
  refine mxs hC hKb hPb hDb hS 9 rfl (by decide) (by decide) dX1_digest_84 (fun H locs hPb hDb hS => ?_)
  have hP : va_P D vwCl (mW z a 0 n w gn lk pu fa he nv of mp mi k nt fu re) H := hPb.sub [0, 1, 2, 3, 4, 5, 6, 7, 8, 9] rfl
  have hD : va_D A (mW z a 0 n w gn lk pu fa he nv of mp mi k nt fu re) := hDb.sub [0, 1, 2, 3, 4, 5, 6, 7, 8, 9] (by decide) rfl
  refine lv_dup hx hb dX1_digest_85 rfl ?_
  refine lv_bipush (v := 10) hx hb dX1_digest_86 (by decide) ?_
  refine lv_aload_n hx hb dX1_digest_88 rfl (lv_at hl 0 rfl) ?_
  refine lv_bipush (v := 10) hx hb dX1_digest_89 (by decide) ?_
  refine k_X1_untilShaken hC hK hP hl.1 ⟨Nat.le_of_ble_eq_true rfl, Nat.le_of_ble_eq_true rfl⟩ ⟨(show _ ≤ 11 by omega), (show _ ≤ 94 by omega)⟩ (Nat.le_of_ble_eq_true rfl)  (by first | assumption | omega) dX1_digest_91 ?_
  refine mxs hC hKb hPb hDb hS 10 rfl (by decide) (by decide) dX1_digest_94 (fun H locs hPb hDb hS => ?_)
  have hP : va_P D vwCl (mW z a 0 n w gn lk pu fa he nv of mp mi k nt fu re) H := hPb.sub [0, 1, 2, 3, 4, 5, 6, 7, 8, 9] rfl
  have hD : va_D A (mW z a 0 n w gn lk pu fa he nv of mp mi k nt fu re) := hDb.sub [0, 1, 2, 3, 4, 5, 6, 7, 8, 9] (by decide) rfl
  refine lv_dup hx hb dX1_digest_95 rfl ?_
  refine lv_bipush (v := 11) hx hb dX1_digest_96 (by decide) ?_
  refine lv_aload_n hx hb dX1_digest_98 rfl (lv_at hl 0 rfl) ?_
  refine k_X1_untilCalm hC hK hP hl.1 ⟨Nat.le_of_ble_eq_true rfl, Nat.le_of_ble_eq_true rfl⟩ ⟨(show _ ≤ 11 by omega), (show _ ≤ 94 by omega)⟩ (Nat.le_of_ble_eq_true rfl)  (by first | assumption | omega) dX1_digest_99 ?_
  refine mxs hC hKb hPb hDb hS 11 rfl (by decide) (by decide) dX1_digest_102 (fun H locs hPb hDb hS => ?_)
  have hP : va_P D vwCl (mW z a 0 n w gn lk pu fa he nv of mp mi k nt fu re) H := hPb.sub [0, 1, 2, 3, 4, 5, 6, 7, 8, 9] rfl
  have hD : va_D A (mW z a 0 n w gn lk pu fa he nv of mp mi k nt fu re) := hDb.sub [0, 1, 2, 3, 4, 5, 6, 7, 8, 9] (by decide) rfl
  refine lv_dup hx hb dX1_digest_103 rfl ?_
  refine lv_bipush (v := 12) hx hb dX1_digest_104 (by decide) ?_
  refine lv_aload_n hx hb dX1_digest_106 rfl (lv_at hl 0 rfl) ?_
  refine k_X1_steady hC hK hP hl.1 ⟨Nat.le_of_ble_eq_true rfl, Nat.le_of_ble_eq_true rfl⟩ ⟨(show _ ≤ 11 by omega), (show _ ≤ 94 by omega)⟩ (Nat.le_of_ble_eq_true rfl)  (by first | assumption | omega) dX1_digest_107 ?_
  refine mxs hC hKb hPb hDb hS 12 rfl (by decide) (by decide) dX1_digest_110 (fun H locs hPb hDb hS => ?_)
  have hP : va_P D vwCl (mW z a 0 n w gn lk pu fa he nv of mp mi k nt fu re) H := hPb.sub [0, 1, 2, 3, 4, 5, 6, 7, 8, 9] rfl
  have hD : va_D A (mW z a 0 n w gn lk pu fa he nv of mp mi k nt fu re) := hDb.sub [0, 1, 2, 3, 4, 5, 6, 7, 8, 9] (by decide) rfl
  refine lv_dup hx hb dX1_digest_111 rfl ?_
  refine lv_bipush (v := 13) hx hb dX1_digest_112 (by decide) ?_
  refine lv_aload_n hx hb dX1_digest_114 rfl (lv_at hl 0 rfl) ?_
  refine k_X1_lucky hC hK hP hl.1 ⟨Nat.le_of_ble_eq_true rfl, Nat.le_of_ble_eq_true rfl⟩ ⟨(show _ ≤ 11 by omega), (show _ ≤ 94 by omega)⟩ (Nat.le_of_ble_eq_true rfl)  (by first | assumption | omega) dX1_digest_115 ?_
  refine mxs hC hKb hPb hDb hS 13 rfl (by decide) (by decide) dX1_digest_118 (fun H locs hPb hDb hS => ?_)
  have hP : va_P D vwCl (mW z a 0 n w gn lk pu fa he nv of mp mi k nt fu re) H := hPb.sub [0, 1, 2, 3, 4, 5, 6, 7, 8, 9] rfl
  have hD : va_D A (mW z a 0 n w gn lk pu fa he nv of mp mi k nt fu re) := hDb.sub [0, 1, 2, 3, 4, 5, 6, 7, 8, 9] (by decide) rfl
  obtain ⟨f1, ef1⟩ : ∃ f : Nat → Int32, f = upd (upd (upd (upd (upd (upd (upd (upd (upd (upd (upd (upd (upd (upd zf 0 nt) 1 (nI n)) 2 (mq_liv gn n)) 3 (nI w)) 4 (sp_shk nv w)) 5 fu) 6 re) 7 (nI k)) 8 (sp_cert mi k)) 9 (mq_mid of nv 20 w)) 10 (mq_usk of nv w 10)) 11 (mq_ucl of nv w)) 12 (mq_best of nv w)) 13 (mq_best gn lk n) := ⟨_, rfl⟩
  rw [← ef1] at hPb hDb
  refine lv_astore_n (lv' := [(1, .ref q1), (0, .ref (a 0))]) hx hb dX1_digest_119 rfl hl (by decide) rfl (fun ls hl => ?_)
  refine lv_ldc2 (v := 1951) hx hb hown (hts _ mL_X1_165) dX1_digest_120 ?_
  refine lv_lstore_n (lv' := [(2, .long 1951), (1, .ref q1), (0, .ref (a 0))]) hx hb dX1_digest_123 rfl hl (by decide) rfl (fun ls hl => ?_)
  refine lv_aload_n hx hb dX1_digest_124 rfl (lv_at hl 1 rfl) ?_
  refine lv_astore (lv' := [(4, .ref q1), (2, .long 1951), (1, .ref q1), (0, .ref (a 0))]) hx hb dX1_digest_125 hl (by decide) rfl (fun ls hl => ?_)
  refine lv_aload hx hb dX1_digest_127 (lv_at hl 0 rfl) ?_
  refine mxn hC hKb hPb dX1_digest_129 ?_
  refine lv_istore (lv' := [(5, .int (nI 14)), (4, .ref q1), (2, .long 1951), (1, .ref q1), (0, .ref (a 0))]) hx hb dX1_digest_130 hl (by decide) rfl (fun ls hl => ?_)
  refine lv_iconst (v := 0) hx hb dX1_digest_132 (by decide) ?_
  refine lv_istore (lv' := [(6, .int 0), (5, .int (nI 14)), (4, .ref q1), (2, .long 1951), (1, .ref q1), (0, .ref (a 0))]) hx hb dX1_digest_133 hl (by decide) rfl (fun ls hl => ?_)
  have loop_135 : ∀ (f : Nat) (i : Nat) (g : Int64), i ≤ 14 → 14 + 1 ≤ i + f → g = mq_dl f1 (1951) i → ∀ ls : Array Slot, lv_has ls 10 [(0, .ref (a 0)), (2, .long g), (4, .ref q1), (5, .int (nI 14)), (6, .int (nI i))] → W p l e ({ frames := 6, cells := 11, slots := 94, locals := 130 } : Room) s m ([.ref (a 0)] : List Value).toArray below meth c H locs (0 + 1) (0 + 14) (MQ below (va_Ql (fun (r : Int64) (_ : Unit) => r = sp_dlast mp mi k (mq_dwit nv of (mq_dpers n gn lk pu fa he mp mi k (mq_dreg n w gn lk nv of mi k nt fu re) n) w)) (fun _ t9 => va_P D vwCl (mW z a 0 n w gn lk pu fa he nv of mp mi k nt fu re) t9.heap ∧ kK D z t9 ∧ va_D A (mW z a 0 n w gn lk pu fa he nv of mp mi k nt fu re)) A) ([.ref (a 0)] : List Value).toArray s 11 94 A) (F0 m 135 ls []) := by
    intro f
    induction f with
    | zero =>
      intro i g hi hf eg
      exact absurd hf (by omega)
    | succ f ih135 =>
      intro i g hi hf135 eg ls hl
      refine lv_iload hx hb dX1_digest_135 (lv_at hl 4 rfl) ?_
      refine lv_iload hx hb dX1_digest_137 (lv_at hl 3 rfl) ?_
      refine lv_icmp_ge (tgt := 165) hx hb dX1_digest_139 (by decide) (fun c_139 => ?_) (fun c_139 => ?_)
      · have nc_139 : 14 ≤ i := nn_le (by omega) c_139
        refine lv_iconst (v := 0) hx hb dX1_digest_165 (by decide) ?_
        refine lv_istore (lv' := [(4, .int 0), (0, .ref (a 0)), (2, .long g), (5, .int (nI 14)), (6, .int (nI i))]) hx hb dX1_digest_166 hl (by decide) rfl (fun ls hl => ?_)
        have loop_168 : ∀ (f : Nat) (j : Nat) (d : Int64), j ≤ n → n + 1 ≤ j + f → d = mq_dpers n gn lk pu fa he mp mi k (mq_dreg n w gn lk nv of mi k nt fu re) j → ∀ (H : Heap) (locs : List Loc), va_P D vwCl (mW z a 0 n w gn lk pu fa he nv of mp mi k nt fu re) H → va_D A (mW z a 0 n w gn lk pu fa he nv of mp mi k nt fu re) → va_S A s.heap H locs → ∀ ls : Array Slot, lv_has ls 10 [(0, .ref (a 0)), (2, .long d), (4, .int (nI j))] → W p l e ({ frames := 6, cells := 11, slots := 94, locals := 130 } : Room) s m ([.ref (a 0)] : List Value).toArray below meth c H locs (1 + j) (14 + 8 * j) (MQ below (va_Ql (fun (r : Int64) (_ : Unit) => r = sp_dlast mp mi k (mq_dwit nv of (mq_dpers n gn lk pu fa he mp mi k (mq_dreg n w gn lk nv of mi k nt fu re) n) w)) (fun _ t9 => va_P D vwCl (mW z a 0 n w gn lk pu fa he nv of mp mi k nt fu re) t9.heap ∧ kK D z t9 ∧ va_D A (mW z a 0 n w gn lk pu fa he nv of mp mi k nt fu re)) A) ([.ref (a 0)] : List Value).toArray s 11 94 A) (F0 m 168 ls []) := by
          intro f
          induction f with
          | zero =>
            intro j d hj hf ed
            exact absurd hf (by omega)
          | succ f ih168 =>
            intro j d hj hfp ed H locs hP hD hS ls hl
            refine lv_iload hx hb dX1_digest_168 (lv_at hl 2 rfl) ?_
            refine lv_aload_n hx hb dX1_digest_170 rfl (lv_at hl 0 rfl) ?_
            refine mg_n hC hK hP dX1_digest_171 ?_
            refine lv_icmp_ge (tgt := 318) hx hb dX1_digest_174 (by decide) (fun c_174 => ?_) (fun c_174 => ?_)
            · have nc_174 : n ≤ j := nn_le (by omega) c_174
              refine lv_iconst (v := 0) hx hb dX1_digest_318 (by decide) ?_
              refine lv_istore (lv' := [(4, .int 0), (0, .ref (a 0)), (2, .long d)]) hx hb dX1_digest_319 hl (by decide) rfl (fun ls hl => ?_)
              have loop_321 : ∀ (f : Nat) (i : Nat) (g : Int64), i ≤ w → w + 1 ≤ i + f → g = mq_dwit nv of (mq_dpers n gn lk pu fa he mp mi k (mq_dreg n w gn lk nv of mi k nt fu re) n) i → ∀ ls : Array Slot, lv_has ls 10 [(0, .ref (a 0)), (2, .long g), (4, .int (nI i))] → W p l e ({ frames := 6, cells := 11, slots := 94, locals := 130 } : Room) s m ([.ref (a 0)] : List Value).toArray below meth c H locs (1 + j) (14 + 8 * j) (MQ below (va_Ql (fun (r : Int64) (_ : Unit) => r = sp_dlast mp mi k (mq_dwit nv of (mq_dpers n gn lk pu fa he mp mi k (mq_dreg n w gn lk nv of mi k nt fu re) n) w)) (fun _ t9 => va_P D vwCl (mW z a 0 n w gn lk pu fa he nv of mp mi k nt fu re) t9.heap ∧ kK D z t9 ∧ va_D A (mW z a 0 n w gn lk pu fa he nv of mp mi k nt fu re)) A) ([.ref (a 0)] : List Value).toArray s 11 94 A) (F0 m 321 ls []) := by
                intro f
                induction f with
                | zero =>
                  intro i g hi hf eg
                  exact absurd hf (by omega)
                | succ f ih321 =>
                  intro i g hi hfw eg ls hl
                  refine lv_iload hx hb dX1_digest_321 (lv_at hl 2 rfl) ?_
                  refine lv_aload_n hx hb dX1_digest_323 rfl (lv_at hl 0 rfl) ?_
                  refine mg_w hC hK hP dX1_digest_324 ?_
                  refine lv_icmp_ge (tgt := 374) hx hb dX1_digest_327 (by decide) (fun c_327 => ?_) (fun c_327 => ?_)
                  · have nc_327 : w ≤ i := nn_le (by omega) c_327
                    refine lv_lload_n hx hb dX1_digest_374 rfl (lv_at hl 1 rfl) ?_
                    refine lv_ldc2 (v := 31) hx hb hown (hts _ mL_X1_167) dX1_digest_375 ?_
                    refine lv_lmul hx hb dX1_digest_378 ?_
                    refine lv_aload_n hx hb dX1_digest_379 rfl (lv_at hl 0 rfl) ?_
                    refine mg_k hC hK hP dX1_digest_380 ?_
                    refine lv_if_ne (tgt := 390) hx hb dX1_digest_383 (by decide) (fun c_383 => ?_) (fun c_383 => ?_)
                    · have nc_383 : ¬ k = 0 := nn_ne (by omega) c_383
                      have hk0 : ¬ k = 0 := fun q => c_383 (by rw [q]; rfl)
                      refine lv_aload_n hx hb dX1_digest_390 rfl (lv_at hl 0 rfl) ?_
                      refine mg_mi hC hK hP dX1_digest_391 ?_
                      refine lv_aload_n hx hb dX1_digest_394 rfl (lv_at hl 0 rfl) ?_
                      refine mg_k hC hK hP dX1_digest_395 ?_
                      refine lv_iconst (v := 1) hx hb dX1_digest_398 (by decide) ?_
                      refine lv_isub hx hb dX1_digest_399 ?_
                      refine ml_mi hC hK hP (k - 1) (dl_2 hk0) (by omega) dX1_digest_400 ?_
                      refine lv_i2l hx hb dX1_digest_401 rfl ?_
                      refine lv_ladd hx hb dX1_digest_402 ?_
                      refine lv_lstore_n (lv' := [(2, .long ((g * 31) + ((mi (k - 1)).toInt64))), (0, .ref (a 0)), (4, .int (nI i))]) hx hb dX1_digest_403 rfl hl (by decide) rfl (fun ls hl => ?_)
                      refine lv_lload_n hx hb dX1_digest_404 rfl (lv_at hl 0 rfl) ?_
                      refine lv_ldc2 (v := 31) hx hb hown (hts _ mL_X1_167) dX1_digest_405 ?_
                      refine lv_lmul hx hb dX1_digest_408 ?_
                      refine lv_aload_n hx hb dX1_digest_409 rfl (lv_at hl 1 rfl) ?_
                      refine mg_k hC hK hP dX1_digest_410 ?_
                      refine lv_if_ne (tgt := 420) hx hb dX1_digest_413 (by decide) (fun c_413 => ?_) (fun c_413 => ?_)
                      · have nc_413 : ¬ k = 0 := nn_ne (by omega) c_413
                        refine lv_aload_n hx hb dX1_digest_420 rfl (lv_at hl 1 rfl) ?_
                        refine lv_aload_n hx hb dX1_digest_421 rfl (lv_at hl 1 rfl) ?_
                        refine mg_k hC hK hP dX1_digest_422 ?_
                        refine lv_iconst (v := 1) hx hb dX1_digest_425 (by decide) ?_
                        refine lv_isub hx hb dX1_digest_426 ?_
                        refine k_X1_sealAt hC hK hP (hE.at hS) hl.1 ⟨Nat.le_of_ble_eq_true rfl, Nat.le_of_ble_eq_true rfl⟩ ⟨(show _ ≤ 11 by omega), (show _ ≤ 94 by omega)⟩ (Nat.le_of_ble_eq_true rfl) (dl_2 hk0) (by first | assumption | omega) dX1_digest_427 ?_
                        refine lv_i2l hx hb dX1_digest_430 rfl ?_
                        refine lv_ladd hx hb dX1_digest_431 ?_
                        refine lv_lstore_n (lv' := [(2, .long ((((g * 31) + ((mi (k - 1)).toInt64)) * 31) + ((sp_seal (mp (k - 1)) (mi (k - 1))).toInt64))), (0, .ref (a 0)), (4, .int (nI i))]) hx hb dX1_digest_432 rfl hl (by decide) rfl (fun ls hl => ?_)
                        refine lv_lload_n hx hb dX1_digest_433 rfl (lv_at hl 0 rfl) ?_
                        refine W.widen (k := 11) (n := 94) (by omega) (by omega) ?_
                        exact W.lret (v := (((g * 31) + ((mi (k - 1)).toInt64)) * 31) + ((sp_seal (mp (k - 1)) (mi (k - 1))).toInt64)) hx hb hr (fun t ht hW => ⟨⟨(((g * 31) + ((mi (k - 1)).toInt64)) * 31) + ((sp_seal (mp (k - 1)) (mi (k - 1))).toInt64), (), rfl, (by rw [eg, show i = w by omega]; unfold sp_dlast; rw [if_neg hk0]; simp [sp_mix]), by rw [ht]; exact hP, va_K.moved hW.alike hK, hD⟩, hS.F ht⟩) hS.2.2 dX1_digest_434
                      · exact absurd c_413 c_383
                    · have nc_383 : k = 0 := nn_eq (by omega) c_383
                      have hk0 : k = 0 := nn_eq (b := 0) (by omega) c_383
                      refine lv_iconst (v := 0) hx hb dX1_digest_386 (by decide) ?_
                      refine lv_goto (tgt := 401) hx hb dX1_digest_387 (by decide) ?_
                      refine lv_i2l hx hb dX1_digest_401 rfl ?_
                      refine lv_ladd hx hb dX1_digest_402 ?_
                      refine lv_lstore_n (lv' := [(2, .long ((g * 31) + ((0 : Int32).toInt64))), (0, .ref (a 0)), (4, .int (nI i))]) hx hb dX1_digest_403 rfl hl (by decide) rfl (fun ls hl => ?_)
                      refine lv_lload_n hx hb dX1_digest_404 rfl (lv_at hl 0 rfl) ?_
                      refine lv_ldc2 (v := 31) hx hb hown (hts _ mL_X1_167) dX1_digest_405 ?_
                      refine lv_lmul hx hb dX1_digest_408 ?_
                      refine lv_aload_n hx hb dX1_digest_409 rfl (lv_at hl 1 rfl) ?_
                      refine mg_k hC hK hP dX1_digest_410 ?_
                      refine lv_if_ne (tgt := 420) hx hb dX1_digest_413 (by decide) (fun c_413 => ?_) (fun c_413 => ?_)
                      · exact absurd c_383 c_413
                      · have nc_413 : k = 0 := nn_eq (by omega) c_413
                        refine lv_iconst (v := 0) hx hb dX1_digest_416 (by decide) ?_
                        refine lv_goto (tgt := 430) hx hb dX1_digest_417 (by decide) ?_
                        refine lv_i2l hx hb dX1_digest_430 rfl ?_
                        refine lv_ladd hx hb dX1_digest_431 ?_
                        refine lv_lstore_n (lv' := [(2, .long ((((g * 31) + ((0 : Int32).toInt64)) * 31) + ((0 : Int32).toInt64))), (0, .ref (a 0)), (4, .int (nI i))]) hx hb dX1_digest_432 rfl hl (by decide) rfl (fun ls hl => ?_)
                        refine lv_lload_n hx hb dX1_digest_433 rfl (lv_at hl 0 rfl) ?_
                        refine W.widen (k := 11) (n := 94) (by omega) (by omega) ?_
                        exact W.lret (v := (((g * 31) + ((0 : Int32).toInt64)) * 31) + ((0 : Int32).toInt64)) hx hb hr (fun t ht hW => ⟨⟨(((g * 31) + ((0 : Int32).toInt64)) * 31) + ((0 : Int32).toInt64), (), rfl, (by rw [eg, show i = w by omega]; unfold sp_dlast; rw [if_pos hk0]; simp [sp_mix]), by rw [ht]; exact hP, va_K.moved hW.alike hK, hD⟩, hS.F ht⟩) hS.2.2 dX1_digest_434
                  · have nc_327 : i < w := nn_nle (by omega) c_327
                    refine lv_lload_n hx hb dX1_digest_330 rfl (lv_at hl 1 rfl) ?_
                    refine lv_ldc2 (v := 31) hx hb hown (hts _ mL_X1_167) dX1_digest_331 ?_
                    refine lv_lmul hx hb dX1_digest_334 ?_
                    refine lv_aload_n hx hb dX1_digest_335 rfl (lv_at hl 0 rfl) ?_
                    refine mg_nv hC hK hP dX1_digest_336 ?_
                    refine lv_iload hx hb dX1_digest_339 (lv_at hl 2 rfl) ?_
                    refine ml_nv hC hK hP i rfl (by omega) dX1_digest_341 ?_
                    refine lv_i2l hx hb dX1_digest_342 rfl ?_
                    refine lv_ladd hx hb dX1_digest_343 ?_
                    refine lv_lstore_n (lv' := [(2, .long ((g * 31) + ((nv i).toInt64))), (0, .ref (a 0)), (4, .int (nI i))]) hx hb dX1_digest_344 rfl hl (by decide) rfl (fun ls hl => ?_)
                    refine lv_lload_n hx hb dX1_digest_345 rfl (lv_at hl 0 rfl) ?_
                    refine lv_ldc2 (v := 31) hx hb hown (hts _ mL_X1_167) dX1_digest_346 ?_
                    refine lv_lmul hx hb dX1_digest_349 ?_
                    refine lv_aload_n hx hb dX1_digest_350 rfl (lv_at hl 1 rfl) ?_
                    refine mg_of hC hK hP dX1_digest_351 ?_
                    refine lv_iload hx hb dX1_digest_354 (lv_at hl 2 rfl) ?_
                    refine ml_of hC hK hP i rfl (by omega) dX1_digest_356 ?_
                    refine lv_if_eq (tgt := 364) hx hb dX1_digest_357 (by decide) (fun c_357 => ?_) (fun c_357 => ?_)
                    · refine lv_iconst (v := 1) hx hb dX1_digest_364 (by decide) ?_
                      refine lv_i2l hx hb dX1_digest_365 rfl ?_
                      refine lv_ladd hx hb dX1_digest_366 ?_
                      refine lv_lstore_n (lv' := [(2, .long ((((g * 31) + ((nv i).toInt64)) * 31) + ((1 : Int32).toInt64))), (0, .ref (a 0)), (4, .int (nI i))]) hx hb dX1_digest_367 rfl hl (by decide) rfl (fun ls hl => ?_)
                      refine lv_iinc (v := nI (i + 1)) (lv' := [(4, .int (nI (i + 1))), (2, .long ((((g * 31) + ((nv i).toInt64)) * 31) + ((1 : Int32).toInt64))), (0, .ref (a 0))]) hx hb dX1_digest_368 hl (k := 2) rfl (nI_1 _) (by decide) rfl (fun ls hl => ?_)
                      refine lv_goto (tgt := 321) hx hb dX1_digest_371 (by decide) ?_
                      exact ih321 (i + 1) ((((g * 31) + ((nv i).toInt64)) * 31) + ((1 : Int32).toInt64)) (by omega) (by omega) (by rw [eg]; simp [mq_dwit, sp_mix, sp_not, c_357]) _ (lv_sub hl [2, 1, 0] rfl)
                    · refine lv_iconst (v := 0) hx hb dX1_digest_360 (by decide) ?_
                      refine lv_goto (tgt := 365) hx hb dX1_digest_361 (by decide) ?_
                      refine lv_i2l hx hb dX1_digest_365 rfl ?_
                      refine lv_ladd hx hb dX1_digest_366 ?_
                      refine lv_lstore_n (lv' := [(2, .long ((((g * 31) + ((nv i).toInt64)) * 31) + ((0 : Int32).toInt64))), (0, .ref (a 0)), (4, .int (nI i))]) hx hb dX1_digest_367 rfl hl (by decide) rfl (fun ls hl => ?_)
                      refine lv_iinc (v := nI (i + 1)) (lv' := [(4, .int (nI (i + 1))), (2, .long ((((g * 31) + ((nv i).toInt64)) * 31) + ((0 : Int32).toInt64))), (0, .ref (a 0))]) hx hb dX1_digest_368 hl (k := 2) rfl (nI_1 _) (by decide) rfl (fun ls hl => ?_)
                      refine lv_goto (tgt := 321) hx hb dX1_digest_371 (by decide) ?_
                      exact ih321 (i + 1) ((((g * 31) + ((nv i).toInt64)) * 31) + ((0 : Int32).toInt64)) (by omega) (by omega) (by rw [eg]; simp [mq_dwit, sp_mix, sp_not, c_357]) _ (lv_sub hl [2, 1, 0] rfl)
              exact loop_321 (w + 1) 0 d (Nat.zero_le _) (by omega) (by rw [ed, show j = n by omega]; rfl) _ (lv_sub hl [1, 2, 0] rfl)
            · have nc_174 : j < n := nn_nle (by omega) c_174
              refine lv_bipush (v := 8) hx hb dX1_digest_177 (by decide) ?_
              refine va_newa (atype := .int) (a0 := (8, .inl zf)) hx hb (hts _ mA_int) rfl hK hP hD hS hA (fun _ => rfl) (by decide) (by decide) (by decide) (show _ ≤ 11 by omega) (show _ ≤ 94 by omega) dX1_digest_179 (fun q2 c2 H hKb hPb hDb hS => ?_)
              have hKb : va_K D vwCl [(z.1, .int), (z.2, .boolean), (c2, .int)] s := hKb
              have hP : va_P D vwCl (mW z a 0 n w gn lk pu fa he nv of mp mi k nt fu re) H := hPb.sub [0, 1, 2, 3, 4, 5, 6, 7, 8, 9] rfl
              have hD : va_D A (mW z a 0 n w gn lk pu fa he nv of mp mi k nt fu re) := hDb.sub [0, 1, 2, 3, 4, 5, 6, 7, 8, 9] (by decide) rfl
              refine lv_dup hx hb dX1_digest_181 rfl ?_
              refine lv_iconst (v := 0) hx hb dX1_digest_182 (by decide) ?_
              refine lv_aload_n hx hb dX1_digest_183 rfl (lv_at hl 0 rfl) ?_
              refine mg_gn hC hK hP dX1_digest_184 ?_
              refine lv_iload hx hb dX1_digest_187 (lv_at hl 2 rfl) ?_
              refine ml_gn hC hK hP j rfl (by omega) dX1_digest_189 ?_
              refine lv_if_eq (tgt := 197) hx hb dX1_digest_190 (by decide) (fun c_190 => ?_) (fun c_190 => ?_)
              · refine lv_iconst (v := 1) hx hb dX1_digest_197 (by decide) ?_
                refine mxs hC hKb hPb hDb hS 0 rfl (by decide) (by decide) dX1_digest_198 (fun H locs hPb hDb hS => ?_)
                have hP : va_P D vwCl (mW z a 0 n w gn lk pu fa he nv of mp mi k nt fu re) H := hPb.sub [0, 1, 2, 3, 4, 5, 6, 7, 8, 9] rfl
                have hD : va_D A (mW z a 0 n w gn lk pu fa he nv of mp mi k nt fu re) := hDb.sub [0, 1, 2, 3, 4, 5, 6, 7, 8, 9] (by decide) rfl
                refine lv_dup hx hb dX1_digest_199 rfl ?_
                refine lv_iconst (v := 1) hx hb dX1_digest_200 (by decide) ?_
                refine lv_aload_n hx hb dX1_digest_201 rfl (lv_at hl 0 rfl) ?_
                refine mg_lk hC hK hP dX1_digest_202 ?_
                refine lv_iload hx hb dX1_digest_205 (lv_at hl 2 rfl) ?_
                refine ml_lk hC hK hP j rfl (by omega) dX1_digest_207 ?_
                refine mxs hC hKb hPb hDb hS 1 rfl (by decide) (by decide) dX1_digest_208 (fun H locs hPb hDb hS => ?_)
                have hP : va_P D vwCl (mW z a 0 n w gn lk pu fa he nv of mp mi k nt fu re) H := hPb.sub [0, 1, 2, 3, 4, 5, 6, 7, 8, 9] rfl
                have hD : va_D A (mW z a 0 n w gn lk pu fa he nv of mp mi k nt fu re) := hDb.sub [0, 1, 2, 3, 4, 5, 6, 7, 8, 9] (by decide) rfl
                refine lv_dup hx hb dX1_digest_209 rfl ?_
                refine lv_iconst (v := 2) hx hb dX1_digest_210 (by decide) ?_
                refine lv_aload_n hx hb dX1_digest_211 rfl (lv_at hl 0 rfl) ?_
                refine mg_pu hC hK hP dX1_digest_212 ?_
                refine lv_iload hx hb dX1_digest_215 (lv_at hl 2 rfl) ?_
                refine ml_pu hC hK hP j rfl (by omega) dX1_digest_217 ?_
                refine mxs hC hKb hPb hDb hS 2 rfl (by decide) (by decide) dX1_digest_218 (fun H locs hPb hDb hS => ?_)
                have hP : va_P D vwCl (mW z a 0 n w gn lk pu fa he nv of mp mi k nt fu re) H := hPb.sub [0, 1, 2, 3, 4, 5, 6, 7, 8, 9] rfl
                have hD : va_D A (mW z a 0 n w gn lk pu fa he nv of mp mi k nt fu re) := hDb.sub [0, 1, 2, 3, 4, 5, 6, 7, 8, 9] (by decide) rfl
                refine lv_dup hx hb dX1_digest_219 rfl ?_
                refine lv_iconst (v := 3) hx hb dX1_digest_220 (by decide) ?_
                refine lv_aload_n hx hb dX1_digest_221 rfl (lv_at hl 0 rfl) ?_
                refine mg_fa hC hK hP dX1_digest_222 ?_
                refine lv_iload hx hb dX1_digest_225 (lv_at hl 2 rfl) ?_
                refine ml_fa hC hK hP j rfl (by omega) dX1_digest_227 ?_
                refine mxs hC hKb hPb hDb hS 3 rfl (by decide) (by decide) dX1_digest_228 (fun H locs hPb hDb hS => ?_)
                have hP : va_P D vwCl (mW z a 0 n w gn lk pu fa he nv of mp mi k nt fu re) H := hPb.sub [0, 1, 2, 3, 4, 5, 6, 7, 8, 9] rfl
                have hD : va_D A (mW z a 0 n w gn lk pu fa he nv of mp mi k nt fu re) := hDb.sub [0, 1, 2, 3, 4, 5, 6, 7, 8, 9] (by decide) rfl
                refine lv_dup hx hb dX1_digest_229 rfl ?_
                refine lv_iconst (v := 4) hx hb dX1_digest_230 (by decide) ?_
                refine lv_aload_n hx hb dX1_digest_231 rfl (lv_at hl 0 rfl) ?_
                refine mg_he hC hK hP dX1_digest_232 ?_
                refine lv_iload hx hb dX1_digest_235 (lv_at hl 2 rfl) ?_
                refine ml_he hC hK hP j rfl (by omega) dX1_digest_237 ?_
                refine mxs hC hKb hPb hDb hS 4 rfl (by decide) (by decide) dX1_digest_238 (fun H locs hPb hDb hS => ?_)
                have hP : va_P D vwCl (mW z a 0 n w gn lk pu fa he nv of mp mi k nt fu re) H := hPb.sub [0, 1, 2, 3, 4, 5, 6, 7, 8, 9] rfl
                have hD : va_D A (mW z a 0 n w gn lk pu fa he nv of mp mi k nt fu re) := hDb.sub [0, 1, 2, 3, 4, 5, 6, 7, 8, 9] (by decide) rfl
                refine lv_dup hx hb dX1_digest_239 rfl ?_
                refine lv_iconst (v := 5) hx hb dX1_digest_240 (by decide) ?_
                refine lv_aload_n hx hb dX1_digest_241 rfl (lv_at hl 0 rfl) ?_
                refine lv_iload hx hb dX1_digest_242 (lv_at hl 2 rfl) ?_
                refine k_X1_last hC hK hP hl.1 ⟨Nat.le_of_ble_eq_true rfl, Nat.le_of_ble_eq_true rfl⟩ ⟨(show _ ≤ 11 by omega), (show _ ≤ 94 by omega)⟩ (Nat.le_of_ble_eq_true rfl) rfl (by first | assumption | omega) (by first | assumption | omega) (by first | assumption | omega) dX1_digest_244 ?_
                refine mxs hC hKb hPb hDb hS 5 rfl (by decide) (by decide) dX1_digest_247 (fun H locs hPb hDb hS => ?_)
                have hP : va_P D vwCl (mW z a 0 n w gn lk pu fa he nv of mp mi k nt fu re) H := hPb.sub [0, 1, 2, 3, 4, 5, 6, 7, 8, 9] rfl
                have hD : va_D A (mW z a 0 n w gn lk pu fa he nv of mp mi k nt fu re) := hDb.sub [0, 1, 2, 3, 4, 5, 6, 7, 8, 9] (by decide) rfl
                refine lv_dup hx hb dX1_digest_248 rfl ?_
                refine lv_bipush (v := 6) hx hb dX1_digest_249 (by decide) ?_
                refine lv_aload_n hx hb dX1_digest_251 rfl (lv_at hl 0 rfl) ?_
                refine lv_iload hx hb dX1_digest_252 (lv_at hl 2 rfl) ?_
                refine k_X1_many hC hK hP hl.1 ⟨Nat.le_of_ble_eq_true rfl, Nat.le_of_ble_eq_true rfl⟩ ⟨(show _ ≤ 11 by omega), (show _ ≤ 94 by omega)⟩ (Nat.le_of_ble_eq_true rfl) rfl (by first | assumption | omega) dX1_digest_254 ?_
                refine mxs hC hKb hPb hDb hS 6 rfl (by decide) (by decide) dX1_digest_257 (fun H locs hPb hDb hS => ?_)
                have hP : va_P D vwCl (mW z a 0 n w gn lk pu fa he nv of mp mi k nt fu re) H := hPb.sub [0, 1, 2, 3, 4, 5, 6, 7, 8, 9] rfl
                have hD : va_D A (mW z a 0 n w gn lk pu fa he nv of mp mi k nt fu re) := hDb.sub [0, 1, 2, 3, 4, 5, 6, 7, 8, 9] (by decide) rfl
                refine lv_dup hx hb dX1_digest_258 rfl ?_
                refine lv_bipush (v := 7) hx hb dX1_digest_259 (by decide) ?_
                refine lv_aload_n hx hb dX1_digest_261 rfl (lv_at hl 0 rfl) ?_
                refine lv_iload hx hb dX1_digest_262 (lv_at hl 2 rfl) ?_
                refine k_X1_closest hC hK hP hl.1 ⟨Nat.le_of_ble_eq_true rfl, Nat.le_of_ble_eq_true rfl⟩ ⟨(show _ ≤ 11 by omega), (show _ ≤ 94 by omega)⟩ (Nat.le_of_ble_eq_true rfl) rfl (by first | assumption | omega) dX1_digest_264 ?_
                refine mxs hC hKb hPb hDb hS 7 rfl (by decide) (by decide) dX1_digest_267 (fun H locs hPb hDb hS => ?_)
                have hP : va_P D vwCl (mW z a 0 n w gn lk pu fa he nv of mp mi k nt fu re) H := hPb.sub [0, 1, 2, 3, 4, 5, 6, 7, 8, 9] rfl
                have hD : va_D A (mW z a 0 n w gn lk pu fa he nv of mp mi k nt fu re) := hDb.sub [0, 1, 2, 3, 4, 5, 6, 7, 8, 9] (by decide) rfl
                obtain ⟨f2, ef2⟩ : ∃ f : Nat → Int32, f = upd (upd (upd (upd (upd (upd (upd (upd zf 0 1) 1 (lk j)) 2 (pu j)) 3 (fa j)) 4 (he j)) 5 (mq_last he gn j (n + 1) j)) 6 (sp_many mp (nI j) k)) 7 (sp_close mp mi (nI j) k) := ⟨_, rfl⟩
                rw [← ef2] at hPb hDb
                refine lv_astore (lv' := [(5, .ref q2), (0, .ref (a 0)), (2, .long d), (4, .int (nI j))]) hx hb dX1_digest_268 hl (by decide) rfl (fun ls hl => ?_)
                refine lv_aload hx hb dX1_digest_270 (lv_at hl 0 rfl) ?_
                refine lv_astore (lv' := [(6, .ref q2), (5, .ref q2), (0, .ref (a 0)), (2, .long d), (4, .int (nI j))]) hx hb dX1_digest_272 hl (by decide) rfl (fun ls hl => ?_)
                refine lv_aload hx hb dX1_digest_274 (lv_at hl 0 rfl) ?_
                refine mxn hC hKb hPb dX1_digest_276 ?_
                refine lv_istore (lv' := [(7, .int (nI 8)), (6, .ref q2), (5, .ref q2), (0, .ref (a 0)), (2, .long d), (4, .int (nI j))]) hx hb dX1_digest_277 hl (by decide) rfl (fun ls hl => ?_)
                refine lv_iconst (v := 0) hx hb dX1_digest_279 (by decide) ?_
                refine lv_istore (lv' := [(8, .int 0), (7, .int (nI 8)), (6, .ref q2), (5, .ref q2), (0, .ref (a 0)), (2, .long d), (4, .int (nI j))]) hx hb dX1_digest_280 hl (by decide) rfl (fun ls hl => ?_)
                have loop_282 : ∀ (f : Nat) (r : Nat) (h : Int64), r ≤ 8 → 8 + 1 ≤ r + f → h = mq_dl f2 (d) r → ∀ ls : Array Slot, lv_has ls 10 [(0, .ref (a 0)), (4, .int (nI j)), (2, .long h), (6, .ref q2), (7, .int (nI 8)), (8, .int (nI r))] → W p l e ({ frames := 6, cells := 11, slots := 94, locals := 130 } : Room) s m ([.ref (a 0)] : List Value).toArray below meth c H locs (1 + j + 1) (14 + 8 * j + 8) (MQ below (va_Ql (fun (r : Int64) (_ : Unit) => r = sp_dlast mp mi k (mq_dwit nv of (mq_dpers n gn lk pu fa he mp mi k (mq_dreg n w gn lk nv of mi k nt fu re) n) w)) (fun _ t9 => va_P D vwCl (mW z a 0 n w gn lk pu fa he nv of mp mi k nt fu re) t9.heap ∧ kK D z t9 ∧ va_D A (mW z a 0 n w gn lk pu fa he nv of mp mi k nt fu re)) A) ([.ref (a 0)] : List Value).toArray s 11 94 A) (F0 m 282 ls []) := by
                  intro f
                  induction f with
                  | zero =>
                    intro r h hr hf eh
                    exact absurd hf (by omega)
                  | succ f ih282 =>
                    intro r h hr hf282 eh ls hl
                    refine lv_iload hx hb dX1_digest_282 (lv_at hl 5 rfl) ?_
                    refine lv_iload hx hb dX1_digest_284 (lv_at hl 4 rfl) ?_
                    refine lv_icmp_ge (tgt := 312) hx hb dX1_digest_286 (by decide) (fun c_286 => ?_) (fun c_286 => ?_)
                    · have nc_286 : 8 ≤ r := nn_le (by omega) c_286
                      refine lv_iinc (v := nI (j + 1)) (lv' := [(4, .int (nI (j + 1))), (0, .ref (a 0)), (2, .long h), (6, .ref q2), (7, .int (nI 8)), (8, .int (nI r))]) hx hb dX1_digest_312 hl (k := 1) rfl (nI_1 _) (by decide) rfl (fun ls hl => ?_)
                      refine lv_goto (tgt := 168) hx hb dX1_digest_315 (by decide) ?_
                      refine W.widen (k := 1 + (j + 1)) (n := 14 + 8 * (j + 1)) (by omega) (by omega) ?_
                      exact ih168 (j + 1) h (by omega) (by omega) (by rw [eh, show r = 8 by omega, ef2, ed]; simp [mq_dl, mq_dpers, mq_dper, upd]; try (simp [sp_not, c_190])) _ _ hP hD hS _ (lv_sub hl [1, 2, 0] rfl)
                    · have nc_286 : r < 8 := nn_nle (by omega) c_286
                      refine lv_aload hx hb dX1_digest_289 (lv_at hl 3 rfl) ?_
                      refine lv_iload hx hb dX1_digest_291 (lv_at hl 5 rfl) ?_
                      refine mxl hC hKb hPb r rfl (by omega) (by omega) dX1_digest_293 ?_
                      refine lv_istore (lv' := [(9, .int (f2 r)), (0, .ref (a 0)), (4, .int (nI j)), (2, .long h), (6, .ref q2), (7, .int (nI 8)), (8, .int (nI r))]) hx hb dX1_digest_294 hl (by decide) rfl (fun ls hl => ?_)
                      refine lv_lload_n hx hb dX1_digest_296 rfl (lv_at hl 3 rfl) ?_
                      refine lv_ldc2 (v := 31) hx hb hown (hts _ mL_X1_167) dX1_digest_297 ?_
                      refine lv_lmul hx hb dX1_digest_300 ?_
                      refine lv_iload hx hb dX1_digest_301 (lv_at hl 0 rfl) ?_
                      refine lv_i2l hx hb dX1_digest_303 rfl ?_
                      refine lv_ladd hx hb dX1_digest_304 ?_
                      refine lv_lstore_n (lv' := [(2, .long ((h * 31) + ((f2 r).toInt64))), (9, .int (f2 r)), (0, .ref (a 0)), (4, .int (nI j)), (6, .ref q2), (7, .int (nI 8)), (8, .int (nI r))]) hx hb dX1_digest_305 rfl hl (by decide) rfl (fun ls hl => ?_)
                      refine lv_iinc (v := nI (r + 1)) (lv' := [(8, .int (nI (r + 1))), (2, .long ((h * 31) + ((f2 r).toInt64))), (9, .int (f2 r)), (0, .ref (a 0)), (4, .int (nI j)), (6, .ref q2), (7, .int (nI 8))]) hx hb dX1_digest_306 hl (k := 6) rfl (nI_1 _) (by decide) rfl (fun ls hl => ?_)
                      refine lv_goto (tgt := 282) hx hb dX1_digest_309 (by decide) ?_
                      exact ih282 (r + 1) ((h * 31) + ((f2 r).toInt64)) (by omega) (by omega) (by rw [eh]; rfl) _ (lv_sub hl [3, 4, 1, 5, 6, 0] rfl)
                exact loop_282 (8 + 1) 0 d (Nat.zero_le _) (by omega) rfl _ (lv_sub hl [4, 6, 5, 2, 1, 0] rfl)
              · refine lv_iconst (v := 0) hx hb dX1_digest_193 (by decide) ?_
                refine lv_goto (tgt := 198) hx hb dX1_digest_194 (by decide) ?_
                refine mxs hC hKb hPb hDb hS 0 rfl (by decide) (by decide) dX1_digest_198 (fun H locs hPb hDb hS => ?_)
                have hP : va_P D vwCl (mW z a 0 n w gn lk pu fa he nv of mp mi k nt fu re) H := hPb.sub [0, 1, 2, 3, 4, 5, 6, 7, 8, 9] rfl
                have hD : va_D A (mW z a 0 n w gn lk pu fa he nv of mp mi k nt fu re) := hDb.sub [0, 1, 2, 3, 4, 5, 6, 7, 8, 9] (by decide) rfl
                refine lv_dup hx hb dX1_digest_199 rfl ?_
                refine lv_iconst (v := 1) hx hb dX1_digest_200 (by decide) ?_
                refine lv_aload_n hx hb dX1_digest_201 rfl (lv_at hl 0 rfl) ?_
                refine mg_lk hC hK hP dX1_digest_202 ?_
                refine lv_iload hx hb dX1_digest_205 (lv_at hl 2 rfl) ?_
                refine ml_lk hC hK hP j rfl (by omega) dX1_digest_207 ?_
                refine mxs hC hKb hPb hDb hS 1 rfl (by decide) (by decide) dX1_digest_208 (fun H locs hPb hDb hS => ?_)
                have hP : va_P D vwCl (mW z a 0 n w gn lk pu fa he nv of mp mi k nt fu re) H := hPb.sub [0, 1, 2, 3, 4, 5, 6, 7, 8, 9] rfl
                have hD : va_D A (mW z a 0 n w gn lk pu fa he nv of mp mi k nt fu re) := hDb.sub [0, 1, 2, 3, 4, 5, 6, 7, 8, 9] (by decide) rfl
                refine lv_dup hx hb dX1_digest_209 rfl ?_
                refine lv_iconst (v := 2) hx hb dX1_digest_210 (by decide) ?_
                refine lv_aload_n hx hb dX1_digest_211 rfl (lv_at hl 0 rfl) ?_
                refine mg_pu hC hK hP dX1_digest_212 ?_
                refine lv_iload hx hb dX1_digest_215 (lv_at hl 2 rfl) ?_
                refine ml_pu hC hK hP j rfl (by omega) dX1_digest_217 ?_
                refine mxs hC hKb hPb hDb hS 2 rfl (by decide) (by decide) dX1_digest_218 (fun H locs hPb hDb hS => ?_)
                have hP : va_P D vwCl (mW z a 0 n w gn lk pu fa he nv of mp mi k nt fu re) H := hPb.sub [0, 1, 2, 3, 4, 5, 6, 7, 8, 9] rfl
                have hD : va_D A (mW z a 0 n w gn lk pu fa he nv of mp mi k nt fu re) := hDb.sub [0, 1, 2, 3, 4, 5, 6, 7, 8, 9] (by decide) rfl
                refine lv_dup hx hb dX1_digest_219 rfl ?_
                refine lv_iconst (v := 3) hx hb dX1_digest_220 (by decide) ?_
                refine lv_aload_n hx hb dX1_digest_221 rfl (lv_at hl 0 rfl) ?_
                refine mg_fa hC hK hP dX1_digest_222 ?_
                refine lv_iload hx hb dX1_digest_225 (lv_at hl 2 rfl) ?_
                refine ml_fa hC hK hP j rfl (by omega) dX1_digest_227 ?_
                refine mxs hC hKb hPb hDb hS 3 rfl (by decide) (by decide) dX1_digest_228 (fun H locs hPb hDb hS => ?_)
                have hP : va_P D vwCl (mW z a 0 n w gn lk pu fa he nv of mp mi k nt fu re) H := hPb.sub [0, 1, 2, 3, 4, 5, 6, 7, 8, 9] rfl
                have hD : va_D A (mW z a 0 n w gn lk pu fa he nv of mp mi k nt fu re) := hDb.sub [0, 1, 2, 3, 4, 5, 6, 7, 8, 9] (by decide) rfl
                refine lv_dup hx hb dX1_digest_229 rfl ?_
                refine lv_iconst (v := 4) hx hb dX1_digest_230 (by decide) ?_
                refine lv_aload_n hx hb dX1_digest_231 rfl (lv_at hl 0 rfl) ?_
                refine mg_he hC hK hP dX1_digest_232 ?_
                refine lv_iload hx hb dX1_digest_235 (lv_at hl 2 rfl) ?_
                refine ml_he hC hK hP j rfl (by omega) dX1_digest_237 ?_
                refine mxs hC hKb hPb hDb hS 4 rfl (by decide) (by decide) dX1_digest_238 (fun H locs hPb hDb hS => ?_)
                have hP : va_P D vwCl (mW z a 0 n w gn lk pu fa he nv of mp mi k nt fu re) H := hPb.sub [0, 1, 2, 3, 4, 5, 6, 7, 8, 9] rfl
                have hD : va_D A (mW z a 0 n w gn lk pu fa he nv of mp mi k nt fu re) := hDb.sub [0, 1, 2, 3, 4, 5, 6, 7, 8, 9] (by decide) rfl
                refine lv_dup hx hb dX1_digest_239 rfl ?_
                refine lv_iconst (v := 5) hx hb dX1_digest_240 (by decide) ?_
                refine lv_aload_n hx hb dX1_digest_241 rfl (lv_at hl 0 rfl) ?_
                refine lv_iload hx hb dX1_digest_242 (lv_at hl 2 rfl) ?_
                refine k_X1_last hC hK hP hl.1 ⟨Nat.le_of_ble_eq_true rfl, Nat.le_of_ble_eq_true rfl⟩ ⟨(show _ ≤ 11 by omega), (show _ ≤ 94 by omega)⟩ (Nat.le_of_ble_eq_true rfl) rfl (by first | assumption | omega) (by first | assumption | omega) (by first | assumption | omega) dX1_digest_244 ?_
                refine mxs hC hKb hPb hDb hS 5 rfl (by decide) (by decide) dX1_digest_247 (fun H locs hPb hDb hS => ?_)
                have hP : va_P D vwCl (mW z a 0 n w gn lk pu fa he nv of mp mi k nt fu re) H := hPb.sub [0, 1, 2, 3, 4, 5, 6, 7, 8, 9] rfl
                have hD : va_D A (mW z a 0 n w gn lk pu fa he nv of mp mi k nt fu re) := hDb.sub [0, 1, 2, 3, 4, 5, 6, 7, 8, 9] (by decide) rfl
                refine lv_dup hx hb dX1_digest_248 rfl ?_
                refine lv_bipush (v := 6) hx hb dX1_digest_249 (by decide) ?_
                refine lv_aload_n hx hb dX1_digest_251 rfl (lv_at hl 0 rfl) ?_
                refine lv_iload hx hb dX1_digest_252 (lv_at hl 2 rfl) ?_
                refine k_X1_many hC hK hP hl.1 ⟨Nat.le_of_ble_eq_true rfl, Nat.le_of_ble_eq_true rfl⟩ ⟨(show _ ≤ 11 by omega), (show _ ≤ 94 by omega)⟩ (Nat.le_of_ble_eq_true rfl) rfl (by first | assumption | omega) dX1_digest_254 ?_
                refine mxs hC hKb hPb hDb hS 6 rfl (by decide) (by decide) dX1_digest_257 (fun H locs hPb hDb hS => ?_)
                have hP : va_P D vwCl (mW z a 0 n w gn lk pu fa he nv of mp mi k nt fu re) H := hPb.sub [0, 1, 2, 3, 4, 5, 6, 7, 8, 9] rfl
                have hD : va_D A (mW z a 0 n w gn lk pu fa he nv of mp mi k nt fu re) := hDb.sub [0, 1, 2, 3, 4, 5, 6, 7, 8, 9] (by decide) rfl
                refine lv_dup hx hb dX1_digest_258 rfl ?_
                refine lv_bipush (v := 7) hx hb dX1_digest_259 (by decide) ?_
                refine lv_aload_n hx hb dX1_digest_261 rfl (lv_at hl 0 rfl) ?_
                refine lv_iload hx hb dX1_digest_262 (lv_at hl 2 rfl) ?_
                refine k_X1_closest hC hK hP hl.1 ⟨Nat.le_of_ble_eq_true rfl, Nat.le_of_ble_eq_true rfl⟩ ⟨(show _ ≤ 11 by omega), (show _ ≤ 94 by omega)⟩ (Nat.le_of_ble_eq_true rfl) rfl (by first | assumption | omega) dX1_digest_264 ?_
                refine mxs hC hKb hPb hDb hS 7 rfl (by decide) (by decide) dX1_digest_267 (fun H locs hPb hDb hS => ?_)
                have hP : va_P D vwCl (mW z a 0 n w gn lk pu fa he nv of mp mi k nt fu re) H := hPb.sub [0, 1, 2, 3, 4, 5, 6, 7, 8, 9] rfl
                have hD : va_D A (mW z a 0 n w gn lk pu fa he nv of mp mi k nt fu re) := hDb.sub [0, 1, 2, 3, 4, 5, 6, 7, 8, 9] (by decide) rfl
                obtain ⟨f2, ef2⟩ : ∃ f : Nat → Int32, f = upd (upd (upd (upd (upd (upd (upd (upd zf 0 0) 1 (lk j)) 2 (pu j)) 3 (fa j)) 4 (he j)) 5 (mq_last he gn j (n + 1) j)) 6 (sp_many mp (nI j) k)) 7 (sp_close mp mi (nI j) k) := ⟨_, rfl⟩
                rw [← ef2] at hPb hDb
                refine lv_astore (lv' := [(5, .ref q2), (0, .ref (a 0)), (2, .long d), (4, .int (nI j))]) hx hb dX1_digest_268 hl (by decide) rfl (fun ls hl => ?_)
                refine lv_aload hx hb dX1_digest_270 (lv_at hl 0 rfl) ?_
                refine lv_astore (lv' := [(6, .ref q2), (5, .ref q2), (0, .ref (a 0)), (2, .long d), (4, .int (nI j))]) hx hb dX1_digest_272 hl (by decide) rfl (fun ls hl => ?_)
                refine lv_aload hx hb dX1_digest_274 (lv_at hl 0 rfl) ?_
                refine mxn hC hKb hPb dX1_digest_276 ?_
                refine lv_istore (lv' := [(7, .int (nI 8)), (6, .ref q2), (5, .ref q2), (0, .ref (a 0)), (2, .long d), (4, .int (nI j))]) hx hb dX1_digest_277 hl (by decide) rfl (fun ls hl => ?_)
                refine lv_iconst (v := 0) hx hb dX1_digest_279 (by decide) ?_
                refine lv_istore (lv' := [(8, .int 0), (7, .int (nI 8)), (6, .ref q2), (5, .ref q2), (0, .ref (a 0)), (2, .long d), (4, .int (nI j))]) hx hb dX1_digest_280 hl (by decide) rfl (fun ls hl => ?_)
                have loop_282 : ∀ (f : Nat) (r : Nat) (h : Int64), r ≤ 8 → 8 + 1 ≤ r + f → h = mq_dl f2 (d) r → ∀ ls : Array Slot, lv_has ls 10 [(0, .ref (a 0)), (4, .int (nI j)), (2, .long h), (6, .ref q2), (7, .int (nI 8)), (8, .int (nI r))] → W p l e ({ frames := 6, cells := 11, slots := 94, locals := 130 } : Room) s m ([.ref (a 0)] : List Value).toArray below meth c H locs (1 + j + 1) (14 + 8 * j + 8) (MQ below (va_Ql (fun (r : Int64) (_ : Unit) => r = sp_dlast mp mi k (mq_dwit nv of (mq_dpers n gn lk pu fa he mp mi k (mq_dreg n w gn lk nv of mi k nt fu re) n) w)) (fun _ t9 => va_P D vwCl (mW z a 0 n w gn lk pu fa he nv of mp mi k nt fu re) t9.heap ∧ kK D z t9 ∧ va_D A (mW z a 0 n w gn lk pu fa he nv of mp mi k nt fu re)) A) ([.ref (a 0)] : List Value).toArray s 11 94 A) (F0 m 282 ls []) := by
                  intro f
                  induction f with
                  | zero =>
                    intro r h hr hf eh
                    exact absurd hf (by omega)
                  | succ f ih282 =>
                    intro r h hr hf282 eh ls hl
                    refine lv_iload hx hb dX1_digest_282 (lv_at hl 5 rfl) ?_
                    refine lv_iload hx hb dX1_digest_284 (lv_at hl 4 rfl) ?_
                    refine lv_icmp_ge (tgt := 312) hx hb dX1_digest_286 (by decide) (fun c_286 => ?_) (fun c_286 => ?_)
                    · have nc_286 : 8 ≤ r := nn_le (by omega) c_286
                      refine lv_iinc (v := nI (j + 1)) (lv' := [(4, .int (nI (j + 1))), (0, .ref (a 0)), (2, .long h), (6, .ref q2), (7, .int (nI 8)), (8, .int (nI r))]) hx hb dX1_digest_312 hl (k := 1) rfl (nI_1 _) (by decide) rfl (fun ls hl => ?_)
                      refine lv_goto (tgt := 168) hx hb dX1_digest_315 (by decide) ?_
                      refine W.widen (k := 1 + (j + 1)) (n := 14 + 8 * (j + 1)) (by omega) (by omega) ?_
                      exact ih168 (j + 1) h (by omega) (by omega) (by rw [eh, show r = 8 by omega, ef2, ed]; simp [mq_dl, mq_dpers, mq_dper, upd]; try (simp [sp_not, c_190])) _ _ hP hD hS _ (lv_sub hl [1, 2, 0] rfl)
                    · have nc_286 : r < 8 := nn_nle (by omega) c_286
                      refine lv_aload hx hb dX1_digest_289 (lv_at hl 3 rfl) ?_
                      refine lv_iload hx hb dX1_digest_291 (lv_at hl 5 rfl) ?_
                      refine mxl hC hKb hPb r rfl (by omega) (by omega) dX1_digest_293 ?_
                      refine lv_istore (lv' := [(9, .int (f2 r)), (0, .ref (a 0)), (4, .int (nI j)), (2, .long h), (6, .ref q2), (7, .int (nI 8)), (8, .int (nI r))]) hx hb dX1_digest_294 hl (by decide) rfl (fun ls hl => ?_)
                      refine lv_lload_n hx hb dX1_digest_296 rfl (lv_at hl 3 rfl) ?_
                      refine lv_ldc2 (v := 31) hx hb hown (hts _ mL_X1_167) dX1_digest_297 ?_
                      refine lv_lmul hx hb dX1_digest_300 ?_
                      refine lv_iload hx hb dX1_digest_301 (lv_at hl 0 rfl) ?_
                      refine lv_i2l hx hb dX1_digest_303 rfl ?_
                      refine lv_ladd hx hb dX1_digest_304 ?_
                      refine lv_lstore_n (lv' := [(2, .long ((h * 31) + ((f2 r).toInt64))), (9, .int (f2 r)), (0, .ref (a 0)), (4, .int (nI j)), (6, .ref q2), (7, .int (nI 8)), (8, .int (nI r))]) hx hb dX1_digest_305 rfl hl (by decide) rfl (fun ls hl => ?_)
                      refine lv_iinc (v := nI (r + 1)) (lv' := [(8, .int (nI (r + 1))), (2, .long ((h * 31) + ((f2 r).toInt64))), (9, .int (f2 r)), (0, .ref (a 0)), (4, .int (nI j)), (6, .ref q2), (7, .int (nI 8))]) hx hb dX1_digest_306 hl (k := 6) rfl (nI_1 _) (by decide) rfl (fun ls hl => ?_)
                      refine lv_goto (tgt := 282) hx hb dX1_digest_309 (by decide) ?_
                      exact ih282 (r + 1) ((h * 31) + ((f2 r).toInt64)) (by omega) (by omega) (by rw [eh]; rfl) _ (lv_sub hl [3, 4, 1, 5, 6, 0] rfl)
                exact loop_282 (8 + 1) 0 d (Nat.zero_le _) (by omega) rfl _ (lv_sub hl [4, 6, 5, 2, 1, 0] rfl)
        exact loop_168 (n + 1) 0 g (Nat.zero_le _) (by omega) (by rw [eg, show i = 14 by omega, ef1]; simp [mq_dl, mq_dpers, mq_dreg, upd]) _ _ hP hD hS _ (lv_sub hl [1, 2, 0] rfl)
      · have nc_139 : i < 14 := nn_nle (by omega) c_139
        refine lv_aload hx hb dX1_digest_142 (lv_at hl 2 rfl) ?_
        refine lv_iload hx hb dX1_digest_144 (lv_at hl 4 rfl) ?_
        refine mxl hC hKb hPb i rfl (by omega) (by omega) dX1_digest_146 ?_
        refine lv_istore (lv' := [(7, .int (f1 i)), (0, .ref (a 0)), (2, .long g), (4, .ref q1), (5, .int (nI 14)), (6, .int (nI i))]) hx hb dX1_digest_147 hl (by decide) rfl (fun ls hl => ?_)
        refine lv_lload_n hx hb dX1_digest_149 rfl (lv_at hl 2 rfl) ?_
        refine lv_ldc2 (v := 31) hx hb hown (hts _ mL_X1_167) dX1_digest_150 ?_
        refine lv_lmul hx hb dX1_digest_153 ?_
        refine lv_iload hx hb dX1_digest_154 (lv_at hl 0 rfl) ?_
        refine lv_i2l hx hb dX1_digest_156 rfl ?_
        refine lv_ladd hx hb dX1_digest_157 ?_
        refine lv_lstore_n (lv' := [(2, .long ((g * 31) + ((f1 i).toInt64))), (7, .int (f1 i)), (0, .ref (a 0)), (4, .ref q1), (5, .int (nI 14)), (6, .int (nI i))]) hx hb dX1_digest_158 rfl hl (by decide) rfl (fun ls hl => ?_)
        refine lv_iinc (v := nI (i + 1)) (lv' := [(6, .int (nI (i + 1))), (2, .long ((g * 31) + ((f1 i).toInt64))), (7, .int (f1 i)), (0, .ref (a 0)), (4, .ref q1), (5, .int (nI 14))]) hx hb dX1_digest_159 hl (k := 5) rfl (nI_1 _) (by decide) rfl (fun ls hl => ?_)
        refine lv_goto (tgt := 135) hx hb dX1_digest_162 (by decide) ?_
        exact ih135 (i + 1) ((g * 31) + ((f1 i).toInt64)) (by omega) (by omega) (by rw [eg]; rfl) _ (lv_sub hl [3, 1, 4, 5, 0] rfl)
  exact loop_135 (14 + 1) 0 1951 (Nat.zero_le _) (by omega) rfl _ (lv_sub hl [5, 3, 2, 1, 0] rfl)

/-! Fit over a list of items -/
theorem v_cast {p : Program} {l : Launch} {e : Env} {R : Room} {s : State} {m : MethodId} {args : Array Value} {below : List Frame} {meth : Method} {c : Code} {H : Heap} {locs : List Loc} {cells slots : Nat} {Q : State → Prop} {cc : ByteArray} {pc : Nat} {ls : Array Slot} {rest : List Value} {g : KGt} {I : Nat → Prop} {it : Nat → Int32} {a : Nat} {own : String} {idx : Nat} (hx : p.tables.exec = Jvm.exec) (hb : c.code = cc) (hown : s.vm.findClass own = some m.cls) (hts : ∀ w ∈ kG, w.before args s = true) (hKK : KK g s) (hlink : Cond.classLink own idx "BoxGlue$Item" ∈ kG) (hit : kItem g I a it H) (hdg : decode cc pc = .ok (.checkcast idx, 3)) (kk : W p l e R s m args below meth c H locs cells slots Q (F0 m (pc + 3) ls (.ref a :: rest))) : W p l e R s m args below meth c H locs cells slots Q (F0 m pc ls (.ref a :: rest)) := by
  have hK := hKK.1
  obtain ⟨-, ⟨hs0, o0⟩ | ⟨hs0, r, -, o0, o1⟩ | ⟨hs0, o0⟩ | ⟨hs0, o0⟩⟩ := hit
  · exact va_castY (C := "BoxGlue$Put") hx hb hown (hts _ hlink) (hKK.2.1 (.castable "BoxGlue$Put" "BoxGlue$Item") (by decide +kernel)) (va_recv hK (k_one o0) (ci := 4) (q0 := 0) rfl rfl) hdg kk
  · exact va_castY (C := "BoxGlue$Glue") hx hb hown (hts _ hlink) (hKK.2.1 (.castable "BoxGlue$Glue" "BoxGlue$Item") (by decide +kernel)) (va_recv hK (k_one o0) (ci := 5) (q0 := 0) rfl rfl) hdg kk
  · exact va_castY (C := "BoxGlue$Kern") hx hb hown (hts _ hlink) (hKK.2.1 (.castable "BoxGlue$Kern" "BoxGlue$Item") (by decide +kernel)) (va_recv hK (k_one o0) (ci := 6) (q0 := 0) rfl rfl) hdg kk
  · exact va_castY (C := "BoxGlue$Rule") hx hb hown (hts _ hlink) (hKK.2.1 (.castable "BoxGlue$Rule" "BoxGlue$Item") (by decide +kernel)) (va_recv hK (k_one o0) (ci := 7) (q0 := 0) rfl rfl) hdg kk
theorem v_sort {p : Program} {l : Launch} {e : Env} {R : Room} {s : State} {m : MethodId} {args : Array Value} {below : List Frame} {meth : Method} {c : Code} {H : Heap} {locs : List Loc} {cells slots : Nat} {Q : State → Prop} {cc : ByteArray} {pc : Nat} {ls : Array Slot} {rest : List Value} {g : KGt} {I : Nat → Prop} {it : Nat → Int32} {a : Nat} {own : String} {idx : Nat} (hx : p.tables.exec = Jvm.exec) (hb : c.code = cc) (hown : s.vm.findClass own = some m.cls) (hts : ∀ w ∈ kG, w.before args s = true) (hKK : KK g s) (hlink : Cond.fieldLink own idx "BoxGlue$Item" "sort" "I" ∈ kG) (hit : kItem g I a it H) (hdg : decode cc pc = .ok (.getfield idx, 3)) (kk : W p l e R s m args below meth c H locs cells slots Q (F0 m (pc + 3) ls (.int (it 0) :: rest))) : W p l e R s m args below meth c H locs cells slots Q (F0 m pc ls (.ref a :: rest)) := by
  have hK := hKK.1
  obtain ⟨-, ⟨hs0, o0⟩ | ⟨hs0, r, -, o0, o1⟩ | ⟨hs0, o0⟩ | ⟨hs0, o0⟩⟩ := hit
  · exact va_get (D := g.1) (ci := 4) (v := .int (it 0)) (C := "BoxGlue$Put") (T := kT_Put) (N := 4) hx hb hts ki_Put hown hK (k_one o0) 0 rfl rfl 0 (by decide) (hts _ hlink) (fun _ h9 => h9) rfl hdg kk
  · exact va_get (D := g.1) (ci := 5) (v := .int (it 0)) (C := "BoxGlue$Glue") (T := kT_Glue) (N := 7) hx hb hts ki_Glue hown hK (k_one o0) 0 rfl rfl 0 (by decide) (hts _ hlink) (fun _ h9 => h9) rfl hdg kk
  · exact va_get (D := g.1) (ci := 6) (v := .int (it 0)) (C := "BoxGlue$Kern") (T := kT_Kern) (N := 2) hx hb hts ki_Kern hown hK (k_one o0) 0 rfl rfl 0 (by decide) (hts _ hlink) (fun _ h9 => h9) rfl hdg kk
  · exact va_get (D := g.1) (ci := 7) (v := .int (it 0)) (C := "BoxGlue$Rule") (T := kT_Rule) (N := 4) hx hb hts ki_Rule hown hK (k_one o0) 0 rfl rfl 0 (by decide) (hts _ hlink) (fun _ h9 => h9) rfl hdg kk
theorem v_own {p : Program} {l : Launch} {e : Env} {R : Room} {s : State} {m : MethodId} {args : Array Value} {below : List Frame} {meth : Method} {c : Code} {H : Heap} {locs : List Loc} {cells slots : Nat} {Q : State → Prop} {cc : ByteArray} {pc : Nat} {ls : Array Slot} {rest : List Value} {g : KGt} {I : Nat → Prop} {it : Nat → Int32} {a : Nat} {own : String} {idx : Nat} (hx : p.tables.exec = Jvm.exec) (hb : c.code = cc) (hown : s.vm.findClass own = some m.cls) (hts : ∀ w ∈ kG, w.before args s = true) (hKK : KK g s) (hlink : Cond.fieldLink own idx "BoxGlue$Item" "ownLength" "I" ∈ kG) (hit : kItem g I a it H) (hdg : decode cc pc = .ok (.getfield idx, 3)) (kk : W p l e R s m args below meth c H locs cells slots Q (F0 m (pc + 3) ls (.int (it 1) :: rest))) : W p l e R s m args below meth c H locs cells slots Q (F0 m pc ls (.ref a :: rest)) := by
  have hK := hKK.1
  obtain ⟨-, ⟨hs0, o0⟩ | ⟨hs0, r, -, o0, o1⟩ | ⟨hs0, o0⟩ | ⟨hs0, o0⟩⟩ := hit
  · exact va_get (D := g.1) (ci := 4) (v := .int (it 1)) (C := "BoxGlue$Put") (T := kT_Put) (N := 4) hx hb hts ki_Put hown hK (k_one o0) 0 rfl rfl 1 (by decide) (hts _ hlink) (fun _ h9 => h9) rfl hdg kk
  · exact va_get (D := g.1) (ci := 5) (v := .int (it 1)) (C := "BoxGlue$Glue") (T := kT_Glue) (N := 7) hx hb hts ki_Glue hown hK (k_one o0) 0 rfl rfl 1 (by decide) (hts _ hlink) (fun _ h9 => h9) rfl hdg kk
  · exact va_get (D := g.1) (ci := 6) (v := .int (it 1)) (C := "BoxGlue$Kern") (T := kT_Kern) (N := 2) hx hb hts ki_Kern hown hK (k_one o0) 0 rfl rfl 1 (by decide) (hts _ hlink) (fun _ h9 => h9) rfl hdg kk
  · exact va_get (D := g.1) (ci := 7) (v := .int (it 1)) (C := "BoxGlue$Rule") (T := kT_Rule) (N := 4) hx hb hts ki_Rule hown hK (k_one o0) 0 rfl rfl 1 (by decide) (hts _ hlink) (fun _ h9 => h9) rfl hdg kk
def l_len (its : Nat → Nat → Int32) (n : Nat) : Int32 := l_sum (fun i => its i 1) n
set_option maxHeartbeats 4000000 in
set_option maxRecDepth 100000 in
theorem c_Fit_lengthOf (l : Launch) (g : KGt) (H0 : Heap) (I : Nat → Prop) (h0 n : Nat) (el : Nat → Nat) (its : Nat → Nat → Int32) (o : kAL g h0 n el H0) (hi : ∀ i, i < n → kItem g I (el i) (its i) H0) : Met l y_Fit_lengthOf (kW y_Fit_lengthOf b_Fit_lengthOf 3 (.some .int)) ({ frames := 3, cells := 0, slots := 0, locals := 64 }) (kPc [.ref h0] (KK g) H0) (kQc (kPure (.int (l_len its n)) H0)) 0 0 (fun _ => False) := by
  refine Met.ofW (cc := b_Fit_lengthOf) (maxL := 3) (ret := (.some .int)) (by decide) rfl ?_
  intro p e s m args below meth c s₁ B hml hv
  obtain ⟨rfl, hH, hKK⟩ := hv
  have hx := B.exec
  have hb := B.bytes
  have hr := B.returns
  have hts := kW_ts (atoms_spec (ws := kW y_Fit_lengthOf b_Fit_lengthOf 3 (.some .int)) B.pre)
  have hown : s.vm.findClass "BoxGlue$Fit" = some m.cls := findClass_of_methodNamed B.named
  have hlocks := B.notSynchronized
  have hK := hKK.1
  subst hH
  have hl := lv_entry ([.ref h0]) (n := 3) (Nat.le_of_ble_eq_true rfl)
  rw [lg_entry_eq]
  generalize (lg_sl ([.ref h0]) ++ List.replicate (3 - (lg_sl ([.ref h0])).length) Slot.unset).toArray = ls at hl ⊢
  have hl : lv_has ls 3 [(0, .ref h0)] := hl
  have hn := o.n_lt
  refine lv_iconst (v := 0) hx hb d_Fit_lengthOf_0 (by decide) ?_
  refine lv_istore_n (lv' := [(1, .int 0), (0, .ref h0)]) hx hb d_Fit_lengthOf_1 rfl hl (by decide) rfl (fun ls hl => ?_)
  refine lv_iconst (v := 0) hx hb d_Fit_lengthOf_2 (by decide) ?_
  refine lv_istore_n (lv' := [(2, .int 0), (1, .int 0), (0, .ref h0)]) hx hb d_Fit_lengthOf_3 rfl hl (by decide) rfl (fun ls hl => ?_)
  have key : ∀ (j i : Nat) (ls : Array Slot), i + j = n → lv_has ls 3 [(2, .int (nI i)), (1, .int (l_len its i)), (0, .ref h0)] → W p l e (headSpec (kW y_Fit_lengthOf b_Fit_lengthOf 3 (.some .int)) { frames := 3, cells := 0, slots := 0, locals := 64 }).room s m #[Value.ref h0] below meth c s.heap [] 0 0 (MQ below (kQc (kPure (.int (l_len its n)) s.heap)) #[Value.ref h0] s 0 0 (fun _ => False)) (F0 m 4 ls []) := by
    intro j
    induction j with
    | zero =>
      intro i ls hij hl
      refine lv_iload_n hx hb d_Fit_lengthOf_4 rfl (lv_at hl 0 rfl) ?_
      refine lv_aload_n hx hb d_Fit_lengthOf_5 rfl (lv_at hl 2 rfl) ?_
      refine k_pure (r := .int (nI n)) (W.runV (As := []) (rest := [.int (nI i)]) ⟨hx, hb, hml, hown, hts⟩ (c_AL_size l g s.heap h0 n el o) (cwV 0 hts (kV_good kw_76 kw_354 kw_74 kw_75 kw_4) rfl rfl rfl (by decide +kernel) ⟨Nat.le_of_ble_eq_true rfl, Nat.le_of_ble_eq_true rfl⟩) (k_preV (KK_st g) hKK (o.recv hK)) rfl rfl hl.1 rfl (lv_room (Nat.le_of_ble_eq_true rfl)) d_Fit_lengthOf_6 ⟨Nat.zero_le _, Nat.zero_le _⟩) ?_
      refine lv_icmp_ge (tgt := 32) hx hb d_Fit_lengthOf_9 (by decide) (fun c_1 => ?_) (fun c_1 => ?_)
      rotate_left
      · exact absurd c_1 (fun q => q (by rw [show i = n by omega]; exact Int32.le_refl _))
      refine lv_iload_n hx hb d_Fit_lengthOf_32 rfl (lv_at hl 1 rfl) ?_
      exact W.iret (v := (l_len its i)) hx hb hr (fun t ht hW => ⟨_, rfl, (by rw [show i = n by omega]), ht⟩) (fun _ h => by cases h) d_Fit_lengthOf_33
    | succ j ih =>
      intro i ls hij hl
      refine lv_iload_n hx hb d_Fit_lengthOf_4 rfl (lv_at hl 0 rfl) ?_
      refine lv_aload_n hx hb d_Fit_lengthOf_5 rfl (lv_at hl 2 rfl) ?_
      refine k_pure (r := .int (nI n)) (W.runV (As := []) (rest := [.int (nI i)]) ⟨hx, hb, hml, hown, hts⟩ (c_AL_size l g s.heap h0 n el o) (cwV 0 hts (kV_good kw_76 kw_354 kw_74 kw_75 kw_4) rfl rfl rfl (by decide +kernel) ⟨Nat.le_of_ble_eq_true rfl, Nat.le_of_ble_eq_true rfl⟩) (k_preV (KK_st g) hKK (o.recv hK)) rfl rfl hl.1 rfl (lv_room (Nat.le_of_ble_eq_true rfl)) d_Fit_lengthOf_6 ⟨Nat.zero_le _, Nat.zero_le _⟩) ?_
      refine lv_icmp_ge (tgt := 32) hx hb d_Fit_lengthOf_9 (by decide) (fun c_2 => ?_) (fun c_2 => ?_)
      · exact absurd c_2 (nI_ge (by omega) (by omega))
      refine lv_iload_n hx hb d_Fit_lengthOf_12 rfl (lv_at hl 1 rfl) ?_
      refine lv_aload_n hx hb d_Fit_lengthOf_13 rfl (lv_at hl 2 rfl) ?_
      refine lv_iload_n hx hb d_Fit_lengthOf_14 rfl (lv_at hl 0 rfl) ?_
      refine k_pure (r := .ref (el i)) (W.runV (As := [.int (nI i)]) (rest := [.int (l_len its i)]) ⟨hx, hb, hml, hown, hts⟩ (c_AL_get l g s.heap h0 n el i (by omega) o) (cwV 1 hts (kV_good kw_207 kw_355 kw_205 kw_206 kw_4) rfl rfl rfl (by decide +kernel) ⟨Nat.le_of_ble_eq_true rfl, Nat.le_of_ble_eq_true rfl⟩) (k_preV (KK_st g) hKK (o.recv hK)) rfl rfl hl.1 rfl (lv_room (Nat.le_of_ble_eq_true rfl)) d_Fit_lengthOf_15 ⟨Nat.zero_le _, Nat.zero_le _⟩) ?_
      refine v_cast hx hb hown hts hKK kw_356 (hi i (by omega)) d_Fit_lengthOf_18 ?_
      refine v_own hx hb hown hts hKK kw_233 (hi i (by omega)) d_Fit_lengthOf_21 ?_
      refine lv_iadd hx hb d_Fit_lengthOf_24 ?_
      refine W.eq (g2 := F0 m 25 ls [.int (l_len its (i + 1))]) rfl ?_
      refine lv_istore_n (lv' := [(1, .int (l_len its (i + 1))), (2, .int (nI i)), (0, .ref h0)]) hx hb d_Fit_lengthOf_25 rfl hl (by decide) rfl (fun ls hl => ?_)
      refine lv_iinc (v := nI (i + 1)) (lv' := [(2, .int (nI (i + 1))), (1, .int (l_len its (i + 1))), (0, .ref h0)]) hx hb d_Fit_lengthOf_26 hl (k := 1) rfl (nI_1 i) (by decide) rfl (fun ls hl => ?_)
      refine lv_goto (tgt := 4) hx hb d_Fit_lengthOf_29 (by decide) ?_
      exact ih (i + 1) ls (by omega) (lv_sub (l := [(2, .int (nI (i + 1))), (1, .int (l_len its (i + 1))), (0, .ref h0)]) hl [0, 1, 2] rfl)
  exact key n 0 ls (by omega) (lv_sub hl [0, 1, 2] rfl)
def l_giv (its : Nat → Nat → Int32) (b d : Int32) (n : Nat) : Int32 := l_sum (fun i => i_giving (its i) b d) n
set_option maxHeartbeats 4000000 in
set_option maxRecDepth 100000 in
theorem c_Fit_sumOf (l : Launch) (g : KGt) (H0 : Heap) (I : Nat → Prop) (h0 n : Nat) (el : Nat → Nat) (its : Nat → Nat → Int32) (o : kAL g h0 n el H0) (hi : ∀ i, i < n → kItem g I (el i) (its i) H0) (b d : Int32) : Met l y_Fit_sumOf (kW y_Fit_sumOf b_Fit_sumOf 5 (.some .int)) ({ frames := 3, cells := 0, slots := 0, locals := 64 }) (kPc [.ref h0, .int b, .int d] (KK g) H0) (kQc (kPure (.int (l_giv its b d n)) H0)) 0 0 (fun _ => False) := by
  refine Met.ofW (cc := b_Fit_sumOf) (maxL := 5) (ret := (.some .int)) (by decide) rfl ?_
  intro p e s m args below meth c s₁ B hml hv
  obtain ⟨rfl, hH, hKK⟩ := hv
  have hx := B.exec
  have hb := B.bytes
  have hr := B.returns
  have hts := kW_ts (atoms_spec (ws := kW y_Fit_sumOf b_Fit_sumOf 5 (.some .int)) B.pre)
  have hown : s.vm.findClass "BoxGlue$Fit" = some m.cls := findClass_of_methodNamed B.named
  have hlocks := B.notSynchronized
  have hK := hKK.1
  subst hH
  have hl := lv_entry ([.ref h0, .int b, .int d]) (n := 5) (Nat.le_of_ble_eq_true rfl)
  rw [lg_entry_eq]
  generalize (lg_sl ([.ref h0, .int b, .int d]) ++ List.replicate (5 - (lg_sl ([.ref h0, .int b, .int d])).length) Slot.unset).toArray = ls at hl ⊢
  have hl : lv_has ls 5 [(0, .ref h0), (1, .int b), (2, .int d)] := hl
  have hn := o.n_lt
  refine lv_iconst (v := 0) hx hb d_Fit_sumOf_0 (by decide) ?_
  refine lv_istore_n (lv' := [(3, .int 0), (0, .ref h0), (1, .int b), (2, .int d)]) hx hb d_Fit_sumOf_1 rfl hl (by decide) rfl (fun ls hl => ?_)
  refine lv_iconst (v := 0) hx hb d_Fit_sumOf_2 (by decide) ?_
  refine lv_istore (lv' := [(4, .int 0), (3, .int 0), (0, .ref h0), (1, .int b), (2, .int d)]) hx hb d_Fit_sumOf_3 hl (by decide) rfl (fun ls hl => ?_)
  have key : ∀ (j i : Nat) (ls : Array Slot), i + j = n → lv_has ls 5 [(4, .int (nI i)), (3, .int (l_giv its b d i)), (2, .int d), (1, .int b), (0, .ref h0)] → W p l e (headSpec (kW y_Fit_sumOf b_Fit_sumOf 5 (.some .int)) { frames := 3, cells := 0, slots := 0, locals := 64 }).room s m #[Value.ref h0, Value.int b, Value.int d] below meth c s.heap [] 0 0 (MQ below (kQc (kPure (.int (l_giv its b d n)) s.heap)) #[Value.ref h0, Value.int b, Value.int d] s 0 0 (fun _ => False)) (F0 m 5 ls []) := by
    intro j
    induction j with
    | zero =>
      intro i ls hij hl
      refine lv_iload hx hb d_Fit_sumOf_5 (lv_at hl 0 rfl) ?_
      refine lv_aload_n hx hb d_Fit_sumOf_7 rfl (lv_at hl 4 rfl) ?_
      refine k_pure (r := .int (nI n)) (W.runV (As := []) (rest := [.int (nI i)]) ⟨hx, hb, hml, hown, hts⟩ (c_AL_size l g s.heap h0 n el o) (cwV 0 hts (kV_good kw_76 kw_354 kw_74 kw_75 kw_4) rfl rfl rfl (by decide +kernel) ⟨Nat.le_of_ble_eq_true rfl, Nat.le_of_ble_eq_true rfl⟩) (k_preV (KK_st g) hKK (o.recv hK)) rfl rfl hl.1 rfl (lv_room (Nat.le_of_ble_eq_true rfl)) d_Fit_sumOf_8 ⟨Nat.zero_le _, Nat.zero_le _⟩) ?_
      refine lv_icmp_ge (tgt := 37) hx hb d_Fit_sumOf_11 (by decide) (fun c_1 => ?_) (fun c_1 => ?_)
      rotate_left
      · exact absurd c_1 (fun q => q (by rw [show i = n by omega]; exact Int32.le_refl _))
      refine lv_iload_n hx hb d_Fit_sumOf_37 rfl (lv_at hl 1 rfl) ?_
      exact W.iret (v := (l_giv its b d i)) hx hb hr (fun t ht hW => ⟨_, rfl, (by rw [show i = n by omega]), ht⟩) (fun _ h => by cases h) d_Fit_sumOf_38
    | succ j ih =>
      intro i ls hij hl
      refine lv_iload hx hb d_Fit_sumOf_5 (lv_at hl 0 rfl) ?_
      refine lv_aload_n hx hb d_Fit_sumOf_7 rfl (lv_at hl 4 rfl) ?_
      refine k_pure (r := .int (nI n)) (W.runV (As := []) (rest := [.int (nI i)]) ⟨hx, hb, hml, hown, hts⟩ (c_AL_size l g s.heap h0 n el o) (cwV 0 hts (kV_good kw_76 kw_354 kw_74 kw_75 kw_4) rfl rfl rfl (by decide +kernel) ⟨Nat.le_of_ble_eq_true rfl, Nat.le_of_ble_eq_true rfl⟩) (k_preV (KK_st g) hKK (o.recv hK)) rfl rfl hl.1 rfl (lv_room (Nat.le_of_ble_eq_true rfl)) d_Fit_sumOf_8 ⟨Nat.zero_le _, Nat.zero_le _⟩) ?_
      refine lv_icmp_ge (tgt := 37) hx hb d_Fit_sumOf_11 (by decide) (fun c_2 => ?_) (fun c_2 => ?_)
      · exact absurd c_2 (nI_ge (by omega) (by omega))
      refine lv_iload_n hx hb d_Fit_sumOf_14 rfl (lv_at hl 1 rfl) ?_
      refine lv_aload_n hx hb d_Fit_sumOf_15 rfl (lv_at hl 4 rfl) ?_
      refine lv_iload hx hb d_Fit_sumOf_16 (lv_at hl 0 rfl) ?_
      refine k_pure (r := .ref (el i)) (W.runV (As := [.int (nI i)]) (rest := [.int (l_giv its b d i)]) ⟨hx, hb, hml, hown, hts⟩ (c_AL_get l g s.heap h0 n el i (by omega) o) (cwV 1 hts (kV_good kw_207 kw_355 kw_205 kw_206 kw_4) rfl rfl rfl (by decide +kernel) ⟨Nat.le_of_ble_eq_true rfl, Nat.le_of_ble_eq_true rfl⟩) (k_preV (KK_st g) hKK (o.recv hK)) rfl rfl hl.1 rfl (lv_room (Nat.le_of_ble_eq_true rfl)) d_Fit_sumOf_18 ⟨Nat.zero_le _, Nat.zero_le _⟩) ?_
      refine v_cast hx hb hown hts hKK kw_356 (hi i (by omega)) d_Fit_sumOf_21 ?_
      refine lv_iload_n hx hb d_Fit_sumOf_24 rfl (lv_at hl 3 rfl) ?_
      refine lv_iload_n hx hb d_Fit_sumOf_25 rfl (lv_at hl 2 rfl) ?_
      refine v_giving hx hb hml hown hts hKK kw_400 (hi i (by omega)) hl.1 (Nat.le_of_ble_eq_true rfl) (Nat.le_of_ble_eq_true rfl) (Nat.le_of_ble_eq_true rfl) (Nat.zero_le _) (Nat.zero_le _) d_Fit_sumOf_26 ?_
      refine lv_iadd hx hb d_Fit_sumOf_29 ?_
      refine W.eq (g2 := F0 m 30 ls [.int (l_giv its b d (i + 1))]) rfl ?_
      refine lv_istore_n (lv' := [(3, .int (l_giv its b d (i + 1))), (4, .int (nI i)), (2, .int d), (1, .int b), (0, .ref h0)]) hx hb d_Fit_sumOf_30 rfl hl (by decide) rfl (fun ls hl => ?_)
      refine lv_iinc (v := nI (i + 1)) (lv' := [(4, .int (nI (i + 1))), (3, .int (l_giv its b d (i + 1))), (2, .int d), (1, .int b), (0, .ref h0)]) hx hb d_Fit_sumOf_31 hl (k := 1) rfl (nI_1 i) (by decide) rfl (fun ls hl => ?_)
      refine lv_goto (tgt := 5) hx hb d_Fit_sumOf_34 (by decide) ?_
      exact ih (i + 1) ls (by omega) (lv_sub (l := [(4, .int (nI (i + 1))), (3, .int (l_giv its b d (i + 1))), (2, .int d), (1, .int b), (0, .ref h0)]) hl [0, 1, 2, 3, 4] rfl)
  exact key n 0 ls (by omega) (lv_sub hl [0, 1, 4, 3, 2] rfl)

/-! BoxGlue: leaders, unpack, the constructor -/
theorem v_instNo {p : Program} {l : Launch} {e : Env} {R : Room} {s : State} {m : MethodId} {args : Array Value} {below : List Frame} {meth : Method} {c : Code} {H : Heap} {locs : List Loc} {cells slots : Nat} {Q : State → Prop} {cc : ByteArray} {pc : Nat} {ls : Array Slot} {rest : List Value} {g : KGt} {I : Nat → Prop} {it : Nat → Int32} {a : Nat} {own : String} {idx : Nat} (hx : p.tables.exec = Jvm.exec) (hb : c.code = cc) (hown : s.vm.findClass own = some m.cls) (hts : ∀ w ∈ kG, w.before args s = true) (hKK : KK g s) (hlink : Cond.classLink own idx "BoxGlue$Glue" ∈ kG) (hit : kItem g I a it H) (hng : ¬ it 0 = 2) (hdg : decode cc pc = .ok (.instanceof idx, 3)) (kk : W p l e R s m args below meth c H locs cells slots Q (F0 m (pc + 3) ls (.int 0 :: rest))) : W p l e R s m args below meth c H locs cells slots Q (F0 m pc ls (.ref a :: rest)) := by
  have hK := hKK.1
  obtain ⟨-, ⟨hs0, o0⟩ | ⟨hs0, r, -, o0, o1⟩ | ⟨hs0, o0⟩ | ⟨hs0, o0⟩⟩ := hit
  · exact va_instNo (C := "BoxGlue$Put") hx hb hown (hts _ hlink) hKK.2.2.1.1 (va_recv hK (k_one o0) (ci := 4) (q0 := 0) rfl rfl) hdg kk
  · exact absurd hs0 hng
  · exact va_instNo (C := "BoxGlue$Kern") hx hb hown (hts _ hlink) hKK.2.2.1.2.1 (va_recv hK (k_one o0) (ci := 6) (q0 := 0) rfl rfl) hdg kk
  · exact va_instNo (C := "BoxGlue$Rule") hx hb hown (hts _ hlink) hKK.2.2.1.2.2 (va_recv hK (k_one o0) (ci := 7) (q0 := 0) rfl rfl) hdg kk
set_option maxHeartbeats 4000000 in
set_option maxRecDepth 100000 in
theorem c_BG_leaders_bad1 (l : Launch) (g : KGt) (H0 : Heap) (I M : Nat → Prop) (x n : Nat) (its : Nat → Nat → Int32) (nb : Nat) (bs : Nat → BxT) (ib : Nat) (inv : kInv g I M x n its nb bs ib H0) (p0 : Int32) (p1 : Int32) (h : p0 < 1 ∨ 3 < p0) : Met l y_BG_leaders (kW y_BG_leaders b_BG_leaders 6 (.some .int)) ({ frames := 0, cells := 0, slots := 0, locals := 0 }) (kPc [.ref x, .int p0, .int p1] (KK g) H0) (kQc (kPure (.int (-1)) H0)) 0 0 (fun _ => False) := by
  refine Met.ofW (cc := b_BG_leaders) (maxL := 6) (ret := (.some .int)) (by decide) rfl ?_
  intro p e s m args below meth c s₁ B hml hv
  obtain ⟨rfl, hH, hKK⟩ := hv
  have hx := B.exec
  have hb := B.bytes
  have hr := B.returns
  have hts := kW_ts (atoms_spec (ws := kW y_BG_leaders b_BG_leaders 6 (.some .int)) B.pre)
  have hown : s.vm.findClass "BoxGlue" = some m.cls := findClass_of_methodNamed B.named
  have hlocks := B.notSynchronized
  have hK := hKK.1
  subst hH
  have hl := lv_entry ([.ref x, .int p0, .int p1]) (n := 6) (Nat.le_of_ble_eq_true rfl)
  rw [lg_entry_eq]
  generalize (lg_sl ([.ref x, .int p0, .int p1]) ++ List.replicate (6 - (lg_sl ([.ref x, .int p0, .int p1])).length) Slot.unset).toArray = ls at hl ⊢
  have hl : lv_has ls 6 [(0, .ref x), (1, .int p0), (2, .int p1)] := hl
  obtain ⟨la, larr, lcap, ma, marr, mcap, el, bel, xo, al, am, hit, hbx, hM, hne, hMI, hMg, hIl, hB, hn, hnb⟩ := id inv
  refine lv_iload_n hx hb d_BG_leaders_0 rfl (lv_at hl 1 rfl) ?_
  refine lv_iconst (v := 1) hx hb d_BG_leaders_1 (by decide) ?_
  refine lv_icmp_lt (tgt := 18) hx hb d_BG_leaders_2 (by decide) (fun c_1 => ?_) (fun c_1 => ?_)
  · skip
    refine lv_iconst (v := (-1)) hx hb d_BG_leaders_18 (by decide) ?_
    exact W.iret (v := (-1)) hx hb hr (fun t ht hW => ⟨_, rfl, rfl, ht⟩) (fun _ h => by cases h) d_BG_leaders_19
  · skip
    refine lv_iload_n hx hb d_BG_leaders_5 rfl (lv_at hl 1 rfl) ?_
    refine lv_iconst (v := 3) hx hb d_BG_leaders_6 (by decide) ?_
    refine lv_icmp_gt (tgt := 18) hx hb d_BG_leaders_7 (by decide) (fun c_2 => ?_) (fun c_2 => ?_)
    · skip
      refine lv_iconst (v := (-1)) hx hb d_BG_leaders_18 (by decide) ?_
      exact W.iret (v := (-1)) hx hb hr (fun t ht hW => ⟨_, rfl, rfl, ht⟩) (fun _ h => by cases h) d_BG_leaders_19
    · skip
      rcases h with h | h <;> contradiction
set_option maxHeartbeats 4000000 in
set_option maxRecDepth 100000 in
theorem c_BG_leaders_bad2 (l : Launch) (g : KGt) (H0 : Heap) (I M : Nat → Prop) (x n : Nat) (its : Nat → Nat → Int32) (nb : Nat) (bs : Nat → BxT) (ib : Nat) (inv : kInv g I M x n its nb bs ib H0) (p0 : Int32) (p1 : Int32) (h1 : ¬ p0 < 1) (h3 : ¬ 3 < p0) (h : p1 < 0 ∨ nI nb ≤ p1) : Met l y_BG_leaders (kW y_BG_leaders b_BG_leaders 6 (.some .int)) ({ frames := 2, cells := 0, slots := 0, locals := 41 }) (kPc [.ref x, .int p0, .int p1] (KK g) H0) (kQc (kPure (.int (-1)) H0)) 0 0 (fun _ => False) := by
  refine Met.ofW (cc := b_BG_leaders) (maxL := 6) (ret := (.some .int)) (by decide) rfl ?_
  intro p e s m args below meth c s₁ B hml hv
  obtain ⟨rfl, hH, hKK⟩ := hv
  have hx := B.exec
  have hb := B.bytes
  have hr := B.returns
  have hts := kW_ts (atoms_spec (ws := kW y_BG_leaders b_BG_leaders 6 (.some .int)) B.pre)
  have hown : s.vm.findClass "BoxGlue" = some m.cls := findClass_of_methodNamed B.named
  have hlocks := B.notSynchronized
  have hK := hKK.1
  subst hH
  have hl := lv_entry ([.ref x, .int p0, .int p1]) (n := 6) (Nat.le_of_ble_eq_true rfl)
  rw [lg_entry_eq]
  generalize (lg_sl ([.ref x, .int p0, .int p1]) ++ List.replicate (6 - (lg_sl ([.ref x, .int p0, .int p1])).length) Slot.unset).toArray = ls at hl ⊢
  have hl : lv_has ls 6 [(0, .ref x), (1, .int p0), (2, .int p1)] := hl
  obtain ⟨la, larr, lcap, ma, marr, mcap, el, bel, xo, al, am, hit, hbx, hM, hne, hMI, hMg, hIl, hB, hn, hnb⟩ := id inv
  refine lv_iload_n hx hb d_BG_leaders_0 rfl (lv_at hl 1 rfl) ?_
  refine lv_iconst (v := 1) hx hb d_BG_leaders_1 (by decide) ?_
  refine lv_icmp_lt (tgt := 18) hx hb d_BG_leaders_2 (by decide) (fun c_1 => ?_) (fun c_1 => ?_)
  · exact absurd c_1 h1
  refine lv_iload_n hx hb d_BG_leaders_5 rfl (lv_at hl 1 rfl) ?_
  refine lv_iconst (v := 3) hx hb d_BG_leaders_6 (by decide) ?_
  refine lv_icmp_gt (tgt := 18) hx hb d_BG_leaders_7 (by decide) (fun c_2 => ?_) (fun c_2 => ?_)
  · exact absurd c_2 h3
  refine lv_aload_n hx hb d_BG_leaders_10 rfl (lv_at hl 0 rfl) ?_
  refine lv_iload_n hx hb d_BG_leaders_11 rfl (lv_at hl 2 rfl) ?_
  refine k_pure (r := .int 0) (W.runV (As := [.int p1]) (rest := []) ⟨hx, hb, hml, hown, hts⟩ (c_BG_isBox_no l g s.heap I M x n its nb bs ib inv p1 h) (cwV 1 hts (kV_good kw_197 kw_194 kw_196 ks_BG_isBox kw_1) rfl rfl rfl (by decide +kernel) ⟨Nat.le_of_ble_eq_true rfl, Nat.le_of_ble_eq_true rfl⟩) (k_preV (KK_st g) hKK (va_recv hK (k_one xo) (ci := 0) (q0 := 0) rfl rfl)) rfl rfl hl.1 rfl (lv_room (Nat.le_of_ble_eq_true rfl)) d_BG_leaders_12 ⟨Nat.zero_le _, Nat.zero_le _⟩) ?_
  refine lv_if_ne (tgt := 20) hx hb d_BG_leaders_15 (by decide) (fun c_3 => ?_) (fun c_3 => ?_)
  · exact absurd c_3 (fun q => q rfl)
  refine lv_iconst (v := (-1)) hx hb d_BG_leaders_18 (by decide) ?_
  exact W.iret (v := (-1)) hx hb hr (fun t ht hW => ⟨_, rfl, rfl, ht⟩) (fun _ h => by cases h) d_BG_leaders_19
set_option maxHeartbeats 4000000 in
set_option maxRecDepth 100000 in
theorem c_BG_leaders_no1 (l : Launch) (g : KGt) (H0 : Heap) (I M : Nat → Prop) (x n : Nat) (its : Nat → Nat → Int32) (nb : Nat) (bs : Nat → BxT) (ib : Nat) (inv : kInv g I M x n its nb bs ib H0) (p0 : Int32) (h1 : ¬ p0 < 1) (h3 : ¬ 3 < p0) (kb : Nat) (hkb : kb < nb) (h : n = 0) : Met l y_BG_leaders (kW y_BG_leaders b_BG_leaders 6 (.some .int)) ({ frames := 2, cells := 0, slots := 0, locals := 41 }) (kPc [.ref x, .int p0, .int (nI kb)] (KK g) H0) (kQc (kPure (.int (-3)) H0)) 0 0 (fun _ => False) := by
  refine Met.ofW (cc := b_BG_leaders) (maxL := 6) (ret := (.some .int)) (by decide) rfl ?_
  intro p e s m args below meth c s₁ B hml hv
  obtain ⟨rfl, hH, hKK⟩ := hv
  have hx := B.exec
  have hb := B.bytes
  have hr := B.returns
  have hts := kW_ts (atoms_spec (ws := kW y_BG_leaders b_BG_leaders 6 (.some .int)) B.pre)
  have hown : s.vm.findClass "BoxGlue" = some m.cls := findClass_of_methodNamed B.named
  have hlocks := B.notSynchronized
  have hK := hKK.1
  subst hH
  have hl := lv_entry ([.ref x, .int p0, .int (nI kb)]) (n := 6) (Nat.le_of_ble_eq_true rfl)
  rw [lg_entry_eq]
  generalize (lg_sl ([.ref x, .int p0, .int (nI kb)]) ++ List.replicate (6 - (lg_sl ([.ref x, .int p0, .int (nI kb)])).length) Slot.unset).toArray = ls at hl ⊢
  have hl : lv_has ls 6 [(0, .ref x), (1, .int p0), (2, .int (nI kb))] := hl
  obtain ⟨la, larr, lcap, ma, marr, mcap, el, bel, xo, al, am, hit, hbx, hM, hne, hMI, hMg, hIl, hB, hn, hnb⟩ := id inv
  refine lv_iload_n hx hb d_BG_leaders_0 rfl (lv_at hl 1 rfl) ?_
  refine lv_iconst (v := 1) hx hb d_BG_leaders_1 (by decide) ?_
  refine lv_icmp_lt (tgt := 18) hx hb d_BG_leaders_2 (by decide) (fun c_1 => ?_) (fun c_1 => ?_)
  · exact absurd c_1 h1
  refine lv_iload_n hx hb d_BG_leaders_5 rfl (lv_at hl 1 rfl) ?_
  refine lv_iconst (v := 3) hx hb d_BG_leaders_6 (by decide) ?_
  refine lv_icmp_gt (tgt := 18) hx hb d_BG_leaders_7 (by decide) (fun c_2 => ?_) (fun c_2 => ?_)
  · exact absurd c_2 h3
  refine lv_aload_n hx hb d_BG_leaders_10 rfl (lv_at hl 0 rfl) ?_
  refine lv_iload_n hx hb d_BG_leaders_11 rfl (lv_at hl 2 rfl) ?_
  refine k_pure (r := .int 1) (W.runV (As := [.int (nI kb)]) (rest := []) ⟨hx, hb, hml, hown, hts⟩ (c_BG_isBox_yes l g s.heap I M x n its nb bs ib inv kb hkb) (cwV 1 hts (kV_good kw_197 kw_194 kw_196 ks_BG_isBox kw_1) rfl rfl rfl (by decide +kernel) ⟨Nat.le_of_ble_eq_true rfl, Nat.le_of_ble_eq_true rfl⟩) (k_preV (KK_st g) hKK (va_recv hK (k_one xo) (ci := 0) (q0 := 0) rfl rfl)) rfl rfl hl.1 rfl (lv_room (Nat.le_of_ble_eq_true rfl)) d_BG_leaders_12 ⟨Nat.zero_le _, Nat.zero_le _⟩) ?_
  refine lv_if_ne (tgt := 20) hx hb d_BG_leaders_15 (by decide) (fun c_3 => ?_) (fun c_3 => ?_)
  rotate_left
  · exact absurd c_3 (by decide)
  refine lv_aload_n hx hb d_BG_leaders_20 rfl (lv_at hl 0 rfl) ?_
  refine va_get (D := g.1) (ci := 0) (v := .ref la) (C := "BoxGlue") (T := kT_BG) (N := 3) hx hb hts ki_BG hown hK (k_one xo) 0 rfl rfl 0 (by decide) (hts _ kw_55) (fun _ h9 => h9) rfl d_BG_leaders_21 ?_
  refine k_pure (r := .int (if n = 0 then 1 else 0)) (W.runV (As := []) (rest := []) ⟨hx, hb, hml, hown, hts⟩ (c_AL_isEmpty l g s.heap la n el ⟨_, _, al⟩) (cwV 0 hts (kV_good kw_335 kw_332 kw_333 kw_334 kw_4) rfl rfl rfl (by decide +kernel) ⟨Nat.le_of_ble_eq_true rfl, Nat.le_of_ble_eq_true rfl⟩) (k_preV (KK_st g) hKK (kAL.recv ⟨_, _, al⟩ hK)) rfl rfl hl.1 rfl (lv_room (Nat.le_of_ble_eq_true rfl)) d_BG_leaders_24 ⟨Nat.zero_le _, Nat.zero_le _⟩) ?_
  refine lv_if_eq (tgt := 33) hx hb d_BG_leaders_27 (by decide) (fun c_4 => ?_) (fun c_4 => ?_)
  · exact absurd c_4 (by rw [if_pos h]; decide)
  refine lv_bipush (v := (-3)) hx hb d_BG_leaders_30 (by decide) ?_
  exact W.iret (v := (-3)) hx hb hr (fun t ht hW => ⟨_, rfl, rfl, ht⟩) (fun _ h => by cases h) d_BG_leaders_32
set_option maxHeartbeats 4000000 in
set_option maxRecDepth 100000 in
theorem c_BG_leaders_no2 (l : Launch) (g : KGt) (H0 : Heap) (I M : Nat → Prop) (x k : Nat) (its : Nat → Nat → Int32) (nb : Nat) (bs : Nat → BxT) (ib : Nat) (inv : kInv g I M x (k + 1) its nb bs ib H0) (p0 : Int32) (h1 : ¬ p0 < 1) (h3 : ¬ 3 < p0) (kb : Nat) (hkb : kb < nb) (hng : ¬ its k 0 = 2) : Met l y_BG_leaders (kW y_BG_leaders b_BG_leaders 6 (.some .int)) ({ frames := 3, cells := 0, slots := 0, locals := 64 }) (kPc [.ref x, .int p0, .int (nI kb)] (KK g) H0) (kQc (kPure (.int (-3)) H0)) 0 0 (fun _ => False) := by
  refine Met.ofW (cc := b_BG_leaders) (maxL := 6) (ret := (.some .int)) (by decide) rfl ?_
  intro p e s m args below meth c s₁ B hml hv
  obtain ⟨rfl, hH, hKK⟩ := hv
  have hx := B.exec
  have hb := B.bytes
  have hr := B.returns
  have hts := kW_ts (atoms_spec (ws := kW y_BG_leaders b_BG_leaders 6 (.some .int)) B.pre)
  have hown : s.vm.findClass "BoxGlue" = some m.cls := findClass_of_methodNamed B.named
  have hlocks := B.notSynchronized
  have hK := hKK.1
  subst hH
  have hl := lv_entry ([.ref x, .int p0, .int (nI kb)]) (n := 6) (Nat.le_of_ble_eq_true rfl)
  rw [lg_entry_eq]
  generalize (lg_sl ([.ref x, .int p0, .int (nI kb)]) ++ List.replicate (6 - (lg_sl ([.ref x, .int p0, .int (nI kb)])).length) Slot.unset).toArray = ls at hl ⊢
  have hl : lv_has ls 6 [(0, .ref x), (1, .int p0), (2, .int (nI kb))] := hl
  obtain ⟨la, larr, lcap, ma, marr, mcap, el, bel, xo, al, am, hit, hbx, hM, hne, hMI, hMg, hIl, hB, hn, hnb⟩ := id inv
  refine lv_iload_n hx hb d_BG_leaders_0 rfl (lv_at hl 1 rfl) ?_
  refine lv_iconst (v := 1) hx hb d_BG_leaders_1 (by decide) ?_
  refine lv_icmp_lt (tgt := 18) hx hb d_BG_leaders_2 (by decide) (fun c_1 => ?_) (fun c_1 => ?_)
  · exact absurd c_1 h1
  refine lv_iload_n hx hb d_BG_leaders_5 rfl (lv_at hl 1 rfl) ?_
  refine lv_iconst (v := 3) hx hb d_BG_leaders_6 (by decide) ?_
  refine lv_icmp_gt (tgt := 18) hx hb d_BG_leaders_7 (by decide) (fun c_2 => ?_) (fun c_2 => ?_)
  · exact absurd c_2 h3
  refine lv_aload_n hx hb d_BG_leaders_10 rfl (lv_at hl 0 rfl) ?_
  refine lv_iload_n hx hb d_BG_leaders_11 rfl (lv_at hl 2 rfl) ?_
  refine k_pure (r := .int 1) (W.runV (As := [.int (nI kb)]) (rest := []) ⟨hx, hb, hml, hown, hts⟩ (c_BG_isBox_yes l g s.heap I M x (k + 1) its nb bs ib inv kb hkb) (cwV 1 hts (kV_good kw_197 kw_194 kw_196 ks_BG_isBox kw_1) rfl rfl rfl (by decide +kernel) ⟨Nat.le_of_ble_eq_true rfl, Nat.le_of_ble_eq_true rfl⟩) (k_preV (KK_st g) hKK (va_recv hK (k_one xo) (ci := 0) (q0 := 0) rfl rfl)) rfl rfl hl.1 rfl (lv_room (Nat.le_of_ble_eq_true rfl)) d_BG_leaders_12 ⟨Nat.zero_le _, Nat.zero_le _⟩) ?_
  refine lv_if_ne (tgt := 20) hx hb d_BG_leaders_15 (by decide) (fun c_3 => ?_) (fun c_3 => ?_)
  rotate_left
  · exact absurd c_3 (by decide)
  refine lv_aload_n hx hb d_BG_leaders_20 rfl (lv_at hl 0 rfl) ?_
  refine va_get (D := g.1) (ci := 0) (v := .ref la) (C := "BoxGlue") (T := kT_BG) (N := 3) hx hb hts ki_BG hown hK (k_one xo) 0 rfl rfl 0 (by decide) (hts _ kw_55) (fun _ h9 => h9) rfl d_BG_leaders_21 ?_
  refine k_pure (r := .int (if k + 1 = 0 then 1 else 0)) (W.runV (As := []) (rest := []) ⟨hx, hb, hml, hown, hts⟩ (c_AL_isEmpty l g s.heap la (k + 1) el ⟨_, _, al⟩) (cwV 0 hts (kV_good kw_335 kw_332 kw_333 kw_334 kw_4) rfl rfl rfl (by decide +kernel) ⟨Nat.le_of_ble_eq_true rfl, Nat.le_of_ble_eq_true rfl⟩) (k_preV (KK_st g) hKK (kAL.recv ⟨_, _, al⟩ hK)) rfl rfl hl.1 rfl (lv_room (Nat.le_of_ble_eq_true rfl)) d_BG_leaders_24 ⟨Nat.zero_le _, Nat.zero_le _⟩) ?_
  refine lv_if_eq (tgt := 33) hx hb d_BG_leaders_27 (by decide) (fun c_4 => ?_) (fun c_4 => ?_)
  rotate_left
  · exact absurd c_4 (fun q => q (by rw [if_neg (by omega)]))
  refine lv_aload_n hx hb d_BG_leaders_33 rfl (lv_at hl 0 rfl) ?_
  refine va_get (D := g.1) (ci := 0) (v := .ref la) (C := "BoxGlue") (T := kT_BG) (N := 3) hx hb hts ki_BG hown hK (k_one xo) 0 rfl rfl 0 (by decide) (hts _ kw_55) (fun _ h9 => h9) rfl d_BG_leaders_34 ?_
  refine k_pure (r := .int (nI (k + 1))) (W.runV (As := []) (rest := []) ⟨hx, hb, hml, hown, hts⟩ (c_AL_size l g s.heap la (k + 1) el ⟨_, _, al⟩) (cwV 0 hts (kV_good kw_76 kw_73 kw_74 kw_75 kw_4) rfl rfl rfl (by decide +kernel) ⟨Nat.le_of_ble_eq_true rfl, Nat.le_of_ble_eq_true rfl⟩) (k_preV (KK_st g) hKK (kAL.recv ⟨_, _, al⟩ hK)) rfl rfl hl.1 rfl (lv_room (Nat.le_of_ble_eq_true rfl)) d_BG_leaders_37 ⟨Nat.zero_le _, Nat.zero_le _⟩) ?_
  refine lv_iconst (v := 1) hx hb d_BG_leaders_40 (by decide) ?_
  refine lv_isub hx hb d_BG_leaders_41 ?_
  rw [nI_pred]
  refine lv_istore_n (lv' := [(3, .int (nI k)), (0, .ref x), (1, .int p0), (2, .int (nI kb))]) hx hb d_BG_leaders_42 rfl hl (by decide) rfl (fun ls hl => ?_)
  refine lv_aload_n hx hb d_BG_leaders_43 rfl (lv_at hl 1 rfl) ?_
  refine va_get (D := g.1) (ci := 0) (v := .ref la) (C := "BoxGlue") (T := kT_BG) (N := 3) hx hb hts ki_BG hown hK (k_one xo) 0 rfl rfl 0 (by decide) (hts _ kw_55) (fun _ h9 => h9) rfl d_BG_leaders_44 ?_
  refine lv_iload_n hx hb d_BG_leaders_47 rfl (lv_at hl 0 rfl) ?_
  refine k_pure (r := .ref (el k)) (W.runV (As := [.int (nI k)]) (rest := []) ⟨hx, hb, hml, hown, hts⟩ (c_AL_get l g s.heap la (k + 1) el k (by omega) ⟨_, _, al⟩) (cwV 1 hts (kV_good kw_207 kw_204 kw_205 kw_206 kw_4) rfl rfl rfl (by decide +kernel) ⟨Nat.le_of_ble_eq_true rfl, Nat.le_of_ble_eq_true rfl⟩) (k_preV (KK_st g) hKK (kAL.recv ⟨_, _, al⟩ hK)) rfl rfl hl.1 rfl (lv_room (Nat.le_of_ble_eq_true rfl)) d_BG_leaders_48 ⟨Nat.zero_le _, Nat.zero_le _⟩) ?_
  refine lv_astore (lv' := [(5, .ref (el k)), (3, .int (nI k)), (0, .ref x), (1, .int p0), (2, .int (nI kb))]) hx hb d_BG_leaders_51 hl (by decide) rfl (fun ls hl => ?_)
  refine lv_aload hx hb d_BG_leaders_53 (lv_at hl 0 rfl) ?_
  refine v_instNo hx hb hown hts hKK kw_255 (hit k (by omega)) hng d_BG_leaders_55 ?_
  refine lv_if_eq (tgt := 106) hx hb d_BG_leaders_58 (by decide) (fun c_5 => ?_) (fun c_5 => ?_)
  rotate_left
  · exact absurd c_5 (fun q => q rfl)
  refine lv_bipush (v := (-3)) hx hb d_BG_leaders_106 (by decide) ?_
  exact W.iret (v := (-3)) hx hb hr (fun t ht hW => ⟨_, rfl, rfl, ht⟩) (fun _ h => by cases h) d_BG_leaders_108
set_option maxHeartbeats 4000000 in
set_option maxRecDepth 100000 in
theorem c_BG_leaders_ok (l : Launch) (g : KGt) (H0 : Heap) (I M : Nat → Prop) (x k : Nat) (its : Nat → Nat → Int32) (nb : Nat) (bs : Nat → BxT) (ib : Nat) (inv : kInv g I M x (k + 1) its nb bs ib H0) (p0 : Int32) (h1 : ¬ p0 < 1) (h3 : ¬ 3 < p0) (kb : Nat) (hkb : kb < nb) (hgl : its k 0 = 2) : Met l y_BG_leaders (kW y_BG_leaders b_BG_leaders 6 (.some .int)) ({ frames := 4, cells := 2, slots := 9, locals := 81 }) (kPc [.ref x, .int p0, .int (nI kb)] (KK g) H0) (kQc (kPost g I M x (k + 1) (va_up its k (it_glue (its k 1) (its k 4) (its k 5) (its k 6) (its k 7) p0 ((bs kb).1 0))) nb bs ib (.int 1) H0)) 2 9 (fun q : Nat => M q ∨ H0.size ≤ q) := by
  refine Met.ofW (cc := b_BG_leaders) (maxL := 6) (ret := (.some .int)) (by decide) rfl ?_
  intro p e s m args below meth c s₁ B hml hv
  obtain ⟨rfl, hH, hKK⟩ := hv
  have hx := B.exec
  have hb := B.bytes
  have hr := B.returns
  have hts := kW_ts (atoms_spec (ws := kW y_BG_leaders b_BG_leaders 6 (.some .int)) B.pre)
  have hown : s.vm.findClass "BoxGlue" = some m.cls := findClass_of_methodNamed B.named
  have hlocks := B.notSynchronized
  have hK := hKK.1
  subst hH
  have hl := lv_entry ([.ref x, .int p0, .int (nI kb)]) (n := 6) (Nat.le_of_ble_eq_true rfl)
  rw [lg_entry_eq]
  generalize (lg_sl ([.ref x, .int p0, .int (nI kb)]) ++ List.replicate (6 - (lg_sl ([.ref x, .int p0, .int (nI kb)])).length) Slot.unset).toArray = ls at hl ⊢
  have hl : lv_has ls 6 [(0, .ref x), (1, .int p0), (2, .int (nI kb))] := hl
  obtain ⟨la, larr, lcap, ma, marr, mcap, el, bel, xo, al, am, hit, hbx, hM, hne, hMI, hMg, hIl, hB, hn, hnb⟩ := id inv
  obtain ⟨hIb, bca, bfa, barr, bcap, pel, w1, hIf, w3, hIc, w5, w6, w7⟩ := hbx kb hkb
  obtain ⟨r, o0, o1⟩ : ∃ r : Nat, va_at g.1 kcl (el k, .inr (5, [.int (its k 0), .int (its k 1), .int (its k 4), .int (its k 5), .int (its k 6), .int (its k 7), .ref r])) s.heap ∧ I r := by
    obtain ⟨-, ⟨hs0, -⟩ | ⟨hs0, r, hr, o0, o1⟩ | ⟨hs0, -⟩ | ⟨hs0, -⟩⟩ := hit k (by omega)
    · rw [hgl] at hs0; exact absurd hs0 (by decide)
    · exact ⟨r, o0, hr⟩
    · rw [hgl] at hs0; exact absurd hs0 (by decide)
    · rw [hgl] at hs0; exact absurd hs0 (by decide)
  refine lv_iload_n hx hb d_BG_leaders_0 rfl (lv_at hl 1 rfl) ?_
  refine lv_iconst (v := 1) hx hb d_BG_leaders_1 (by decide) ?_
  refine lv_icmp_lt (tgt := 18) hx hb d_BG_leaders_2 (by decide) (fun c_1 => ?_) (fun c_1 => ?_)
  · exact absurd c_1 h1
  refine lv_iload_n hx hb d_BG_leaders_5 rfl (lv_at hl 1 rfl) ?_
  refine lv_iconst (v := 3) hx hb d_BG_leaders_6 (by decide) ?_
  refine lv_icmp_gt (tgt := 18) hx hb d_BG_leaders_7 (by decide) (fun c_2 => ?_) (fun c_2 => ?_)
  · exact absurd c_2 h3
  refine lv_aload_n hx hb d_BG_leaders_10 rfl (lv_at hl 0 rfl) ?_
  refine lv_iload_n hx hb d_BG_leaders_11 rfl (lv_at hl 2 rfl) ?_
  refine k_pure (r := .int 1) (W.runV (As := [.int (nI kb)]) (rest := []) ⟨hx, hb, hml, hown, hts⟩ (c_BG_isBox_yes l g s.heap I M x (k + 1) its nb bs ib inv kb hkb) (cwV 1 hts (kV_good kw_197 kw_194 kw_196 ks_BG_isBox kw_1) rfl rfl rfl (by decide +kernel) ⟨Nat.le_of_ble_eq_true rfl, Nat.le_of_ble_eq_true rfl⟩) (k_preV (KK_st g) hKK (va_recv hK (k_one xo) (ci := 0) (q0 := 0) rfl rfl)) rfl rfl hl.1 rfl (lv_room (Nat.le_of_ble_eq_true rfl)) d_BG_leaders_12 ⟨Nat.zero_le _, Nat.zero_le _⟩) ?_
  refine lv_if_ne (tgt := 20) hx hb d_BG_leaders_15 (by decide) (fun c_3 => ?_) (fun c_3 => ?_)
  rotate_left
  · exact absurd c_3 (by decide)
  refine lv_aload_n hx hb d_BG_leaders_20 rfl (lv_at hl 0 rfl) ?_
  refine va_get (D := g.1) (ci := 0) (v := .ref la) (C := "BoxGlue") (T := kT_BG) (N := 3) hx hb hts ki_BG hown hK (k_one xo) 0 rfl rfl 0 (by decide) (hts _ kw_55) (fun _ h9 => h9) rfl d_BG_leaders_21 ?_
  refine k_pure (r := .int (if k + 1 = 0 then 1 else 0)) (W.runV (As := []) (rest := []) ⟨hx, hb, hml, hown, hts⟩ (c_AL_isEmpty l g s.heap la (k + 1) el ⟨_, _, al⟩) (cwV 0 hts (kV_good kw_335 kw_332 kw_333 kw_334 kw_4) rfl rfl rfl (by decide +kernel) ⟨Nat.le_of_ble_eq_true rfl, Nat.le_of_ble_eq_true rfl⟩) (k_preV (KK_st g) hKK (kAL.recv ⟨_, _, al⟩ hK)) rfl rfl hl.1 rfl (lv_room (Nat.le_of_ble_eq_true rfl)) d_BG_leaders_24 ⟨Nat.zero_le _, Nat.zero_le _⟩) ?_
  refine lv_if_eq (tgt := 33) hx hb d_BG_leaders_27 (by decide) (fun c_4 => ?_) (fun c_4 => ?_)
  rotate_left
  · exact absurd c_4 (fun q => q (by rw [if_neg (by omega)]))
  refine lv_aload_n hx hb d_BG_leaders_33 rfl (lv_at hl 0 rfl) ?_
  refine va_get (D := g.1) (ci := 0) (v := .ref la) (C := "BoxGlue") (T := kT_BG) (N := 3) hx hb hts ki_BG hown hK (k_one xo) 0 rfl rfl 0 (by decide) (hts _ kw_55) (fun _ h9 => h9) rfl d_BG_leaders_34 ?_
  refine k_pure (r := .int (nI (k + 1))) (W.runV (As := []) (rest := []) ⟨hx, hb, hml, hown, hts⟩ (c_AL_size l g s.heap la (k + 1) el ⟨_, _, al⟩) (cwV 0 hts (kV_good kw_76 kw_73 kw_74 kw_75 kw_4) rfl rfl rfl (by decide +kernel) ⟨Nat.le_of_ble_eq_true rfl, Nat.le_of_ble_eq_true rfl⟩) (k_preV (KK_st g) hKK (kAL.recv ⟨_, _, al⟩ hK)) rfl rfl hl.1 rfl (lv_room (Nat.le_of_ble_eq_true rfl)) d_BG_leaders_37 ⟨Nat.zero_le _, Nat.zero_le _⟩) ?_
  refine lv_iconst (v := 1) hx hb d_BG_leaders_40 (by decide) ?_
  refine lv_isub hx hb d_BG_leaders_41 ?_
  rw [nI_pred]
  refine lv_istore_n (lv' := [(3, .int (nI k)), (0, .ref x), (1, .int p0), (2, .int (nI kb))]) hx hb d_BG_leaders_42 rfl hl (by decide) rfl (fun ls hl => ?_)
  refine lv_aload_n hx hb d_BG_leaders_43 rfl (lv_at hl 1 rfl) ?_
  refine va_get (D := g.1) (ci := 0) (v := .ref la) (C := "BoxGlue") (T := kT_BG) (N := 3) hx hb hts ki_BG hown hK (k_one xo) 0 rfl rfl 0 (by decide) (hts _ kw_55) (fun _ h9 => h9) rfl d_BG_leaders_44 ?_
  refine lv_iload_n hx hb d_BG_leaders_47 rfl (lv_at hl 0 rfl) ?_
  refine k_pure (r := .ref (el k)) (W.runV (As := [.int (nI k)]) (rest := []) ⟨hx, hb, hml, hown, hts⟩ (c_AL_get l g s.heap la (k + 1) el k (by omega) ⟨_, _, al⟩) (cwV 1 hts (kV_good kw_207 kw_204 kw_205 kw_206 kw_4) rfl rfl rfl (by decide +kernel) ⟨Nat.le_of_ble_eq_true rfl, Nat.le_of_ble_eq_true rfl⟩) (k_preV (KK_st g) hKK (kAL.recv ⟨_, _, al⟩ hK)) rfl rfl hl.1 rfl (lv_room (Nat.le_of_ble_eq_true rfl)) d_BG_leaders_48 ⟨Nat.zero_le _, Nat.zero_le _⟩) ?_
  refine lv_astore (lv' := [(5, .ref (el k)), (3, .int (nI k)), (0, .ref x), (1, .int p0), (2, .int (nI kb))]) hx hb d_BG_leaders_51 hl (by decide) rfl (fun ls hl => ?_)
  refine lv_aload hx hb d_BG_leaders_53 (lv_at hl 0 rfl) ?_
  refine va_instY (C := "BoxGlue$Glue") hx hb hown (hts _ kw_255) (hKK.2.1 (.castable "BoxGlue$Glue" "BoxGlue$Glue") (by decide +kernel)) (va_recv hK (k_one o0) (ci := 5) (q0 := 0) rfl rfl) d_BG_leaders_55 ?_
  refine lv_if_eq (tgt := 106) hx hb d_BG_leaders_58 (by decide) (fun c_5 => ?_) (fun c_5 => ?_)
  · exact absurd c_5 (by decide)
  refine lv_aload hx hb d_BG_leaders_61 (lv_at hl 0 rfl) ?_
  refine va_castY (C := "BoxGlue$Glue") hx hb hown (hts _ kw_255) (hKK.2.1 (.castable "BoxGlue$Glue" "BoxGlue$Glue") (by decide +kernel)) (va_recv hK (k_one o0) (ci := 5) (q0 := 0) rfl rfl) d_BG_leaders_63 ?_
  refine lv_astore (lv' := [(4, .ref (el k)), (5, .ref (el k)), (3, .int (nI k)), (0, .ref x), (1, .int p0), (2, .int (nI kb))]) hx hb d_BG_leaders_66 hl (by decide) rfl (fun ls hl => ?_)
  refine lv_aload_n hx hb d_BG_leaders_68 rfl (lv_at hl 3 rfl) ?_
  refine va_get (D := g.1) (ci := 0) (v := .ref la) (C := "BoxGlue") (T := kT_BG) (N := 3) hx hb hts ki_BG hown hK (k_one xo) 0 rfl rfl 0 (by decide) (hts _ kw_55) (fun _ h9 => h9) rfl d_BG_leaders_69 ?_
  refine lv_iload_n hx hb d_BG_leaders_72 rfl (lv_at hl 2 rfl) ?_
  refine lv_aload hx hb d_BG_leaders_73 (lv_at hl 0 rfl) ?_
  refine k_new (D := g.1) (ci := 8) (fs := [.int 0, .int 0]) (C := "BoxGlue$Leaders") (T := kT_Leaders) (N := 2) hx hb hts ki_Leaders kt_Leaders ko_Leaders hown (hts _ kw_257) (hts _ kw_258) (hts _ kw_17) hK rfl (fun j hj => by rcases (show j = 0 ∨ j = 1 by omega) with rfl | rfl <;> rfl) (Nat.le_of_ble_eq_true rfl) (Nat.le_of_ble_eq_true rfl) d_BG_leaders_75 (fun r2 H1 e_r2 po hN => ?_)
  have xo1 := hN.at xo id
  have am1 := am.ext hN id (fun _ => id)
  have w11 := hN.at w1 id
  refine lv_dup hx hb d_BG_leaders_78 rfl ?_
  refine lv_iload_n hx hb d_BG_leaders_79 rfl (lv_at hl 4 rfl) ?_
  refine lv_aload_n hx hb d_BG_leaders_80 rfl (lv_at hl 3 rfl) ?_
  refine va_get (D := g.1) (ci := 0) (v := .ref ma) (C := "BoxGlue") (T := kT_BG) (N := 3) hx hb hts ki_BG hown hK (k_one xo1) 0 rfl rfl 1 (by decide) (hts _ kw_56) (fun _ h9 => h9) rfl d_BG_leaders_81 ?_
  refine lv_iload_n hx hb d_BG_leaders_84 rfl (lv_at hl 5 rfl) ?_
  refine k_pure (r := .ref (bel kb)) (W.runV (As := [.int (nI kb)]) (rest := [.int p0, .ref r2, .ref r2, .ref (el k), .int (nI k), .ref la]) ⟨hx, hb, hml, hown, hts⟩ (c_AL_get l g H1 ma nb bel kb hkb ⟨_, _, am1⟩) (cwV 1 hts (kV_good kw_207 kw_204 kw_205 kw_206 kw_4) rfl rfl rfl (by decide +kernel) ⟨Nat.le_of_ble_eq_true rfl, Nat.le_of_ble_eq_true rfl⟩) (k_preV (KK_st g) hKK (kAL.recv ⟨_, _, am1⟩ hK)) rfl rfl hl.1 rfl (lv_room (Nat.le_of_ble_eq_true rfl)) d_BG_leaders_85 ⟨Nat.le_of_ble_eq_true rfl, Nat.le_of_ble_eq_true rfl⟩) ?_
  refine va_castY (C := "BoxGlue$Box") hx hb hown (hts _ kw_218) (hKK.2.1 (.castable "BoxGlue$Box" "BoxGlue$Box") (by decide +kernel)) (va_recv hK (k_one w11) (ci := 2) (q0 := 0) rfl rfl) d_BG_leaders_88 ?_
  refine va_get (D := g.1) (ci := 2) (v := .int ((bs kb).1 0)) (C := "BoxGlue$Box") (T := kT_Box) (N := 5) hx hb hts ki_Box hown hK (k_one w11) 0 rfl rfl 0 (by decide) (hts _ kw_111) (fun _ h9 => h9) rfl d_BG_leaders_91 ?_
  refine k_call (A := (fun q : Nat => M q ∨ s.heap.size ≤ q)) (W.runI (As := [.int p0, .int ((bs kb).1 0)]) (rest := [.ref r2, .ref (el k), .int (nI k), .ref la]) ⟨hx, hb, hml, hown, hts⟩ (c_Leaders_init l g H1 r2 p0 ((bs kb).1 0) po) (cwI 2 hts (kW_good kw_261) rfl rfl rfl (hts _ kw_17) (hts _ kw_259) (hts _ kw_260) rfl (by decide +kernel) ⟨Nat.le_of_ble_eq_true rfl, Nat.le_of_ble_eq_true rfl⟩) (k_pre (KK_st g) hKK) rfl rfl hl.1 rfl (lv_room (Nat.le_of_ble_eq_true rfl)) d_BG_leaders_94 ⟨Nat.le_of_ble_eq_true rfl, Nat.le_of_ble_eq_true rfl⟩) (fun _ h => by cases h) (fun q h => by rcases h with h | h; rw [h, e_r2]; exact Or.inr (Nat.le_refl _); exact Or.inr (Nat.le_trans hN.1 h)) (fun v H2 locs hv hL => ?_)
  obtain ⟨rfl, hE2, lo⟩ := hv
  have hE02 : kE (fun _ => False) s.heap H2 := hN.tr hE2 (fun z hz h => by omega)
  refine k_call (A := (fun q : Nat => M q ∨ s.heap.size ≤ q)) (W.runV (As := [.ref r2]) (rest := [.int (nI k), .ref la]) ⟨hx, hb, hml, hown, hts⟩ (c_Glue_with l g H2 (el k) r2 r (its k 0) (its k 1) (its k 4) (its k 5) (its k 6) (its k 7) (hE02.at o0 id)) (cwV 1 hts (kV_good kw_339 kw_336 kw_337 kw_338 kw_16) rfl rfl rfl (by decide +kernel) ⟨Nat.le_of_ble_eq_true rfl, Nat.le_of_ble_eq_true rfl⟩) (k_preV (KK_st g) hKK (va_recv hK (k_one (hE02.at o0 id)) (ci := 5) (q0 := 0) rfl rfl)) rfl rfl hl.1 rfl (lv_room (Nat.le_of_ble_eq_true rfl)) d_BG_leaders_97 ⟨Nat.le_of_ble_eq_true rfl, Nat.le_of_ble_eq_true rfl⟩) hL (fun q h => Or.inr (Nat.le_trans hE02.1 h)) (fun v H locs hv hL => ?_)
  obtain ⟨bq, rfl, hbq, hE3, go⟩ := hv
  have hE : kE (fun _ => False) s.heap H := hE02.tr hE3 (fun _ _ h => h)
  have lo3 := hE3.at lo id
  have hr2 : s.heap.size ≤ r2 := by omega
  have hbs : s.heap.size ≤ bq := Nat.le_trans hE02.1 hbq
  have iw := kInvW.more (⟨xo, al, am, hit, hbx, hM, hne, hMI, hMg, hIl, hB, hn, hnb⟩ : kInvW g I M x (k + 1) its nb bs ib la larr lcap ma marr mcap el bel s.heap) hE (J := fun q => I q ∨ q = bq ∨ q = r2) (fun q h => Or.inl h) (fun q h => by rcases h with h | rfl | rfl; exact Or.inl h; exact Or.inr ⟨hbs, go.lt⟩; exact Or.inr ⟨hr2, lo3.lt⟩)
  obtain ⟨xo, al, am, hit, hbx, hM, hne, hMI, hMg, hIl, hB, hn, hnb⟩ := iw
  have ha : kItem g (fun q => I q ∨ q = bq ∨ q = r2) bq (it_glue (its k 1) (its k 4) (its k 5) (its k 6) (its k 7) p0 ((bs kb).1 0)) H := ⟨Or.inr (Or.inl rfl), Or.inr (Or.inl ⟨rfl, r2, Or.inr (Or.inr rfl), go, lo3⟩)⟩
  refine k_call (A := (fun q : Nat => M q ∨ s.heap.size ≤ q)) (W.runV (As := [.int (nI k), .ref bq]) (rest := []) ⟨hx, hb, hml, hown, hts⟩ (c_AL_set l g H la larr lcap (k + 1) k bq el al (by omega) ha.obj) (cwV 2 hts (kV_good kw_345 kw_342 kw_343 kw_344 kw_4) rfl rfl rfl (by decide +kernel) ⟨Nat.le_of_ble_eq_true rfl, Nat.le_of_ble_eq_true rfl⟩) (k_preV (KK_st g) hKK (kAL.recv ⟨_, _, al⟩ hK)) rfl rfl hl.1 rfl (lv_room (Nat.le_of_ble_eq_true rfl)) d_BG_leaders_100 ⟨Nat.le_of_ble_eq_true rfl, Nat.le_of_ble_eq_true rfl⟩) hL (fun q h => by rcases h with h | h; rw [h.1]; exact Or.inl (hM.2.2.2.1 h.2); exact Or.inr (Nat.le_trans hE.1 h)) (fun v H4 locs hv hL => ?_)
  obtain ⟨rfl, hE4, al4⟩ := hv
  have hE5 : kE (fun q => q = la ∨ (q = larr ∧ 0 < lcap)) H H4 := hE4.wk (fun _ _ h => Or.inr h)
  have hA : ∀ q, (q = la ∨ (q = larr ∧ 0 < lcap)) → M q := fun q h => by rcases h with h | h; rw [h]; exact hM.2.1; rw [h.1]; exact hM.2.2.2.1 h.2
  have hkp : ∀ b jt, kItem g (fun q => I q ∨ q = bq ∨ q = r2) b jt H → kItem g (fun q => I q ∨ q = bq ∨ q = r2) b jt H4 := fun b jt h => h.kept (fun _ h => h) (fun q hq hl => hE5.2 q hl (fun h => hMI q (hA q h) hq))
  have hit2 : ∀ i, i < k + 1 → kItem g (fun q => I q ∨ q = bq ∨ q = r2) (va_up el k bq i) (va_up its k (it_glue (its k 1) (its k 4) (its k 5) (its k 6) (its k 7) p0 ((bs kb).1 0)) i) H4 := by
    intro i hi
    by_cases e : i = k
    · subst e; rw [va_up_self, va_up_self]; exact hkp _ _ ha
    · rw [va_up_ne _ _ e, va_up_ne _ _ e]; exact hkp _ _ (hit i hi)
  obtain ⟨hEM, N, inv2, hN9⟩ := kInv.list hK xo al am hit hbx hM hne hMI hMg hIl hB hnb hE5 al4 (Or.inl ⟨rfl, rfl⟩) hit2 (by omega)
  refine lv_pop hx hb d_BG_leaders_103 rfl ?_
  refine lv_iconst (v := 1) hx hb d_BG_leaders_104 (by decide) ?_
  exact W.iret (v := 1) hx hb hr (fun t ht hW => ⟨_, rfl, rfl, by rw [ht]; exact (hE.wk (fun _ _ h => h.elim)).tr hEM (fun _ _ h => h), (fun q => I q ∨ q = bq ∨ q = r2), N, by rw [ht]; exact inv2.inv, fun q h => (hN9 q h).elim Or.inl (fun h => Or.inr (Nat.le_trans hE.1 h)), fun q h => by rcases h with h | h | h; exact Or.inl h; rw [h]; exact Or.inr hbs; rw [h]; exact Or.inr hr2⟩) hL d_BG_leaders_105

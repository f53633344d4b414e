/-! the reference: makers, leaders, drop, reads of items -/
set_option maxHeartbeats 4000000 in
set_option maxRecDepth 100000 in
theorem c_Mod_kern_bad (l : Launch) (g : KGt) (H0 : Heap) (m0 : Nat) (ad : Nat → Nat) (sz us bx : Nat) (F : Nat → Nat → Int32) (G : Nat → Nat → Int64) (hM : kMod g m0 ad sz us bx F G H0) (p0 : Int32) (h : f_Mod_isIn p0 (-100000) 100000 = 0) : Met l y_Mod_kern (kW y_Mod_kern b_Mod_kern 2 (.some .int)) ({ frames := 1, cells := 0, slots := 0, locals := 22 }) (kPc [.ref m0, .int p0] (KK g) H0) (kQc (kPure (.int (-1)) H0)) 0 0 (fun _ => False) := by
  refine Met.ofW (cc := b_Mod_kern) (maxL := 2) (ret := (.some .int)) (by decide) rfl ?_
  intro p e s m args below meth c s₁ B hml hv
  obtain ⟨rfl, hH, hKK⟩ := hv
  have hx := B.exec
  have hb := B.bytes
  have hr := B.returns
  have hts := kW_ts (atoms_spec (ws := kW y_Mod_kern b_Mod_kern 2 (.some .int)) B.pre)
  have hown : s.vm.findClass "BoxGlueModel" = some m.cls := findClass_of_methodNamed B.named
  have hlocks := B.notSynchronized
  have hK := hKK.1
  subst hH
  have hl := lv_entry ([.ref m0, .int p0]) (n := 2) (Nat.le_of_ble_eq_true rfl)
  rw [lg_entry_eq]
  generalize (lg_sl ([.ref m0, .int p0]) ++ List.replicate (2 - (lg_sl ([.ref m0, .int p0])).length) Slot.unset).toArray = ls at hl ⊢
  have hl : lv_has ls 2 [(0, .ref m0), (1, .int p0)] := hl
  refine lv_iload_n hx hb d_Mod_kern_0 rfl (lv_at hl 1 rfl) ?_
  refine lv_ldc (own := "BoxGlueModel") (index := 90) (v := (-100000)) hx hb hown (hts _ kw_672) d_Mod_kern_1 ?_
  refine lv_ldc (own := "BoxGlueModel") (index := 78) (v := 100000) hx hb hown (hts _ kw_660) d_Mod_kern_3 ?_
  refine k_pure (r := .int (f_Mod_isIn p0 (-100000) 100000)) (W.runS (As := [.int p0, .int (-100000), .int 100000]) (rest := []) ⟨hx, hb, hml, hown, hts⟩ (c_Mod_isIn l g s.heap p0 (-100000) 100000) (va_cwS 3 hts (kS_good kw_663 kw_661 kw_662 kw_5) rfl rfl rfl (by decide +kernel) ⟨Nat.le_of_ble_eq_true rfl, Nat.le_of_ble_eq_true rfl⟩) (k_pre (KK_st g) hKK) rfl rfl hl.1 rfl (lv_room (Nat.le_of_ble_eq_true rfl)) d_Mod_kern_5 ⟨Nat.zero_le _, Nat.zero_le _⟩) ?_
  refine lv_if_ne (tgt := 13) hx hb d_Mod_kern_8 (by decide) (fun c_1 => ?_) (fun c_1 => ?_)
  · exact absurd c_1 (fun q => q h)
  refine lv_iconst (v := (-1)) hx hb d_Mod_kern_11 (by decide) ?_
  exact W.iret (v := (-1)) hx hb hr (fun t ht hW => ⟨_, rfl, rfl, ht⟩) (fun _ h => by cases h) d_Mod_kern_12
set_option maxHeartbeats 4000000 in
set_option maxRecDepth 100000 in
theorem c_Mod_kern_full (l : Launch) (g : KGt) (H0 : Heap) (m0 : Nat) (ad : Nat → Nat) (sz us bx : Nat) (F : Nat → Nat → Int32) (G : Nat → Nat → Int64) (hM : kMod g m0 ad sz us bx F G H0) (p0 : Int32) (h0 : ¬ f_Mod_isIn p0 (-100000) 100000 = 0) (hf : sz = 40) : Met l y_Mod_kern (kW y_Mod_kern b_Mod_kern 2 (.some .int)) ({ frames := 1, cells := 0, slots := 0, locals := 22 }) (kPc [.ref m0, .int p0] (KK g) H0) (kQc (kPure (.int (-2)) H0)) 0 0 (fun _ => False) := by
  refine Met.ofW (cc := b_Mod_kern) (maxL := 2) (ret := (.some .int)) (by decide) rfl ?_
  intro p e s m args below meth c s₁ B hml hv
  obtain ⟨rfl, hH, hKK⟩ := hv
  have hx := B.exec
  have hb := B.bytes
  have hr := B.returns
  have hts := kW_ts (atoms_spec (ws := kW y_Mod_kern b_Mod_kern 2 (.some .int)) B.pre)
  have hown : s.vm.findClass "BoxGlueModel" = some m.cls := findClass_of_methodNamed B.named
  have hlocks := B.notSynchronized
  have hK := hKK.1
  subst hH
  have hl := lv_entry ([.ref m0, .int p0]) (n := 2) (Nat.le_of_ble_eq_true rfl)
  rw [lg_entry_eq]
  generalize (lg_sl ([.ref m0, .int p0]) ++ List.replicate (2 - (lg_sl ([.ref m0, .int p0])).length) Slot.unset).toArray = ls at hl ⊢
  have hl : lv_has ls 2 [(0, .ref m0), (1, .int p0)] := hl
  refine lv_iload_n hx hb d_Mod_kern_0 rfl (lv_at hl 1 rfl) ?_
  refine lv_ldc (own := "BoxGlueModel") (index := 90) (v := (-100000)) hx hb hown (hts _ kw_672) d_Mod_kern_1 ?_
  refine lv_ldc (own := "BoxGlueModel") (index := 78) (v := 100000) hx hb hown (hts _ kw_660) d_Mod_kern_3 ?_
  refine k_pure (r := .int (f_Mod_isIn p0 (-100000) 100000)) (W.runS (As := [.int p0, .int (-100000), .int 100000]) (rest := []) ⟨hx, hb, hml, hown, hts⟩ (c_Mod_isIn l g s.heap p0 (-100000) 100000) (va_cwS 3 hts (kS_good kw_663 kw_661 kw_662 kw_5) rfl rfl rfl (by decide +kernel) ⟨Nat.le_of_ble_eq_true rfl, Nat.le_of_ble_eq_true rfl⟩) (k_pre (KK_st g) hKK) rfl rfl hl.1 rfl (lv_room (Nat.le_of_ble_eq_true rfl)) d_Mod_kern_5 ⟨Nat.zero_le _, Nat.zero_le _⟩) ?_
  refine lv_if_ne (tgt := 13) hx hb d_Mod_kern_8 (by decide) (fun c_1 => ?_) (fun c_1 => ?_)
  rotate_left
  · exact absurd c_1 h0
  refine lv_aload_n hx hb d_Mod_kern_13 rfl (lv_at hl 0 rfl) ?_
  refine va_get (D := g.1) (ci := 10) (v := .int (nI sz)) (C := "BoxGlueModel") (T := kT_Mod) (N := 24) hx hb hts ki_Mod hown hK (k_one hM.1) 0 rfl rfl 12 (by decide) (hts _ kw_593) (fun _ h9 => h9) rfl d_Mod_kern_14 ?_
  refine lv_bipush (v := 40) hx hb d_Mod_kern_17 (by decide) ?_
  refine lv_icmp_ne (tgt := 27) hx hb d_Mod_kern_19 (by decide) (fun c_2 => ?_) (fun c_2 => ?_)
  · exact absurd c_2 (fun q => q (by rw [hf]; rfl))
  refine lv_bipush (v := (-2)) hx hb d_Mod_kern_22 (by decide) ?_
  refine lv_goto (tgt := 33) hx hb d_Mod_kern_24 (by decide) ?_
  exact W.iret (v := (-2)) hx hb hr (fun t ht hW => ⟨_, rfl, rfl, ht⟩) (fun _ h => by cases h) d_Mod_kern_33
set_option maxHeartbeats 4000000 in
set_option maxRecDepth 100000 in
theorem c_Mod_kern_ok (l : Launch) (g : KGt) (H0 : Heap) (m0 : Nat) (ad : Nat → Nat) (sz us bx : Nat) (F : Nat → Nat → Int32) (G : Nat → Nat → Int64) (hM : kMod g m0 ad sz us bx F G H0) (p0 : Int32) (h0 : ¬ f_Mod_isIn p0 (-100000) 100000 = 0) (hf : sz < 40) : Met l y_Mod_kern (kW y_Mod_kern b_Mod_kern 2 (.some .int)) ({ frames := 1, cells := 0, slots := 0, locals := 22 }) (kPc [.ref m0, .int p0] (KK g) H0) (kQc (fun v H1 => v = some (.int (nI (sz + 1))) ∧ kE (mA m0 ad) H0 H1 ∧ kMod g m0 ad (sz + 1) us bx (mo_more F sz 3 p0) G H1)) 0 0 (mA m0 ad) := by
  refine Met.ofW (cc := b_Mod_kern) (maxL := 2) (ret := (.some .int)) (by decide) rfl ?_
  intro p e s m args below meth c s₁ B hml hv
  obtain ⟨rfl, hH, hKK⟩ := hv
  have hx := B.exec
  have hb := B.bytes
  have hr := B.returns
  have hts := kW_ts (atoms_spec (ws := kW y_Mod_kern b_Mod_kern 2 (.some .int)) B.pre)
  have hown : s.vm.findClass "BoxGlueModel" = some m.cls := findClass_of_methodNamed B.named
  have hlocks := B.notSynchronized
  have hK := hKK.1
  subst hH
  have hl := lv_entry ([.ref m0, .int p0]) (n := 2) (Nat.le_of_ble_eq_true rfl)
  rw [lg_entry_eq]
  generalize (lg_sl ([.ref m0, .int p0]) ++ List.replicate (2 - (lg_sl ([.ref m0, .int p0])).length) Slot.unset).toArray = ls at hl ⊢
  have hl : lv_has ls 2 [(0, .ref m0), (1, .int p0)] := hl
  refine lv_iload_n hx hb d_Mod_kern_0 rfl (lv_at hl 1 rfl) ?_
  refine lv_ldc (own := "BoxGlueModel") (index := 90) (v := (-100000)) hx hb hown (hts _ kw_672) d_Mod_kern_1 ?_
  refine lv_ldc (own := "BoxGlueModel") (index := 78) (v := 100000) hx hb hown (hts _ kw_660) d_Mod_kern_3 ?_
  refine k_pure (r := .int (f_Mod_isIn p0 (-100000) 100000)) (W.runS (As := [.int p0, .int (-100000), .int 100000]) (rest := []) ⟨hx, hb, hml, hown, hts⟩ (c_Mod_isIn l g s.heap p0 (-100000) 100000) (va_cwS 3 hts (kS_good kw_663 kw_661 kw_662 kw_5) rfl rfl rfl (by decide +kernel) ⟨Nat.le_of_ble_eq_true rfl, Nat.le_of_ble_eq_true rfl⟩) (k_pre (KK_st g) hKK) rfl rfl hl.1 rfl (lv_room (Nat.le_of_ble_eq_true rfl)) d_Mod_kern_5 ⟨Nat.zero_le _, Nat.zero_le _⟩) ?_
  refine lv_if_ne (tgt := 13) hx hb d_Mod_kern_8 (by decide) (fun c_1 => ?_) (fun c_1 => ?_)
  rotate_left
  · exact absurd c_1 h0
  refine lv_aload_n hx hb d_Mod_kern_13 rfl (lv_at hl 0 rfl) ?_
  refine va_get (D := g.1) (ci := 10) (v := .int (nI sz)) (C := "BoxGlueModel") (T := kT_Mod) (N := 24) hx hb hts ki_Mod hown hK (k_one hM.1) 0 rfl rfl 12 (by decide) (hts _ kw_593) (fun _ h9 => h9) rfl d_Mod_kern_14 ?_
  refine lv_bipush (v := 40) hx hb d_Mod_kern_17 (by decide) ?_
  refine lv_icmp_ne (tgt := 27) hx hb d_Mod_kern_19 (by decide) (fun c_2 => ?_) (fun c_2 => ?_)
  rotate_left
  · exact absurd c_2 (fun z => absurd ((nI_eq (by omega) (by decide)).mp (z.trans (show (40 : Int32) = nI 40 from rfl))) (by omega))
  refine lv_aload_n hx hb d_Mod_kern_27 rfl (lv_at hl 0 rfl) ?_
  refine lv_iconst (v := 3) hx hb d_Mod_kern_28 (by decide) ?_
  refine lv_iload_n hx hb d_Mod_kern_29 rfl (lv_at hl 1 rfl) ?_
  refine k_call (A := (mA m0 ad)) (W.runV (As := [.int 3, .int p0]) (rest := []) ⟨hx, hb, hml, hown, hts⟩ (c_Mod_more l g s.heap m0 ad sz us bx F G hM 3 p0 (by omega)) (cwV 2 hts (kV_good kw_676 kw_673 kw_675 ks_Mod_more kw_5) rfl rfl rfl (by decide +kernel) ⟨Nat.le_of_ble_eq_true rfl, Nat.le_of_ble_eq_true rfl⟩) (k_preV (KK_st g) hKK (va_recv hK (k_one hM.1) (ci := 10) (q0 := 0) rfl rfl)) rfl rfl hl.1 rfl (lv_room (Nat.le_of_ble_eq_true rfl)) d_Mod_kern_30 ⟨Nat.le_of_ble_eq_true rfl, Nat.le_of_ble_eq_true rfl⟩) (fun _ h => by cases h) (fun q h => h) (fun v H locs hv hL => ?_)
  obtain ⟨rfl, hE1, hM⟩ := hv
  have hE : kE (mA m0 ad) s.heap H := hE1
  exact W.iret (v := (nI (sz + 1))) hx hb hr (fun t ht hW => ⟨_, rfl, rfl, by rw [ht]; exact hE, by rw [ht]; exact hM⟩) hL d_Mod_kern_33
set_option maxHeartbeats 4000000 in
set_option maxRecDepth 100000 in
theorem c_Mod_glue_bad (l : Launch) (g : KGt) (H0 : Heap) (m0 : Nat) (ad : Nat → Nat) (sz us bx : Nat) (F : Nat → Nat → Int32) (G : Nat → Nat → Int64) (hM : kMod g m0 ad sz us bx F G H0) (p0 : Int32) (p1 : Int32) (p2 : Int32) (p3 : Int32) (p4 : Int32) (h : f_Mod_isIn p0 (-100000) 100000 = 0 ∨ f_Mod_isIn p1 0 1000 = 0 ∨ f_Mod_isIn p2 0 3 = 0 ∨ f_Mod_isIn p3 0 1000 = 0 ∨ f_Mod_isIn p4 0 3 = 0) : Met l y_Mod_glue (kW y_Mod_glue b_Mod_glue 6 (.some .int)) ({ frames := 1, cells := 0, slots := 0, locals := 22 }) (kPc [.ref m0, .int p0, .int p1, .int p2, .int p3, .int p4] (KK g) H0) (kQc (kPure (.int (-1)) H0)) 0 0 (fun _ => False) := by
  refine Met.ofW (cc := b_Mod_glue) (maxL := 6) (ret := (.some .int)) (by decide) rfl ?_
  intro p e s m args below meth c s₁ B hml hv
  obtain ⟨rfl, hH, hKK⟩ := hv
  have hx := B.exec
  have hb := B.bytes
  have hr := B.returns
  have hts := kW_ts (atoms_spec (ws := kW y_Mod_glue b_Mod_glue 6 (.some .int)) B.pre)
  have hown : s.vm.findClass "BoxGlueModel" = some m.cls := findClass_of_methodNamed B.named
  have hlocks := B.notSynchronized
  have hK := hKK.1
  subst hH
  have hl := lv_entry ([.ref m0, .int p0, .int p1, .int p2, .int p3, .int p4]) (n := 6) (Nat.le_of_ble_eq_true rfl)
  rw [lg_entry_eq]
  generalize (lg_sl ([.ref m0, .int p0, .int p1, .int p2, .int p3, .int p4]) ++ List.replicate (6 - (lg_sl ([.ref m0, .int p0, .int p1, .int p2, .int p3, .int p4])).length) Slot.unset).toArray = ls at hl ⊢
  have hl : lv_has ls 6 [(0, .ref m0), (1, .int p0), (2, .int p1), (3, .int p2), (4, .int p3), (5, .int p4)] := hl
  refine lv_iload_n hx hb d_Mod_glue_0 rfl (lv_at hl 1 rfl) ?_
  refine lv_ldc (own := "BoxGlueModel") (index := 90) (v := (-100000)) hx hb hown (hts _ kw_672) d_Mod_glue_1 ?_
  refine lv_ldc (own := "BoxGlueModel") (index := 78) (v := 100000) hx hb hown (hts _ kw_660) d_Mod_glue_3 ?_
  refine k_pure (r := .int (f_Mod_isIn p0 (-100000) 100000)) (W.runS (As := [.int p0, .int (-100000), .int 100000]) (rest := []) ⟨hx, hb, hml, hown, hts⟩ (c_Mod_isIn l g s.heap p0 (-100000) 100000) (va_cwS 3 hts (kS_good kw_663 kw_661 kw_662 kw_5) rfl rfl rfl (by decide +kernel) ⟨Nat.le_of_ble_eq_true rfl, Nat.le_of_ble_eq_true rfl⟩) (k_pre (KK_st g) hKK) rfl rfl hl.1 rfl (lv_room (Nat.le_of_ble_eq_true rfl)) d_Mod_glue_5 ⟨Nat.zero_le _, Nat.zero_le _⟩) ?_
  refine lv_if_eq (tgt := 53) hx hb d_Mod_glue_8 (by decide) (fun c_1 => ?_) (fun c_1 => ?_)
  · skip
    refine lv_iconst (v := (-1)) hx hb d_Mod_glue_53 (by decide) ?_
    exact W.iret (v := (-1)) hx hb hr (fun t ht hW => ⟨_, rfl, rfl, ht⟩) (fun _ h => by cases h) d_Mod_glue_54
  · skip
    refine lv_iload_n hx hb d_Mod_glue_11 rfl (lv_at hl 2 rfl) ?_
    refine lv_iconst (v := 0) hx hb d_Mod_glue_12 (by decide) ?_
    refine lv_sipush (v := 1000) hx hb d_Mod_glue_13 (by decide) ?_
    refine k_pure (r := .int (f_Mod_isIn p1 0 1000)) (W.runS (As := [.int p1, .int 0, .int 1000]) (rest := []) ⟨hx, hb, hml, hown, hts⟩ (c_Mod_isIn l g s.heap p1 0 1000) (va_cwS 3 hts (kS_good kw_663 kw_661 kw_662 kw_5) rfl rfl rfl (by decide +kernel) ⟨Nat.le_of_ble_eq_true rfl, Nat.le_of_ble_eq_true rfl⟩) (k_pre (KK_st g) hKK) rfl rfl hl.1 rfl (lv_room (Nat.le_of_ble_eq_true rfl)) d_Mod_glue_16 ⟨Nat.zero_le _, Nat.zero_le _⟩) ?_
    refine lv_if_eq (tgt := 53) hx hb d_Mod_glue_19 (by decide) (fun c_2 => ?_) (fun c_2 => ?_)
    · skip
      refine lv_iconst (v := (-1)) hx hb d_Mod_glue_53 (by decide) ?_
      exact W.iret (v := (-1)) hx hb hr (fun t ht hW => ⟨_, rfl, rfl, ht⟩) (fun _ h => by cases h) d_Mod_glue_54
    · skip
      refine lv_iload_n hx hb d_Mod_glue_22 rfl (lv_at hl 3 rfl) ?_
      refine lv_iconst (v := 0) hx hb d_Mod_glue_23 (by decide) ?_
      refine lv_iconst (v := 3) hx hb d_Mod_glue_24 (by decide) ?_
      refine k_pure (r := .int (f_Mod_isIn p2 0 3)) (W.runS (As := [.int p2, .int 0, .int 3]) (rest := []) ⟨hx, hb, hml, hown, hts⟩ (c_Mod_isIn l g s.heap p2 0 3) (va_cwS 3 hts (kS_good kw_663 kw_661 kw_662 kw_5) rfl rfl rfl (by decide +kernel) ⟨Nat.le_of_ble_eq_true rfl, Nat.le_of_ble_eq_true rfl⟩) (k_pre (KK_st g) hKK) rfl rfl hl.1 rfl (lv_room (Nat.le_of_ble_eq_true rfl)) d_Mod_glue_25 ⟨Nat.zero_le _, Nat.zero_le _⟩) ?_
      refine lv_if_eq (tgt := 53) hx hb d_Mod_glue_28 (by decide) (fun c_3 => ?_) (fun c_3 => ?_)
      · skip
        refine lv_iconst (v := (-1)) hx hb d_Mod_glue_53 (by decide) ?_
        exact W.iret (v := (-1)) hx hb hr (fun t ht hW => ⟨_, rfl, rfl, ht⟩) (fun _ h => by cases h) d_Mod_glue_54
      · skip
        refine lv_iload hx hb d_Mod_glue_31 (lv_at hl 4 rfl) ?_
        refine lv_iconst (v := 0) hx hb d_Mod_glue_33 (by decide) ?_
        refine lv_sipush (v := 1000) hx hb d_Mod_glue_34 (by decide) ?_
        refine k_pure (r := .int (f_Mod_isIn p3 0 1000)) (W.runS (As := [.int p3, .int 0, .int 1000]) (rest := []) ⟨hx, hb, hml, hown, hts⟩ (c_Mod_isIn l g s.heap p3 0 1000) (va_cwS 3 hts (kS_good kw_663 kw_661 kw_662 kw_5) rfl rfl rfl (by decide +kernel) ⟨Nat.le_of_ble_eq_true rfl, Nat.le_of_ble_eq_true rfl⟩) (k_pre (KK_st g) hKK) rfl rfl hl.1 rfl (lv_room (Nat.le_of_ble_eq_true rfl)) d_Mod_glue_37 ⟨Nat.zero_le _, Nat.zero_le _⟩) ?_
        refine lv_if_eq (tgt := 53) hx hb d_Mod_glue_40 (by decide) (fun c_4 => ?_) (fun c_4 => ?_)
        · skip
          refine lv_iconst (v := (-1)) hx hb d_Mod_glue_53 (by decide) ?_
          exact W.iret (v := (-1)) hx hb hr (fun t ht hW => ⟨_, rfl, rfl, ht⟩) (fun _ h => by cases h) d_Mod_glue_54
        · skip
          refine lv_iload hx hb d_Mod_glue_43 (lv_at hl 5 rfl) ?_
          refine lv_iconst (v := 0) hx hb d_Mod_glue_45 (by decide) ?_
          refine lv_iconst (v := 3) hx hb d_Mod_glue_46 (by decide) ?_
          refine k_pure (r := .int (f_Mod_isIn p4 0 3)) (W.runS (As := [.int p4, .int 0, .int 3]) (rest := []) ⟨hx, hb, hml, hown, hts⟩ (c_Mod_isIn l g s.heap p4 0 3) (va_cwS 3 hts (kS_good kw_663 kw_661 kw_662 kw_5) rfl rfl rfl (by decide +kernel) ⟨Nat.le_of_ble_eq_true rfl, Nat.le_of_ble_eq_true rfl⟩) (k_pre (KK_st g) hKK) rfl rfl hl.1 rfl (lv_room (Nat.le_of_ble_eq_true rfl)) d_Mod_glue_47 ⟨Nat.zero_le _, Nat.zero_le _⟩) ?_
          refine lv_if_ne (tgt := 55) hx hb d_Mod_glue_50 (by decide) (fun c_5 => ?_) (fun c_5 => ?_)
          · skip
            rcases h with h | h | h | h | h <;> contradiction
          · skip
            refine lv_iconst (v := (-1)) hx hb d_Mod_glue_53 (by decide) ?_
            exact W.iret (v := (-1)) hx hb hr (fun t ht hW => ⟨_, rfl, rfl, ht⟩) (fun _ h => by cases h) d_Mod_glue_54
set_option maxHeartbeats 4000000 in
set_option maxRecDepth 100000 in
theorem c_Mod_glue_full (l : Launch) (g : KGt) (H0 : Heap) (m0 : Nat) (ad : Nat → Nat) (sz us bx : Nat) (F : Nat → Nat → Int32) (G : Nat → Nat → Int64) (hM : kMod g m0 ad sz us bx F G H0) (p0 : Int32) (p1 : Int32) (p2 : Int32) (p3 : Int32) (p4 : Int32) (h0 : ¬ f_Mod_isIn p0 (-100000) 100000 = 0) (h1 : ¬ f_Mod_isIn p1 0 1000 = 0) (h2 : ¬ f_Mod_isIn p2 0 3 = 0) (h3 : ¬ f_Mod_isIn p3 0 1000 = 0) (h4 : ¬ f_Mod_isIn p4 0 3 = 0) (hf : sz = 40) : Met l y_Mod_glue (kW y_Mod_glue b_Mod_glue 6 (.some .int)) ({ frames := 1, cells := 0, slots := 0, locals := 22 }) (kPc [.ref m0, .int p0, .int p1, .int p2, .int p3, .int p4] (KK g) H0) (kQc (kPure (.int (-2)) H0)) 0 0 (fun _ => False) := by
  refine Met.ofW (cc := b_Mod_glue) (maxL := 6) (ret := (.some .int)) (by decide) rfl ?_
  intro p e s m args below meth c s₁ B hml hv
  obtain ⟨rfl, hH, hKK⟩ := hv
  have hx := B.exec
  have hb := B.bytes
  have hr := B.returns
  have hts := kW_ts (atoms_spec (ws := kW y_Mod_glue b_Mod_glue 6 (.some .int)) B.pre)
  have hown : s.vm.findClass "BoxGlueModel" = some m.cls := findClass_of_methodNamed B.named
  have hlocks := B.notSynchronized
  have hK := hKK.1
  subst hH
  have hl := lv_entry ([.ref m0, .int p0, .int p1, .int p2, .int p3, .int p4]) (n := 6) (Nat.le_of_ble_eq_true rfl)
  rw [lg_entry_eq]
  generalize (lg_sl ([.ref m0, .int p0, .int p1, .int p2, .int p3, .int p4]) ++ List.replicate (6 - (lg_sl ([.ref m0, .int p0, .int p1, .int p2, .int p3, .int p4])).length) Slot.unset).toArray = ls at hl ⊢
  have hl : lv_has ls 6 [(0, .ref m0), (1, .int p0), (2, .int p1), (3, .int p2), (4, .int p3), (5, .int p4)] := hl
  refine lv_iload_n hx hb d_Mod_glue_0 rfl (lv_at hl 1 rfl) ?_
  refine lv_ldc (own := "BoxGlueModel") (index := 90) (v := (-100000)) hx hb hown (hts _ kw_672) d_Mod_glue_1 ?_
  refine lv_ldc (own := "BoxGlueModel") (index := 78) (v := 100000) hx hb hown (hts _ kw_660) d_Mod_glue_3 ?_
  refine k_pure (r := .int (f_Mod_isIn p0 (-100000) 100000)) (W.runS (As := [.int p0, .int (-100000), .int 100000]) (rest := []) ⟨hx, hb, hml, hown, hts⟩ (c_Mod_isIn l g s.heap p0 (-100000) 100000) (va_cwS 3 hts (kS_good kw_663 kw_661 kw_662 kw_5) rfl rfl rfl (by decide +kernel) ⟨Nat.le_of_ble_eq_true rfl, Nat.le_of_ble_eq_true rfl⟩) (k_pre (KK_st g) hKK) rfl rfl hl.1 rfl (lv_room (Nat.le_of_ble_eq_true rfl)) d_Mod_glue_5 ⟨Nat.zero_le _, Nat.zero_le _⟩) ?_
  refine lv_if_eq (tgt := 53) hx hb d_Mod_glue_8 (by decide) (fun c_1 => ?_) (fun c_1 => ?_)
  · exact absurd c_1 h0
  refine lv_iload_n hx hb d_Mod_glue_11 rfl (lv_at hl 2 rfl) ?_
  refine lv_iconst (v := 0) hx hb d_Mod_glue_12 (by decide) ?_
  refine lv_sipush (v := 1000) hx hb d_Mod_glue_13 (by decide) ?_
  refine k_pure (r := .int (f_Mod_isIn p1 0 1000)) (W.runS (As := [.int p1, .int 0, .int 1000]) (rest := []) ⟨hx, hb, hml, hown, hts⟩ (c_Mod_isIn l g s.heap p1 0 1000) (va_cwS 3 hts (kS_good kw_663 kw_661 kw_662 kw_5) rfl rfl rfl (by decide +kernel) ⟨Nat.le_of_ble_eq_true rfl, Nat.le_of_ble_eq_true rfl⟩) (k_pre (KK_st g) hKK) rfl rfl hl.1 rfl (lv_room (Nat.le_of_ble_eq_true rfl)) d_Mod_glue_16 ⟨Nat.zero_le _, Nat.zero_le _⟩) ?_
  refine lv_if_eq (tgt := 53) hx hb d_Mod_glue_19 (by decide) (fun c_2 => ?_) (fun c_2 => ?_)
  · exact absurd c_2 h1
  refine lv_iload_n hx hb d_Mod_glue_22 rfl (lv_at hl 3 rfl) ?_
  refine lv_iconst (v := 0) hx hb d_Mod_glue_23 (by decide) ?_
  refine lv_iconst (v := 3) hx hb d_Mod_glue_24 (by decide) ?_
  refine k_pure (r := .int (f_Mod_isIn p2 0 3)) (W.runS (As := [.int p2, .int 0, .int 3]) (rest := []) ⟨hx, hb, hml, hown, hts⟩ (c_Mod_isIn l g s.heap p2 0 3) (va_cwS 3 hts (kS_good kw_663 kw_661 kw_662 kw_5) rfl rfl rfl (by decide +kernel) ⟨Nat.le_of_ble_eq_true rfl, Nat.le_of_ble_eq_true rfl⟩) (k_pre (KK_st g) hKK) rfl rfl hl.1 rfl (lv_room (Nat.le_of_ble_eq_true rfl)) d_Mod_glue_25 ⟨Nat.zero_le _, Nat.zero_le _⟩) ?_
  refine lv_if_eq (tgt := 53) hx hb d_Mod_glue_28 (by decide) (fun c_3 => ?_) (fun c_3 => ?_)
  · exact absurd c_3 h2
  refine lv_iload hx hb d_Mod_glue_31 (lv_at hl 4 rfl) ?_
  refine lv_iconst (v := 0) hx hb d_Mod_glue_33 (by decide) ?_
  refine lv_sipush (v := 1000) hx hb d_Mod_glue_34 (by decide) ?_
  refine k_pure (r := .int (f_Mod_isIn p3 0 1000)) (W.runS (As := [.int p3, .int 0, .int 1000]) (rest := []) ⟨hx, hb, hml, hown, hts⟩ (c_Mod_isIn l g s.heap p3 0 1000) (va_cwS 3 hts (kS_good kw_663 kw_661 kw_662 kw_5) rfl rfl rfl (by decide +kernel) ⟨Nat.le_of_ble_eq_true rfl, Nat.le_of_ble_eq_true rfl⟩) (k_pre (KK_st g) hKK) rfl rfl hl.1 rfl (lv_room (Nat.le_of_ble_eq_true rfl)) d_Mod_glue_37 ⟨Nat.zero_le _, Nat.zero_le _⟩) ?_
  refine lv_if_eq (tgt := 53) hx hb d_Mod_glue_40 (by decide) (fun c_4 => ?_) (fun c_4 => ?_)
  · exact absurd c_4 h3
  refine lv_iload hx hb d_Mod_glue_43 (lv_at hl 5 rfl) ?_
  refine lv_iconst (v := 0) hx hb d_Mod_glue_45 (by decide) ?_
  refine lv_iconst (v := 3) hx hb d_Mod_glue_46 (by decide) ?_
  refine k_pure (r := .int (f_Mod_isIn p4 0 3)) (W.runS (As := [.int p4, .int 0, .int 3]) (rest := []) ⟨hx, hb, hml, hown, hts⟩ (c_Mod_isIn l g s.heap p4 0 3) (va_cwS 3 hts (kS_good kw_663 kw_661 kw_662 kw_5) rfl rfl rfl (by decide +kernel) ⟨Nat.le_of_ble_eq_true rfl, Nat.le_of_ble_eq_true rfl⟩) (k_pre (KK_st g) hKK) rfl rfl hl.1 rfl (lv_room (Nat.le_of_ble_eq_true rfl)) d_Mod_glue_47 ⟨Nat.zero_le _, Nat.zero_le _⟩) ?_
  refine lv_if_ne (tgt := 55) hx hb d_Mod_glue_50 (by decide) (fun c_5 => ?_) (fun c_5 => ?_)
  rotate_left
  · exact absurd c_5 h4
  refine lv_aload_n hx hb d_Mod_glue_55 rfl (lv_at hl 0 rfl) ?_
  refine va_get (D := g.1) (ci := 10) (v := .int (nI sz)) (C := "BoxGlueModel") (T := kT_Mod) (N := 24) hx hb hts ki_Mod hown hK (k_one hM.1) 0 rfl rfl 12 (by decide) (hts _ kw_593) (fun _ h9 => h9) rfl d_Mod_glue_56 ?_
  refine lv_bipush (v := 40) hx hb d_Mod_glue_59 (by decide) ?_
  refine lv_icmp_ne (tgt := 67) hx hb d_Mod_glue_61 (by decide) (fun c_6 => ?_) (fun c_6 => ?_)
  · exact absurd c_6 (fun q => q (by rw [hf]; rfl))
  refine lv_bipush (v := (-2)) hx hb d_Mod_glue_64 (by decide) ?_
  exact W.iret (v := (-2)) hx hb hr (fun t ht hW => ⟨_, rfl, rfl, ht⟩) (fun _ h => by cases h) d_Mod_glue_66
def mo_glue (F : Nat → Nat → Int32) (sz : Nat) (p0 p1 p2 p3 p4 : Int32) : Nat → Nat → Int32 := mF (mF (mF (mF (mo_more F sz 2 p0) 4 sz p1) 5 sz p2) 6 sz p3) 7 sz p4
set_option maxHeartbeats 4000000 in
set_option maxRecDepth 100000 in
theorem c_Mod_glue_ok (l : Launch) (g : KGt) (H0 : Heap) (m0 : Nat) (ad : Nat → Nat) (sz us bx : Nat) (F : Nat → Nat → Int32) (G : Nat → Nat → Int64) (hM : kMod g m0 ad sz us bx F G H0) (p0 : Int32) (p1 : Int32) (p2 : Int32) (p3 : Int32) (p4 : Int32) (h0 : ¬ f_Mod_isIn p0 (-100000) 100000 = 0) (h1 : ¬ f_Mod_isIn p1 0 1000 = 0) (h2 : ¬ f_Mod_isIn p2 0 3 = 0) (h3 : ¬ f_Mod_isIn p3 0 1000 = 0) (h4 : ¬ f_Mod_isIn p4 0 3 = 0) (hf : sz < 40) : Met l y_Mod_glue (kW y_Mod_glue b_Mod_glue 6 (.some .int)) ({ frames := 1, cells := 0, slots := 0, locals := 22 }) (kPc [.ref m0, .int p0, .int p1, .int p2, .int p3, .int p4] (KK g) H0) (kQc (fun v H1 => v = some (.int (nI (sz + 1))) ∧ kE (mA m0 ad) H0 H1 ∧ kMod g m0 ad (sz + 1) us bx (mo_glue F sz p0 p1 p2 p3 p4) G H1)) 0 0 (mA m0 ad) := by
  refine Met.ofW (cc := b_Mod_glue) (maxL := 6) (ret := (.some .int)) (by decide) rfl ?_
  intro p e s m args below meth c s₁ B hml hv
  obtain ⟨rfl, hH, hKK⟩ := hv
  have hx := B.exec
  have hb := B.bytes
  have hr := B.returns
  have hts := kW_ts (atoms_spec (ws := kW y_Mod_glue b_Mod_glue 6 (.some .int)) B.pre)
  have hown : s.vm.findClass "BoxGlueModel" = some m.cls := findClass_of_methodNamed B.named
  have hlocks := B.notSynchronized
  have hK := hKK.1
  subst hH
  have hl := lv_entry ([.ref m0, .int p0, .int p1, .int p2, .int p3, .int p4]) (n := 6) (Nat.le_of_ble_eq_true rfl)
  rw [lg_entry_eq]
  generalize (lg_sl ([.ref m0, .int p0, .int p1, .int p2, .int p3, .int p4]) ++ List.replicate (6 - (lg_sl ([.ref m0, .int p0, .int p1, .int p2, .int p3, .int p4])).length) Slot.unset).toArray = ls at hl ⊢
  have hl : lv_has ls 6 [(0, .ref m0), (1, .int p0), (2, .int p1), (3, .int p2), (4, .int p3), (5, .int p4)] := hl
  refine lv_iload_n hx hb d_Mod_glue_0 rfl (lv_at hl 1 rfl) ?_
  refine lv_ldc (own := "BoxGlueModel") (index := 90) (v := (-100000)) hx hb hown (hts _ kw_672) d_Mod_glue_1 ?_
  refine lv_ldc (own := "BoxGlueModel") (index := 78) (v := 100000) hx hb hown (hts _ kw_660) d_Mod_glue_3 ?_
  refine k_pure (r := .int (f_Mod_isIn p0 (-100000) 100000)) (W.runS (As := [.int p0, .int (-100000), .int 100000]) (rest := []) ⟨hx, hb, hml, hown, hts⟩ (c_Mod_isIn l g s.heap p0 (-100000) 100000) (va_cwS 3 hts (kS_good kw_663 kw_661 kw_662 kw_5) rfl rfl rfl (by decide +kernel) ⟨Nat.le_of_ble_eq_true rfl, Nat.le_of_ble_eq_true rfl⟩) (k_pre (KK_st g) hKK) rfl rfl hl.1 rfl (lv_room (Nat.le_of_ble_eq_true rfl)) d_Mod_glue_5 ⟨Nat.zero_le _, Nat.zero_le _⟩) ?_
  refine lv_if_eq (tgt := 53) hx hb d_Mod_glue_8 (by decide) (fun c_1 => ?_) (fun c_1 => ?_)
  · exact absurd c_1 h0
  refine lv_iload_n hx hb d_Mod_glue_11 rfl (lv_at hl 2 rfl) ?_
  refine lv_iconst (v := 0) hx hb d_Mod_glue_12 (by decide) ?_
  refine lv_sipush (v := 1000) hx hb d_Mod_glue_13 (by decide) ?_
  refine k_pure (r := .int (f_Mod_isIn p1 0 1000)) (W.runS (As := [.int p1, .int 0, .int 1000]) (rest := []) ⟨hx, hb, hml, hown, hts⟩ (c_Mod_isIn l g s.heap p1 0 1000) (va_cwS 3 hts (kS_good kw_663 kw_661 kw_662 kw_5) rfl rfl rfl (by decide +kernel) ⟨Nat.le_of_ble_eq_true rfl, Nat.le_of_ble_eq_true rfl⟩) (k_pre (KK_st g) hKK) rfl rfl hl.1 rfl (lv_room (Nat.le_of_ble_eq_true rfl)) d_Mod_glue_16 ⟨Nat.zero_le _, Nat.zero_le _⟩) ?_
  refine lv_if_eq (tgt := 53) hx hb d_Mod_glue_19 (by decide) (fun c_2 => ?_) (fun c_2 => ?_)
  · exact absurd c_2 h1
  refine lv_iload_n hx hb d_Mod_glue_22 rfl (lv_at hl 3 rfl) ?_
  refine lv_iconst (v := 0) hx hb d_Mod_glue_23 (by decide) ?_
  refine lv_iconst (v := 3) hx hb d_Mod_glue_24 (by decide) ?_
  refine k_pure (r := .int (f_Mod_isIn p2 0 3)) (W.runS (As := [.int p2, .int 0, .int 3]) (rest := []) ⟨hx, hb, hml, hown, hts⟩ (c_Mod_isIn l g s.heap p2 0 3) (va_cwS 3 hts (kS_good kw_663 kw_661 kw_662 kw_5) rfl rfl rfl (by decide +kernel) ⟨Nat.le_of_ble_eq_true rfl, Nat.le_of_ble_eq_true rfl⟩) (k_pre (KK_st g) hKK) rfl rfl hl.1 rfl (lv_room (Nat.le_of_ble_eq_true rfl)) d_Mod_glue_25 ⟨Nat.zero_le _, Nat.zero_le _⟩) ?_
  refine lv_if_eq (tgt := 53) hx hb d_Mod_glue_28 (by decide) (fun c_3 => ?_) (fun c_3 => ?_)
  · exact absurd c_3 h2
  refine lv_iload hx hb d_Mod_glue_31 (lv_at hl 4 rfl) ?_
  refine lv_iconst (v := 0) hx hb d_Mod_glue_33 (by decide) ?_
  refine lv_sipush (v := 1000) hx hb d_Mod_glue_34 (by decide) ?_
  refine k_pure (r := .int (f_Mod_isIn p3 0 1000)) (W.runS (As := [.int p3, .int 0, .int 1000]) (rest := []) ⟨hx, hb, hml, hown, hts⟩ (c_Mod_isIn l g s.heap p3 0 1000) (va_cwS 3 hts (kS_good kw_663 kw_661 kw_662 kw_5) rfl rfl rfl (by decide +kernel) ⟨Nat.le_of_ble_eq_true rfl, Nat.le_of_ble_eq_true rfl⟩) (k_pre (KK_st g) hKK) rfl rfl hl.1 rfl (lv_room (Nat.le_of_ble_eq_true rfl)) d_Mod_glue_37 ⟨Nat.zero_le _, Nat.zero_le _⟩) ?_
  refine lv_if_eq (tgt := 53) hx hb d_Mod_glue_40 (by decide) (fun c_4 => ?_) (fun c_4 => ?_)
  · exact absurd c_4 h3
  refine lv_iload hx hb d_Mod_glue_43 (lv_at hl 5 rfl) ?_
  refine lv_iconst (v := 0) hx hb d_Mod_glue_45 (by decide) ?_
  refine lv_iconst (v := 3) hx hb d_Mod_glue_46 (by decide) ?_
  refine k_pure (r := .int (f_Mod_isIn p4 0 3)) (W.runS (As := [.int p4, .int 0, .int 3]) (rest := []) ⟨hx, hb, hml, hown, hts⟩ (c_Mod_isIn l g s.heap p4 0 3) (va_cwS 3 hts (kS_good kw_663 kw_661 kw_662 kw_5) rfl rfl rfl (by decide +kernel) ⟨Nat.le_of_ble_eq_true rfl, Nat.le_of_ble_eq_true rfl⟩) (k_pre (KK_st g) hKK) rfl rfl hl.1 rfl (lv_room (Nat.le_of_ble_eq_true rfl)) d_Mod_glue_47 ⟨Nat.zero_le _, Nat.zero_le _⟩) ?_
  refine lv_if_ne (tgt := 55) hx hb d_Mod_glue_50 (by decide) (fun c_5 => ?_) (fun c_5 => ?_)
  rotate_left
  · exact absurd c_5 h4
  refine lv_aload_n hx hb d_Mod_glue_55 rfl (lv_at hl 0 rfl) ?_
  refine va_get (D := g.1) (ci := 10) (v := .int (nI sz)) (C := "BoxGlueModel") (T := kT_Mod) (N := 24) hx hb hts ki_Mod hown hK (k_one hM.1) 0 rfl rfl 12 (by decide) (hts _ kw_593) (fun _ h9 => h9) rfl d_Mod_glue_56 ?_
  refine lv_bipush (v := 40) hx hb d_Mod_glue_59 (by decide) ?_
  refine lv_icmp_ne (tgt := 67) hx hb d_Mod_glue_61 (by decide) (fun c_6 => ?_) (fun c_6 => ?_)
  rotate_left
  · exact absurd c_6 (fun z => absurd ((nI_eq (by omega) (by decide)).mp (z.trans (show (40 : Int32) = nI 40 from rfl))) (by omega))
  refine lv_aload_n hx hb d_Mod_glue_67 rfl (lv_at hl 0 rfl) ?_
  refine lv_iconst (v := 2) hx hb d_Mod_glue_68 (by decide) ?_
  refine lv_iload_n hx hb d_Mod_glue_69 rfl (lv_at hl 1 rfl) ?_
  refine k_call (A := (mA m0 ad)) (W.runV (As := [.int 2, .int p0]) (rest := []) ⟨hx, hb, hml, hown, hts⟩ (c_Mod_more l g s.heap m0 ad sz us bx F G hM 2 p0 (by omega)) (cwV 2 hts (kV_good kw_676 kw_673 kw_675 ks_Mod_more kw_5) rfl rfl rfl (by decide +kernel) ⟨Nat.le_of_ble_eq_true rfl, Nat.le_of_ble_eq_true rfl⟩) (k_preV (KK_st g) hKK (va_recv hK (k_one hM.1) (ci := 10) (q0 := 0) rfl rfl)) rfl rfl hl.1 rfl (lv_room (Nat.le_of_ble_eq_true rfl)) d_Mod_glue_70 ⟨Nat.le_of_ble_eq_true rfl, Nat.le_of_ble_eq_true rfl⟩) (fun _ h => by cases h) (fun q h => h) (fun v H locs hv hL => ?_)
  obtain ⟨rfl, hE1, hM⟩ := hv
  have hE : kE (mA m0 ad) s.heap H := hE1
  refine lv_pop hx hb d_Mod_glue_73 rfl ?_
  refine lv_aload_n hx hb d_Mod_glue_74 rfl (lv_at hl 0 rfl) ?_
  refine va_get (D := g.1) (ci := 10) (v := .ref (ad 4)) (C := "BoxGlueModel") (T := kT_Mod) (N := 24) hx hb hts ki_Mod hown hK (k_one hM.1) 0 rfl rfl 4 (by decide) (hts _ kw_585) (fun _ h9 => h9) rfl d_Mod_glue_75 ?_
  refine lv_aload_n hx hb d_Mod_glue_78 rfl (lv_at hl 0 rfl) ?_
  refine va_get (D := g.1) (ci := 10) (v := .int (nI (sz + 1))) (C := "BoxGlueModel") (T := kT_Mod) (N := 24) hx hb hts ki_Mod hown hK (k_one hM.1) 0 rfl rfl 12 (by decide) (hts _ kw_593) (fun _ h9 => h9) rfl d_Mod_glue_79 ?_
  refine lv_iconst (v := 1) hx hb d_Mod_glue_82 (by decide) ?_
  refine lv_isub hx hb d_Mod_glue_83 ?_
  rw [nI_pred]
  refine lv_iload_n hx hb d_Mod_glue_84 rfl (lv_at hl 2 rfl) ?_
  refine m_iast hx hb hK hM hL 4 sz (Or.inl (by decide)) (show sz < 340 by omega) d_Mod_glue_85 (fun H locs hM hE1 hL => ?_)
  have hE : kE (mA m0 ad) s.heap H := hE.tr hE1 (fun _ _ h => h)
  refine lv_aload_n hx hb d_Mod_glue_86 rfl (lv_at hl 0 rfl) ?_
  refine va_get (D := g.1) (ci := 10) (v := .ref (ad 5)) (C := "BoxGlueModel") (T := kT_Mod) (N := 24) hx hb hts ki_Mod hown hK (k_one hM.1) 0 rfl rfl 5 (by decide) (hts _ kw_586) (fun _ h9 => h9) rfl d_Mod_glue_87 ?_
  refine lv_aload_n hx hb d_Mod_glue_90 rfl (lv_at hl 0 rfl) ?_
  refine va_get (D := g.1) (ci := 10) (v := .int (nI (sz + 1))) (C := "BoxGlueModel") (T := kT_Mod) (N := 24) hx hb hts ki_Mod hown hK (k_one hM.1) 0 rfl rfl 12 (by decide) (hts _ kw_593) (fun _ h9 => h9) rfl d_Mod_glue_91 ?_
  refine lv_iconst (v := 1) hx hb d_Mod_glue_94 (by decide) ?_
  refine lv_isub hx hb d_Mod_glue_95 ?_
  rw [nI_pred]
  refine lv_iload_n hx hb d_Mod_glue_96 rfl (lv_at hl 3 rfl) ?_
  refine m_iast hx hb hK hM hL 5 sz (Or.inl (by decide)) (show sz < 340 by omega) d_Mod_glue_97 (fun H locs hM hE1 hL => ?_)
  have hE : kE (mA m0 ad) s.heap H := hE.tr hE1 (fun _ _ h => h)
  refine lv_aload_n hx hb d_Mod_glue_98 rfl (lv_at hl 0 rfl) ?_
  refine va_get (D := g.1) (ci := 10) (v := .ref (ad 6)) (C := "BoxGlueModel") (T := kT_Mod) (N := 24) hx hb hts ki_Mod hown hK (k_one hM.1) 0 rfl rfl 6 (by decide) (hts _ kw_587) (fun _ h9 => h9) rfl d_Mod_glue_99 ?_
  refine lv_aload_n hx hb d_Mod_glue_102 rfl (lv_at hl 0 rfl) ?_
  refine va_get (D := g.1) (ci := 10) (v := .int (nI (sz + 1))) (C := "BoxGlueModel") (T := kT_Mod) (N := 24) hx hb hts ki_Mod hown hK (k_one hM.1) 0 rfl rfl 12 (by decide) (hts _ kw_593) (fun _ h9 => h9) rfl d_Mod_glue_103 ?_
  refine lv_iconst (v := 1) hx hb d_Mod_glue_106 (by decide) ?_
  refine lv_isub hx hb d_Mod_glue_107 ?_
  rw [nI_pred]
  refine lv_iload hx hb d_Mod_glue_108 (lv_at hl 4 rfl) ?_
  refine m_iast hx hb hK hM hL 6 sz (Or.inl (by decide)) (show sz < 340 by omega) d_Mod_glue_110 (fun H locs hM hE1 hL => ?_)
  have hE : kE (mA m0 ad) s.heap H := hE.tr hE1 (fun _ _ h => h)
  refine lv_aload_n hx hb d_Mod_glue_111 rfl (lv_at hl 0 rfl) ?_
  refine va_get (D := g.1) (ci := 10) (v := .ref (ad 7)) (C := "BoxGlueModel") (T := kT_Mod) (N := 24) hx hb hts ki_Mod hown hK (k_one hM.1) 0 rfl rfl 7 (by decide) (hts _ kw_588) (fun _ h9 => h9) rfl d_Mod_glue_112 ?_
  refine lv_aload_n hx hb d_Mod_glue_115 rfl (lv_at hl 0 rfl) ?_
  refine va_get (D := g.1) (ci := 10) (v := .int (nI (sz + 1))) (C := "BoxGlueModel") (T := kT_Mod) (N := 24) hx hb hts ki_Mod hown hK (k_one hM.1) 0 rfl rfl 12 (by decide) (hts _ kw_593) (fun _ h9 => h9) rfl d_Mod_glue_116 ?_
  refine lv_iconst (v := 1) hx hb d_Mod_glue_119 (by decide) ?_
  refine lv_isub hx hb d_Mod_glue_120 ?_
  rw [nI_pred]
  refine lv_iload hx hb d_Mod_glue_121 (lv_at hl 5 rfl) ?_
  refine m_iast hx hb hK hM hL 7 sz (Or.inl (by decide)) (show sz < 340 by omega) d_Mod_glue_123 (fun H locs hM hE1 hL => ?_)
  have hE : kE (mA m0 ad) s.heap H := hE.tr hE1 (fun _ _ h => h)
  refine lv_aload_n hx hb d_Mod_glue_124 rfl (lv_at hl 0 rfl) ?_
  refine va_get (D := g.1) (ci := 10) (v := .int (nI (sz + 1))) (C := "BoxGlueModel") (T := kT_Mod) (N := 24) hx hb hts ki_Mod hown hK (k_one hM.1) 0 rfl rfl 12 (by decide) (hts _ kw_593) (fun _ h9 => h9) rfl d_Mod_glue_125 ?_
  exact W.iret (v := (nI (sz + 1))) hx hb hr (fun t ht hW => ⟨_, rfl, rfl, by rw [ht]; exact hE, by rw [ht]; exact hM⟩) hL d_Mod_glue_128
set_option maxHeartbeats 4000000 in
set_option maxRecDepth 100000 in
theorem c_Mod_rule_bad (l : Launch) (g : KGt) (H0 : Heap) (m0 : Nat) (ad : Nat → Nat) (sz us bx : Nat) (F : Nat → Nat → Int32) (G : Nat → Nat → Int64) (hM : kMod g m0 ad sz us bx F G H0) (p0 : Int32) (p1 : Int32) (p2 : Int32) (h : ¬ (¬ f_Mod_isIn p0 0 100000 = 0 ∧ (p1 = (-1000000) ∨ ¬ f_Mod_isIn p1 0 100000 = 0) ∧ (p2 = (-1000000) ∨ ¬ f_Mod_isIn p2 0 100000 = 0))) : Met l y_Mod_rule (kW y_Mod_rule b_Mod_rule 5 (.some .int)) ({ frames := 1, cells := 0, slots := 0, locals := 22 }) (kPc [.ref m0, .int p0, .int p1, .int p2] (KK g) H0) (kQc (kPure (.int (-1)) H0)) 0 0 (fun _ => False) := by
  refine Met.ofW (cc := b_Mod_rule) (maxL := 5) (ret := (.some .int)) (by decide) rfl ?_
  intro p e s m args below meth c s₁ B hml hv
  obtain ⟨rfl, hH, hKK⟩ := hv
  have hx := B.exec
  have hb := B.bytes
  have hr := B.returns
  have hts := kW_ts (atoms_spec (ws := kW y_Mod_rule b_Mod_rule 5 (.some .int)) B.pre)
  have hown : s.vm.findClass "BoxGlueModel" = some m.cls := findClass_of_methodNamed B.named
  have hlocks := B.notSynchronized
  have hK := hKK.1
  subst hH
  have hl := lv_entry ([.ref m0, .int p0, .int p1, .int p2]) (n := 5) (Nat.le_of_ble_eq_true rfl)
  rw [lg_entry_eq]
  generalize (lg_sl ([.ref m0, .int p0, .int p1, .int p2]) ++ List.replicate (5 - (lg_sl ([.ref m0, .int p0, .int p1, .int p2])).length) Slot.unset).toArray = ls at hl ⊢
  have hl : lv_has ls 5 [(0, .ref m0), (1, .int p0), (2, .int p1), (3, .int p2)] := hl
  refine lv_iload_n hx hb d_Mod_rule_0 rfl (lv_at hl 1 rfl) ?_
  refine lv_iconst (v := 0) hx hb d_Mod_rule_1 (by decide) ?_
  refine lv_ldc (own := "BoxGlueModel") (index := 78) (v := 100000) hx hb hown (hts _ kw_660) d_Mod_rule_2 ?_
  refine k_pure (r := .int (f_Mod_isIn p0 0 100000)) (W.runS (As := [.int p0, .int 0, .int 100000]) (rest := []) ⟨hx, hb, hml, hown, hts⟩ (c_Mod_isIn l g s.heap p0 0 100000) (va_cwS 3 hts (kS_good kw_663 kw_661 kw_662 kw_5) rfl rfl rfl (by decide +kernel) ⟨Nat.le_of_ble_eq_true rfl, Nat.le_of_ble_eq_true rfl⟩) (k_pre (KK_st g) hKK) rfl rfl hl.1 rfl (lv_room (Nat.le_of_ble_eq_true rfl)) d_Mod_rule_4 ⟨Nat.zero_le _, Nat.zero_le _⟩) ?_
  refine lv_if_eq (tgt := 46) hx hb d_Mod_rule_7 (by decide) (fun c_1 => ?_) (fun c_1 => ?_)
  · skip
    refine lv_iconst (v := 0) hx hb d_Mod_rule_46 (by decide) ?_
    refine lv_istore (lv' := [(4, .int 0), (0, .ref m0), (1, .int p0), (2, .int p1), (3, .int p2)]) hx hb d_Mod_rule_47 hl (by decide) rfl (fun ls hl => ?_)
    refine lv_iload hx hb d_Mod_rule_49 (lv_at hl 0 rfl) ?_
    refine lv_if_ne (tgt := 56) hx hb d_Mod_rule_51 (by decide) (fun c_2 => ?_) (fun c_2 => ?_)
    · exact absurd c_2 (fun q => q rfl)
    refine lv_iconst (v := (-1)) hx hb d_Mod_rule_54 (by decide) ?_
    exact W.iret (v := (-1)) hx hb hr (fun t ht hW => ⟨_, rfl, rfl, ht⟩) (fun _ h => by cases h) d_Mod_rule_55
  · skip
    refine lv_iload_n hx hb d_Mod_rule_10 rfl (lv_at hl 2 rfl) ?_
    refine lv_ldc (own := "BoxGlueModel") (index := 95) (v := (-1000000)) hx hb hown (hts _ kw_689) d_Mod_rule_11 ?_
    refine lv_icmp_eq (tgt := 26) hx hb d_Mod_rule_13 (by decide) (fun c_3 => ?_) (fun c_3 => ?_)
    · skip
      refine lv_iload_n hx hb d_Mod_rule_26 rfl (lv_at hl 3 rfl) ?_
      refine lv_ldc (own := "BoxGlueModel") (index := 95) (v := (-1000000)) hx hb hown (hts _ kw_689) d_Mod_rule_27 ?_
      refine lv_icmp_eq (tgt := 42) hx hb d_Mod_rule_29 (by decide) (fun c_4 => ?_) (fun c_4 => ?_)
      · skip
        exact absurd ⟨by assumption, by first | exact Or.inl (by assumption) | exact Or.inr (by assumption), by first | exact Or.inl (by assumption) | exact Or.inr (by assumption)⟩ h
      · skip
        refine lv_iload_n hx hb d_Mod_rule_32 rfl (lv_at hl 3 rfl) ?_
        refine lv_iconst (v := 0) hx hb d_Mod_rule_33 (by decide) ?_
        refine lv_ldc (own := "BoxGlueModel") (index := 78) (v := 100000) hx hb hown (hts _ kw_660) d_Mod_rule_34 ?_
        refine k_pure (r := .int (f_Mod_isIn p2 0 100000)) (W.runS (As := [.int p2, .int 0, .int 100000]) (rest := []) ⟨hx, hb, hml, hown, hts⟩ (c_Mod_isIn l g s.heap p2 0 100000) (va_cwS 3 hts (kS_good kw_663 kw_661 kw_662 kw_5) rfl rfl rfl (by decide +kernel) ⟨Nat.le_of_ble_eq_true rfl, Nat.le_of_ble_eq_true rfl⟩) (k_pre (KK_st g) hKK) rfl rfl hl.1 rfl (lv_room (Nat.le_of_ble_eq_true rfl)) d_Mod_rule_36 ⟨Nat.zero_le _, Nat.zero_le _⟩) ?_
        refine lv_if_eq (tgt := 46) hx hb d_Mod_rule_39 (by decide) (fun c_5 => ?_) (fun c_5 => ?_)
        · skip
          refine lv_iconst (v := 0) hx hb d_Mod_rule_46 (by decide) ?_
          refine lv_istore (lv' := [(4, .int 0), (0, .ref m0), (1, .int p0), (2, .int p1), (3, .int p2)]) hx hb d_Mod_rule_47 hl (by decide) rfl (fun ls hl => ?_)
          refine lv_iload hx hb d_Mod_rule_49 (lv_at hl 0 rfl) ?_
          refine lv_if_ne (tgt := 56) hx hb d_Mod_rule_51 (by decide) (fun c_6 => ?_) (fun c_6 => ?_)
          · exact absurd c_6 (fun q => q rfl)
          refine lv_iconst (v := (-1)) hx hb d_Mod_rule_54 (by decide) ?_
          exact W.iret (v := (-1)) hx hb hr (fun t ht hW => ⟨_, rfl, rfl, ht⟩) (fun _ h => by cases h) d_Mod_rule_55
        · skip
          exact absurd ⟨by assumption, by first | exact Or.inl (by assumption) | exact Or.inr (by assumption), by first | exact Or.inl (by assumption) | exact Or.inr (by assumption)⟩ h
    · skip
      refine lv_iload_n hx hb d_Mod_rule_16 rfl (lv_at hl 2 rfl) ?_
      refine lv_iconst (v := 0) hx hb d_Mod_rule_17 (by decide) ?_
      refine lv_ldc (own := "BoxGlueModel") (index := 78) (v := 100000) hx hb hown (hts _ kw_660) d_Mod_rule_18 ?_
      refine k_pure (r := .int (f_Mod_isIn p1 0 100000)) (W.runS (As := [.int p1, .int 0, .int 100000]) (rest := []) ⟨hx, hb, hml, hown, hts⟩ (c_Mod_isIn l g s.heap p1 0 100000) (va_cwS 3 hts (kS_good kw_663 kw_661 kw_662 kw_5) rfl rfl rfl (by decide +kernel) ⟨Nat.le_of_ble_eq_true rfl, Nat.le_of_ble_eq_true rfl⟩) (k_pre (KK_st g) hKK) rfl rfl hl.1 rfl (lv_room (Nat.le_of_ble_eq_true rfl)) d_Mod_rule_20 ⟨Nat.zero_le _, Nat.zero_le _⟩) ?_
      refine lv_if_eq (tgt := 46) hx hb d_Mod_rule_23 (by decide) (fun c_7 => ?_) (fun c_7 => ?_)
      · skip
        refine lv_iconst (v := 0) hx hb d_Mod_rule_46 (by decide) ?_
        refine lv_istore (lv' := [(4, .int 0), (0, .ref m0), (1, .int p0), (2, .int p1), (3, .int p2)]) hx hb d_Mod_rule_47 hl (by decide) rfl (fun ls hl => ?_)
        refine lv_iload hx hb d_Mod_rule_49 (lv_at hl 0 rfl) ?_
        refine lv_if_ne (tgt := 56) hx hb d_Mod_rule_51 (by decide) (fun c_8 => ?_) (fun c_8 => ?_)
        · exact absurd c_8 (fun q => q rfl)
        refine lv_iconst (v := (-1)) hx hb d_Mod_rule_54 (by decide) ?_
        exact W.iret (v := (-1)) hx hb hr (fun t ht hW => ⟨_, rfl, rfl, ht⟩) (fun _ h => by cases h) d_Mod_rule_55
      · skip
        refine lv_iload_n hx hb d_Mod_rule_26 rfl (lv_at hl 3 rfl) ?_
        refine lv_ldc (own := "BoxGlueModel") (index := 95) (v := (-1000000)) hx hb hown (hts _ kw_689) d_Mod_rule_27 ?_
        refine lv_icmp_eq (tgt := 42) hx hb d_Mod_rule_29 (by decide) (fun c_9 => ?_) (fun c_9 => ?_)
        · skip
          exact absurd ⟨by assumption, by first | exact Or.inl (by assumption) | exact Or.inr (by assumption), by first | exact Or.inl (by assumption) | exact Or.inr (by assumption)⟩ h
        · skip
          refine lv_iload_n hx hb d_Mod_rule_32 rfl (lv_at hl 3 rfl) ?_
          refine lv_iconst (v := 0) hx hb d_Mod_rule_33 (by decide) ?_
          refine lv_ldc (own := "BoxGlueModel") (index := 78) (v := 100000) hx hb hown (hts _ kw_660) d_Mod_rule_34 ?_
          refine k_pure (r := .int (f_Mod_isIn p2 0 100000)) (W.runS (As := [.int p2, .int 0, .int 100000]) (rest := []) ⟨hx, hb, hml, hown, hts⟩ (c_Mod_isIn l g s.heap p2 0 100000) (va_cwS 3 hts (kS_good kw_663 kw_661 kw_662 kw_5) rfl rfl rfl (by decide +kernel) ⟨Nat.le_of_ble_eq_true rfl, Nat.le_of_ble_eq_true rfl⟩) (k_pre (KK_st g) hKK) rfl rfl hl.1 rfl (lv_room (Nat.le_of_ble_eq_true rfl)) d_Mod_rule_36 ⟨Nat.zero_le _, Nat.zero_le _⟩) ?_
          refine lv_if_eq (tgt := 46) hx hb d_Mod_rule_39 (by decide) (fun c_10 => ?_) (fun c_10 => ?_)
          · skip
            refine lv_iconst (v := 0) hx hb d_Mod_rule_46 (by decide) ?_
            refine lv_istore (lv' := [(4, .int 0), (0, .ref m0), (1, .int p0), (2, .int p1), (3, .int p2)]) hx hb d_Mod_rule_47 hl (by decide) rfl (fun ls hl => ?_)
            refine lv_iload hx hb d_Mod_rule_49 (lv_at hl 0 rfl) ?_
            refine lv_if_ne (tgt := 56) hx hb d_Mod_rule_51 (by decide) (fun c_11 => ?_) (fun c_11 => ?_)
            · exact absurd c_11 (fun q => q rfl)
            refine lv_iconst (v := (-1)) hx hb d_Mod_rule_54 (by decide) ?_
            exact W.iret (v := (-1)) hx hb hr (fun t ht hW => ⟨_, rfl, rfl, ht⟩) (fun _ h => by cases h) d_Mod_rule_55
          · skip
            exact absurd ⟨by assumption, by first | exact Or.inl (by assumption) | exact Or.inr (by assumption), by first | exact Or.inl (by assumption) | exact Or.inr (by assumption)⟩ h
set_option maxHeartbeats 4000000 in
set_option maxRecDepth 100000 in
theorem c_Mod_rule_full (l : Launch) (g : KGt) (H0 : Heap) (m0 : Nat) (ad : Nat → Nat) (sz us bx : Nat) (F : Nat → Nat → Int32) (G : Nat → Nat → Int64) (hM : kMod g m0 ad sz us bx F G H0) (p0 : Int32) (p1 : Int32) (p2 : Int32) (hR : (¬ f_Mod_isIn p0 0 100000 = 0 ∧ (p1 = (-1000000) ∨ ¬ f_Mod_isIn p1 0 100000 = 0) ∧ (p2 = (-1000000) ∨ ¬ f_Mod_isIn p2 0 100000 = 0))) (hf : sz = 40) : Met l y_Mod_rule (kW y_Mod_rule b_Mod_rule 5 (.some .int)) ({ frames := 1, cells := 0, slots := 0, locals := 22 }) (kPc [.ref m0, .int p0, .int p1, .int p2] (KK g) H0) (kQc (kPure (.int (-2)) H0)) 0 0 (fun _ => False) := by
  refine Met.ofW (cc := b_Mod_rule) (maxL := 5) (ret := (.some .int)) (by decide) rfl ?_
  intro p e s m args below meth c s₁ B hml hv
  obtain ⟨rfl, hH, hKK⟩ := hv
  have hx := B.exec
  have hb := B.bytes
  have hr := B.returns
  have hts := kW_ts (atoms_spec (ws := kW y_Mod_rule b_Mod_rule 5 (.some .int)) B.pre)
  have hown : s.vm.findClass "BoxGlueModel" = some m.cls := findClass_of_methodNamed B.named
  have hlocks := B.notSynchronized
  have hK := hKK.1
  subst hH
  have hl := lv_entry ([.ref m0, .int p0, .int p1, .int p2]) (n := 5) (Nat.le_of_ble_eq_true rfl)
  rw [lg_entry_eq]
  generalize (lg_sl ([.ref m0, .int p0, .int p1, .int p2]) ++ List.replicate (5 - (lg_sl ([.ref m0, .int p0, .int p1, .int p2])).length) Slot.unset).toArray = ls at hl ⊢
  have hl : lv_has ls 5 [(0, .ref m0), (1, .int p0), (2, .int p1), (3, .int p2)] := hl
  refine lv_iload_n hx hb d_Mod_rule_0 rfl (lv_at hl 1 rfl) ?_
  refine lv_iconst (v := 0) hx hb d_Mod_rule_1 (by decide) ?_
  refine lv_ldc (own := "BoxGlueModel") (index := 78) (v := 100000) hx hb hown (hts _ kw_660) d_Mod_rule_2 ?_
  refine k_pure (r := .int (f_Mod_isIn p0 0 100000)) (W.runS (As := [.int p0, .int 0, .int 100000]) (rest := []) ⟨hx, hb, hml, hown, hts⟩ (c_Mod_isIn l g s.heap p0 0 100000) (va_cwS 3 hts (kS_good kw_663 kw_661 kw_662 kw_5) rfl rfl rfl (by decide +kernel) ⟨Nat.le_of_ble_eq_true rfl, Nat.le_of_ble_eq_true rfl⟩) (k_pre (KK_st g) hKK) rfl rfl hl.1 rfl (lv_room (Nat.le_of_ble_eq_true rfl)) d_Mod_rule_4 ⟨Nat.zero_le _, Nat.zero_le _⟩) ?_
  refine lv_if_eq (tgt := 46) hx hb d_Mod_rule_7 (by decide) (fun c_1 => ?_) (fun c_1 => ?_)
  · exact absurd c_1 hR.1
  refine lv_iload_n hx hb d_Mod_rule_10 rfl (lv_at hl 2 rfl) ?_
  refine lv_ldc (own := "BoxGlueModel") (index := 95) (v := (-1000000)) hx hb hown (hts _ kw_689) d_Mod_rule_11 ?_
  refine lv_icmp_eq (tgt := 26) hx hb d_Mod_rule_13 (by decide) (fun c_2 => ?_) (fun c_2 => ?_)
  · skip
    refine lv_iload_n hx hb d_Mod_rule_26 rfl (lv_at hl 3 rfl) ?_
    refine lv_ldc (own := "BoxGlueModel") (index := 95) (v := (-1000000)) hx hb hown (hts _ kw_689) d_Mod_rule_27 ?_
    refine lv_icmp_eq (tgt := 42) hx hb d_Mod_rule_29 (by decide) (fun c_3 => ?_) (fun c_3 => ?_)
    · skip
      refine lv_iconst (v := 1) hx hb d_Mod_rule_42 (by decide) ?_
      refine lv_goto (tgt := 47) hx hb d_Mod_rule_43 (by decide) ?_
      refine lv_istore (lv' := [(4, .int 1), (0, .ref m0), (1, .int p0), (2, .int p1), (3, .int p2)]) hx hb d_Mod_rule_47 hl (by decide) rfl (fun ls hl => ?_)
      refine lv_iload hx hb d_Mod_rule_49 (lv_at hl 0 rfl) ?_
      refine lv_if_ne (tgt := 56) hx hb d_Mod_rule_51 (by decide) (fun c_4 => ?_) (fun c_4 => ?_)
      rotate_left
      · exact absurd c_4 (by decide)
      refine lv_aload_n hx hb d_Mod_rule_56 rfl (lv_at hl 1 rfl) ?_
      refine va_get (D := g.1) (ci := 10) (v := .int (nI sz)) (C := "BoxGlueModel") (T := kT_Mod) (N := 24) hx hb hts ki_Mod hown hK (k_one hM.1) 0 rfl rfl 12 (by decide) (hts _ kw_593) (fun _ h9 => h9) rfl d_Mod_rule_57 ?_
      refine lv_bipush (v := 40) hx hb d_Mod_rule_60 (by decide) ?_
      refine lv_icmp_ne (tgt := 68) hx hb d_Mod_rule_62 (by decide) (fun c_5 => ?_) (fun c_5 => ?_)
      · exact absurd c_5 (fun q => q (by rw [hf]; rfl))
      refine lv_bipush (v := (-2)) hx hb d_Mod_rule_65 (by decide) ?_
      exact W.iret (v := (-2)) hx hb hr (fun t ht hW => ⟨_, rfl, rfl, ht⟩) (fun _ h => by cases h) d_Mod_rule_67
    · skip
      refine lv_iload_n hx hb d_Mod_rule_32 rfl (lv_at hl 3 rfl) ?_
      refine lv_iconst (v := 0) hx hb d_Mod_rule_33 (by decide) ?_
      refine lv_ldc (own := "BoxGlueModel") (index := 78) (v := 100000) hx hb hown (hts _ kw_660) d_Mod_rule_34 ?_
      refine k_pure (r := .int (f_Mod_isIn p2 0 100000)) (W.runS (As := [.int p2, .int 0, .int 100000]) (rest := []) ⟨hx, hb, hml, hown, hts⟩ (c_Mod_isIn l g s.heap p2 0 100000) (va_cwS 3 hts (kS_good kw_663 kw_661 kw_662 kw_5) rfl rfl rfl (by decide +kernel) ⟨Nat.le_of_ble_eq_true rfl, Nat.le_of_ble_eq_true rfl⟩) (k_pre (KK_st g) hKK) rfl rfl hl.1 rfl (lv_room (Nat.le_of_ble_eq_true rfl)) d_Mod_rule_36 ⟨Nat.zero_le _, Nat.zero_le _⟩) ?_
      refine lv_if_eq (tgt := 46) hx hb d_Mod_rule_39 (by decide) (fun c_6 => ?_) (fun c_6 => ?_)
      · exact absurd c_6 (hR.2.2.resolve_left c_3)
      refine lv_iconst (v := 1) hx hb d_Mod_rule_42 (by decide) ?_
      refine lv_goto (tgt := 47) hx hb d_Mod_rule_43 (by decide) ?_
      refine lv_istore (lv' := [(4, .int 1), (0, .ref m0), (1, .int p0), (2, .int p1), (3, .int p2)]) hx hb d_Mod_rule_47 hl (by decide) rfl (fun ls hl => ?_)
      refine lv_iload hx hb d_Mod_rule_49 (lv_at hl 0 rfl) ?_
      refine lv_if_ne (tgt := 56) hx hb d_Mod_rule_51 (by decide) (fun c_7 => ?_) (fun c_7 => ?_)
      rotate_left
      · exact absurd c_7 (by decide)
      refine lv_aload_n hx hb d_Mod_rule_56 rfl (lv_at hl 1 rfl) ?_
      refine va_get (D := g.1) (ci := 10) (v := .int (nI sz)) (C := "BoxGlueModel") (T := kT_Mod) (N := 24) hx hb hts ki_Mod hown hK (k_one hM.1) 0 rfl rfl 12 (by decide) (hts _ kw_593) (fun _ h9 => h9) rfl d_Mod_rule_57 ?_
      refine lv_bipush (v := 40) hx hb d_Mod_rule_60 (by decide) ?_
      refine lv_icmp_ne (tgt := 68) hx hb d_Mod_rule_62 (by decide) (fun c_8 => ?_) (fun c_8 => ?_)
      · exact absurd c_8 (fun q => q (by rw [hf]; rfl))
      refine lv_bipush (v := (-2)) hx hb d_Mod_rule_65 (by decide) ?_
      exact W.iret (v := (-2)) hx hb hr (fun t ht hW => ⟨_, rfl, rfl, ht⟩) (fun _ h => by cases h) d_Mod_rule_67
  · skip
    refine lv_iload_n hx hb d_Mod_rule_16 rfl (lv_at hl 2 rfl) ?_
    refine lv_iconst (v := 0) hx hb d_Mod_rule_17 (by decide) ?_
    refine lv_ldc (own := "BoxGlueModel") (index := 78) (v := 100000) hx hb hown (hts _ kw_660) d_Mod_rule_18 ?_
    refine k_pure (r := .int (f_Mod_isIn p1 0 100000)) (W.runS (As := [.int p1, .int 0, .int 100000]) (rest := []) ⟨hx, hb, hml, hown, hts⟩ (c_Mod_isIn l g s.heap p1 0 100000) (va_cwS 3 hts (kS_good kw_663 kw_661 kw_662 kw_5) rfl rfl rfl (by decide +kernel) ⟨Nat.le_of_ble_eq_true rfl, Nat.le_of_ble_eq_true rfl⟩) (k_pre (KK_st g) hKK) rfl rfl hl.1 rfl (lv_room (Nat.le_of_ble_eq_true rfl)) d_Mod_rule_20 ⟨Nat.zero_le _, Nat.zero_le _⟩) ?_
    refine lv_if_eq (tgt := 46) hx hb d_Mod_rule_23 (by decide) (fun c_9 => ?_) (fun c_9 => ?_)
    · exact absurd c_9 (hR.2.1.resolve_left c_2)
    refine lv_iload_n hx hb d_Mod_rule_26 rfl (lv_at hl 3 rfl) ?_
    refine lv_ldc (own := "BoxGlueModel") (index := 95) (v := (-1000000)) hx hb hown (hts _ kw_689) d_Mod_rule_27 ?_
    refine lv_icmp_eq (tgt := 42) hx hb d_Mod_rule_29 (by decide) (fun c_10 => ?_) (fun c_10 => ?_)
    · skip
      refine lv_iconst (v := 1) hx hb d_Mod_rule_42 (by decide) ?_
      refine lv_goto (tgt := 47) hx hb d_Mod_rule_43 (by decide) ?_
      refine lv_istore (lv' := [(4, .int 1), (0, .ref m0), (1, .int p0), (2, .int p1), (3, .int p2)]) hx hb d_Mod_rule_47 hl (by decide) rfl (fun ls hl => ?_)
      refine lv_iload hx hb d_Mod_rule_49 (lv_at hl 0 rfl) ?_
      refine lv_if_ne (tgt := 56) hx hb d_Mod_rule_51 (by decide) (fun c_11 => ?_) (fun c_11 => ?_)
      rotate_left
      · exact absurd c_11 (by decide)
      refine lv_aload_n hx hb d_Mod_rule_56 rfl (lv_at hl 1 rfl) ?_
      refine va_get (D := g.1) (ci := 10) (v := .int (nI sz)) (C := "BoxGlueModel") (T := kT_Mod) (N := 24) hx hb hts ki_Mod hown hK (k_one hM.1) 0 rfl rfl 12 (by decide) (hts _ kw_593) (fun _ h9 => h9) rfl d_Mod_rule_57 ?_
      refine lv_bipush (v := 40) hx hb d_Mod_rule_60 (by decide) ?_
      refine lv_icmp_ne (tgt := 68) hx hb d_Mod_rule_62 (by decide) (fun c_12 => ?_) (fun c_12 => ?_)
      · exact absurd c_12 (fun q => q (by rw [hf]; rfl))
      refine lv_bipush (v := (-2)) hx hb d_Mod_rule_65 (by decide) ?_
      exact W.iret (v := (-2)) hx hb hr (fun t ht hW => ⟨_, rfl, rfl, ht⟩) (fun _ h => by cases h) d_Mod_rule_67
    · skip
      refine lv_iload_n hx hb d_Mod_rule_32 rfl (lv_at hl 3 rfl) ?_
      refine lv_iconst (v := 0) hx hb d_Mod_rule_33 (by decide) ?_
      refine lv_ldc (own := "BoxGlueModel") (index := 78) (v := 100000) hx hb hown (hts _ kw_660) d_Mod_rule_34 ?_
      refine k_pure (r := .int (f_Mod_isIn p2 0 100000)) (W.runS (As := [.int p2, .int 0, .int 100000]) (rest := []) ⟨hx, hb, hml, hown, hts⟩ (c_Mod_isIn l g s.heap p2 0 100000) (va_cwS 3 hts (kS_good kw_663 kw_661 kw_662 kw_5) rfl rfl rfl (by decide +kernel) ⟨Nat.le_of_ble_eq_true rfl, Nat.le_of_ble_eq_true rfl⟩) (k_pre (KK_st g) hKK) rfl rfl hl.1 rfl (lv_room (Nat.le_of_ble_eq_true rfl)) d_Mod_rule_36 ⟨Nat.zero_le _, Nat.zero_le _⟩) ?_
      refine lv_if_eq (tgt := 46) hx hb d_Mod_rule_39 (by decide) (fun c_13 => ?_) (fun c_13 => ?_)
      · exact absurd c_13 (hR.2.2.resolve_left c_10)
      refine lv_iconst (v := 1) hx hb d_Mod_rule_42 (by decide) ?_
      refine lv_goto (tgt := 47) hx hb d_Mod_rule_43 (by decide) ?_
      refine lv_istore (lv' := [(4, .int 1), (0, .ref m0), (1, .int p0), (2, .int p1), (3, .int p2)]) hx hb d_Mod_rule_47 hl (by decide) rfl (fun ls hl => ?_)
      refine lv_iload hx hb d_Mod_rule_49 (lv_at hl 0 rfl) ?_
      refine lv_if_ne (tgt := 56) hx hb d_Mod_rule_51 (by decide) (fun c_14 => ?_) (fun c_14 => ?_)
      rotate_left
      · exact absurd c_14 (by decide)
      refine lv_aload_n hx hb d_Mod_rule_56 rfl (lv_at hl 1 rfl) ?_
      refine va_get (D := g.1) (ci := 10) (v := .int (nI sz)) (C := "BoxGlueModel") (T := kT_Mod) (N := 24) hx hb hts ki_Mod hown hK (k_one hM.1) 0 rfl rfl 12 (by decide) (hts _ kw_593) (fun _ h9 => h9) rfl d_Mod_rule_57 ?_
      refine lv_bipush (v := 40) hx hb d_Mod_rule_60 (by decide) ?_
      refine lv_icmp_ne (tgt := 68) hx hb d_Mod_rule_62 (by decide) (fun c_15 => ?_) (fun c_15 => ?_)
      · exact absurd c_15 (fun q => q (by rw [hf]; rfl))
      refine lv_bipush (v := (-2)) hx hb d_Mod_rule_65 (by decide) ?_
      exact W.iret (v := (-2)) hx hb hr (fun t ht hW => ⟨_, rfl, rfl, ht⟩) (fun _ h => by cases h) d_Mod_rule_67
def mo_rule (F : Nat → Nat → Int32) (sz : Nat) (p0 p1 p2 : Int32) : Nat → Nat → Int32 := mF (mF (mo_more F sz 4 p0) 2 sz p1) 3 sz p2
set_option maxHeartbeats 4000000 in
set_option maxRecDepth 100000 in
theorem c_Mod_rule_ok (l : Launch) (g : KGt) (H0 : Heap) (m0 : Nat) (ad : Nat → Nat) (sz us bx : Nat) (F : Nat → Nat → Int32) (G : Nat → Nat → Int64) (hM : kMod g m0 ad sz us bx F G H0) (p0 : Int32) (p1 : Int32) (p2 : Int32) (hR : (¬ f_Mod_isIn p0 0 100000 = 0 ∧ (p1 = (-1000000) ∨ ¬ f_Mod_isIn p1 0 100000 = 0) ∧ (p2 = (-1000000) ∨ ¬ f_Mod_isIn p2 0 100000 = 0))) (hf : sz < 40) : Met l y_Mod_rule (kW y_Mod_rule b_Mod_rule 5 (.some .int)) ({ frames := 1, cells := 0, slots := 0, locals := 22 }) (kPc [.ref m0, .int p0, .int p1, .int p2] (KK g) H0) (kQc (fun v H1 => v = some (.int (nI (sz + 1))) ∧ kE (mA m0 ad) H0 H1 ∧ kMod g m0 ad (sz + 1) us bx (mo_rule F sz p0 p1 p2) G H1)) 0 0 (mA m0 ad) := by
  refine Met.ofW (cc := b_Mod_rule) (maxL := 5) (ret := (.some .int)) (by decide) rfl ?_
  intro p e s m args below meth c s₁ B hml hv
  obtain ⟨rfl, hH, hKK⟩ := hv
  have hx := B.exec
  have hb := B.bytes
  have hr := B.returns
  have hts := kW_ts (atoms_spec (ws := kW y_Mod_rule b_Mod_rule 5 (.some .int)) B.pre)
  have hown : s.vm.findClass "BoxGlueModel" = some m.cls := findClass_of_methodNamed B.named
  have hlocks := B.notSynchronized
  have hK := hKK.1
  subst hH
  have hl := lv_entry ([.ref m0, .int p0, .int p1, .int p2]) (n := 5) (Nat.le_of_ble_eq_true rfl)
  rw [lg_entry_eq]
  generalize (lg_sl ([.ref m0, .int p0, .int p1, .int p2]) ++ List.replicate (5 - (lg_sl ([.ref m0, .int p0, .int p1, .int p2])).length) Slot.unset).toArray = ls at hl ⊢
  have hl : lv_has ls 5 [(0, .ref m0), (1, .int p0), (2, .int p1), (3, .int p2)] := hl
  refine lv_iload_n hx hb d_Mod_rule_0 rfl (lv_at hl 1 rfl) ?_
  refine lv_iconst (v := 0) hx hb d_Mod_rule_1 (by decide) ?_
  refine lv_ldc (own := "BoxGlueModel") (index := 78) (v := 100000) hx hb hown (hts _ kw_660) d_Mod_rule_2 ?_
  refine k_pure (r := .int (f_Mod_isIn p0 0 100000)) (W.runS (As := [.int p0, .int 0, .int 100000]) (rest := []) ⟨hx, hb, hml, hown, hts⟩ (c_Mod_isIn l g s.heap p0 0 100000) (va_cwS 3 hts (kS_good kw_663 kw_661 kw_662 kw_5) rfl rfl rfl (by decide +kernel) ⟨Nat.le_of_ble_eq_true rfl, Nat.le_of_ble_eq_true rfl⟩) (k_pre (KK_st g) hKK) rfl rfl hl.1 rfl (lv_room (Nat.le_of_ble_eq_true rfl)) d_Mod_rule_4 ⟨Nat.zero_le _, Nat.zero_le _⟩) ?_
  refine lv_if_eq (tgt := 46) hx hb d_Mod_rule_7 (by decide) (fun c_1 => ?_) (fun c_1 => ?_)
  · exact absurd c_1 hR.1
  refine lv_iload_n hx hb d_Mod_rule_10 rfl (lv_at hl 2 rfl) ?_
  refine lv_ldc (own := "BoxGlueModel") (index := 95) (v := (-1000000)) hx hb hown (hts _ kw_689) d_Mod_rule_11 ?_
  refine lv_icmp_eq (tgt := 26) hx hb d_Mod_rule_13 (by decide) (fun c_2 => ?_) (fun c_2 => ?_)
  · skip
    refine lv_iload_n hx hb d_Mod_rule_26 rfl (lv_at hl 3 rfl) ?_
    refine lv_ldc (own := "BoxGlueModel") (index := 95) (v := (-1000000)) hx hb hown (hts _ kw_689) d_Mod_rule_27 ?_
    refine lv_icmp_eq (tgt := 42) hx hb d_Mod_rule_29 (by decide) (fun c_3 => ?_) (fun c_3 => ?_)
    · skip
      refine lv_iconst (v := 1) hx hb d_Mod_rule_42 (by decide) ?_
      refine lv_goto (tgt := 47) hx hb d_Mod_rule_43 (by decide) ?_
      refine lv_istore (lv' := [(4, .int 1), (0, .ref m0), (1, .int p0), (2, .int p1), (3, .int p2)]) hx hb d_Mod_rule_47 hl (by decide) rfl (fun ls hl => ?_)
      refine lv_iload hx hb d_Mod_rule_49 (lv_at hl 0 rfl) ?_
      refine lv_if_ne (tgt := 56) hx hb d_Mod_rule_51 (by decide) (fun c_4 => ?_) (fun c_4 => ?_)
      rotate_left
      · exact absurd c_4 (by decide)
      refine lv_aload_n hx hb d_Mod_rule_56 rfl (lv_at hl 1 rfl) ?_
      refine va_get (D := g.1) (ci := 10) (v := .int (nI sz)) (C := "BoxGlueModel") (T := kT_Mod) (N := 24) hx hb hts ki_Mod hown hK (k_one hM.1) 0 rfl rfl 12 (by decide) (hts _ kw_593) (fun _ h9 => h9) rfl d_Mod_rule_57 ?_
      refine lv_bipush (v := 40) hx hb d_Mod_rule_60 (by decide) ?_
      refine lv_icmp_ne (tgt := 68) hx hb d_Mod_rule_62 (by decide) (fun c_5 => ?_) (fun c_5 => ?_)
      rotate_left
      · exact absurd c_5 (fun z => absurd ((nI_eq (by omega) (by decide)).mp (z.trans (show (40 : Int32) = nI 40 from rfl))) (by omega))
      refine lv_aload_n hx hb d_Mod_rule_68 rfl (lv_at hl 1 rfl) ?_
      refine lv_iconst (v := 4) hx hb d_Mod_rule_69 (by decide) ?_
      refine lv_iload_n hx hb d_Mod_rule_70 rfl (lv_at hl 2 rfl) ?_
      refine k_call (A := (mA m0 ad)) (W.runV (As := [.int 4, .int p0]) (rest := []) ⟨hx, hb, hml, hown, hts⟩ (c_Mod_more l g s.heap m0 ad sz us bx F G hM 4 p0 (by omega)) (cwV 2 hts (kV_good kw_676 kw_673 kw_675 ks_Mod_more kw_5) rfl rfl rfl (by decide +kernel) ⟨Nat.le_of_ble_eq_true rfl, Nat.le_of_ble_eq_true rfl⟩) (k_preV (KK_st g) hKK (va_recv hK (k_one hM.1) (ci := 10) (q0 := 0) rfl rfl)) rfl rfl hl.1 rfl (lv_room (Nat.le_of_ble_eq_true rfl)) d_Mod_rule_71 ⟨Nat.le_of_ble_eq_true rfl, Nat.le_of_ble_eq_true rfl⟩) (fun _ h => by cases h) (fun q h => h) (fun v H locs hv hL => ?_)
      obtain ⟨rfl, hE1, hM⟩ := hv
      have hE : kE (mA m0 ad) s.heap H := hE1
      refine lv_pop hx hb d_Mod_rule_74 rfl ?_
      refine lv_aload_n hx hb d_Mod_rule_75 rfl (lv_at hl 1 rfl) ?_
      refine va_get (D := g.1) (ci := 10) (v := .ref (ad 2)) (C := "BoxGlueModel") (T := kT_Mod) (N := 24) hx hb hts ki_Mod hown hK (k_one hM.1) 0 rfl rfl 2 (by decide) (hts _ kw_583) (fun _ h9 => h9) rfl d_Mod_rule_76 ?_
      refine lv_aload_n hx hb d_Mod_rule_79 rfl (lv_at hl 1 rfl) ?_
      refine va_get (D := g.1) (ci := 10) (v := .int (nI (sz + 1))) (C := "BoxGlueModel") (T := kT_Mod) (N := 24) hx hb hts ki_Mod hown hK (k_one hM.1) 0 rfl rfl 12 (by decide) (hts _ kw_593) (fun _ h9 => h9) rfl d_Mod_rule_80 ?_
      refine lv_iconst (v := 1) hx hb d_Mod_rule_83 (by decide) ?_
      refine lv_isub hx hb d_Mod_rule_84 ?_
      rw [nI_pred]
      refine lv_iload_n hx hb d_Mod_rule_85 rfl (lv_at hl 3 rfl) ?_
      refine m_iast hx hb hK hM hL 2 sz (Or.inl (by decide)) (show sz < 340 by omega) d_Mod_rule_86 (fun H locs hM hE1 hL => ?_)
      have hE : kE (mA m0 ad) s.heap H := hE.tr hE1 (fun _ _ h => h)
      refine lv_aload_n hx hb d_Mod_rule_87 rfl (lv_at hl 1 rfl) ?_
      refine va_get (D := g.1) (ci := 10) (v := .ref (ad 3)) (C := "BoxGlueModel") (T := kT_Mod) (N := 24) hx hb hts ki_Mod hown hK (k_one hM.1) 0 rfl rfl 3 (by decide) (hts _ kw_584) (fun _ h9 => h9) rfl d_Mod_rule_88 ?_
      refine lv_aload_n hx hb d_Mod_rule_91 rfl (lv_at hl 1 rfl) ?_
      refine va_get (D := g.1) (ci := 10) (v := .int (nI (sz + 1))) (C := "BoxGlueModel") (T := kT_Mod) (N := 24) hx hb hts ki_Mod hown hK (k_one hM.1) 0 rfl rfl 12 (by decide) (hts _ kw_593) (fun _ h9 => h9) rfl d_Mod_rule_92 ?_
      refine lv_iconst (v := 1) hx hb d_Mod_rule_95 (by decide) ?_
      refine lv_isub hx hb d_Mod_rule_96 ?_
      rw [nI_pred]
      refine lv_iload_n hx hb d_Mod_rule_97 rfl (lv_at hl 4 rfl) ?_
      refine m_iast hx hb hK hM hL 3 sz (Or.inl (by decide)) (show sz < 340 by omega) d_Mod_rule_98 (fun H locs hM hE1 hL => ?_)
      have hE : kE (mA m0 ad) s.heap H := hE.tr hE1 (fun _ _ h => h)
      refine lv_aload_n hx hb d_Mod_rule_99 rfl (lv_at hl 1 rfl) ?_
      refine va_get (D := g.1) (ci := 10) (v := .int (nI (sz + 1))) (C := "BoxGlueModel") (T := kT_Mod) (N := 24) hx hb hts ki_Mod hown hK (k_one hM.1) 0 rfl rfl 12 (by decide) (hts _ kw_593) (fun _ h9 => h9) rfl d_Mod_rule_100 ?_
      exact W.iret (v := (nI (sz + 1))) hx hb hr (fun t ht hW => ⟨_, rfl, rfl, by rw [ht]; exact hE, by rw [ht]; exact hM⟩) hL d_Mod_rule_103
    · skip
      refine lv_iload_n hx hb d_Mod_rule_32 rfl (lv_at hl 3 rfl) ?_
      refine lv_iconst (v := 0) hx hb d_Mod_rule_33 (by decide) ?_
      refine lv_ldc (own := "BoxGlueModel") (index := 78) (v := 100000) hx hb hown (hts _ kw_660) d_Mod_rule_34 ?_
      refine k_pure (r := .int (f_Mod_isIn p2 0 100000)) (W.runS (As := [.int p2, .int 0, .int 100000]) (rest := []) ⟨hx, hb, hml, hown, hts⟩ (c_Mod_isIn l g s.heap p2 0 100000) (va_cwS 3 hts (kS_good kw_663 kw_661 kw_662 kw_5) rfl rfl rfl (by decide +kernel) ⟨Nat.le_of_ble_eq_true rfl, Nat.le_of_ble_eq_true rfl⟩) (k_pre (KK_st g) hKK) rfl rfl hl.1 rfl (lv_room (Nat.le_of_ble_eq_true rfl)) d_Mod_rule_36 ⟨Nat.zero_le _, Nat.zero_le _⟩) ?_
      refine lv_if_eq (tgt := 46) hx hb d_Mod_rule_39 (by decide) (fun c_6 => ?_) (fun c_6 => ?_)
      · exact absurd c_6 (hR.2.2.resolve_left c_3)
      refine lv_iconst (v := 1) hx hb d_Mod_rule_42 (by decide) ?_
      refine lv_goto (tgt := 47) hx hb d_Mod_rule_43 (by decide) ?_
      refine lv_istore (lv' := [(4, .int 1), (0, .ref m0), (1, .int p0), (2, .int p1), (3, .int p2)]) hx hb d_Mod_rule_47 hl (by decide) rfl (fun ls hl => ?_)
      refine lv_iload hx hb d_Mod_rule_49 (lv_at hl 0 rfl) ?_
      refine lv_if_ne (tgt := 56) hx hb d_Mod_rule_51 (by decide) (fun c_7 => ?_) (fun c_7 => ?_)
      rotate_left
      · exact absurd c_7 (by decide)
      refine lv_aload_n hx hb d_Mod_rule_56 rfl (lv_at hl 1 rfl) ?_
      refine va_get (D := g.1) (ci := 10) (v := .int (nI sz)) (C := "BoxGlueModel") (T := kT_Mod) (N := 24) hx hb hts ki_Mod hown hK (k_one hM.1) 0 rfl rfl 12 (by decide) (hts _ kw_593) (fun _ h9 => h9) rfl d_Mod_rule_57 ?_
      refine lv_bipush (v := 40) hx hb d_Mod_rule_60 (by decide) ?_
      refine lv_icmp_ne (tgt := 68) hx hb d_Mod_rule_62 (by decide) (fun c_8 => ?_) (fun c_8 => ?_)
      rotate_left
      · exact absurd c_8 (fun z => absurd ((nI_eq (by omega) (by decide)).mp (z.trans (show (40 : Int32) = nI 40 from rfl))) (by omega))
      refine lv_aload_n hx hb d_Mod_rule_68 rfl (lv_at hl 1 rfl) ?_
      refine lv_iconst (v := 4) hx hb d_Mod_rule_69 (by decide) ?_
      refine lv_iload_n hx hb d_Mod_rule_70 rfl (lv_at hl 2 rfl) ?_
      refine k_call (A := (mA m0 ad)) (W.runV (As := [.int 4, .int p0]) (rest := []) ⟨hx, hb, hml, hown, hts⟩ (c_Mod_more l g s.heap m0 ad sz us bx F G hM 4 p0 (by omega)) (cwV 2 hts (kV_good kw_676 kw_673 kw_675 ks_Mod_more kw_5) rfl rfl rfl (by decide +kernel) ⟨Nat.le_of_ble_eq_true rfl, Nat.le_of_ble_eq_true rfl⟩) (k_preV (KK_st g) hKK (va_recv hK (k_one hM.1) (ci := 10) (q0 := 0) rfl rfl)) rfl rfl hl.1 rfl (lv_room (Nat.le_of_ble_eq_true rfl)) d_Mod_rule_71 ⟨Nat.le_of_ble_eq_true rfl, Nat.le_of_ble_eq_true rfl⟩) (fun _ h => by cases h) (fun q h => h) (fun v H locs hv hL => ?_)
      obtain ⟨rfl, hE1, hM⟩ := hv
      have hE : kE (mA m0 ad) s.heap H := hE1
      refine lv_pop hx hb d_Mod_rule_74 rfl ?_
      refine lv_aload_n hx hb d_Mod_rule_75 rfl (lv_at hl 1 rfl) ?_
      refine va_get (D := g.1) (ci := 10) (v := .ref (ad 2)) (C := "BoxGlueModel") (T := kT_Mod) (N := 24) hx hb hts ki_Mod hown hK (k_one hM.1) 0 rfl rfl 2 (by decide) (hts _ kw_583) (fun _ h9 => h9) rfl d_Mod_rule_76 ?_
      refine lv_aload_n hx hb d_Mod_rule_79 rfl (lv_at hl 1 rfl) ?_
      refine va_get (D := g.1) (ci := 10) (v := .int (nI (sz + 1))) (C := "BoxGlueModel") (T := kT_Mod) (N := 24) hx hb hts ki_Mod hown hK (k_one hM.1) 0 rfl rfl 12 (by decide) (hts _ kw_593) (fun _ h9 => h9) rfl d_Mod_rule_80 ?_
      refine lv_iconst (v := 1) hx hb d_Mod_rule_83 (by decide) ?_
      refine lv_isub hx hb d_Mod_rule_84 ?_
      rw [nI_pred]
      refine lv_iload_n hx hb d_Mod_rule_85 rfl (lv_at hl 3 rfl) ?_
      refine m_iast hx hb hK hM hL 2 sz (Or.inl (by decide)) (show sz < 340 by omega) d_Mod_rule_86 (fun H locs hM hE1 hL => ?_)
      have hE : kE (mA m0 ad) s.heap H := hE.tr hE1 (fun _ _ h => h)
      refine lv_aload_n hx hb d_Mod_rule_87 rfl (lv_at hl 1 rfl) ?_
      refine va_get (D := g.1) (ci := 10) (v := .ref (ad 3)) (C := "BoxGlueModel") (T := kT_Mod) (N := 24) hx hb hts ki_Mod hown hK (k_one hM.1) 0 rfl rfl 3 (by decide) (hts _ kw_584) (fun _ h9 => h9) rfl d_Mod_rule_88 ?_
      refine lv_aload_n hx hb d_Mod_rule_91 rfl (lv_at hl 1 rfl) ?_
      refine va_get (D := g.1) (ci := 10) (v := .int (nI (sz + 1))) (C := "BoxGlueModel") (T := kT_Mod) (N := 24) hx hb hts ki_Mod hown hK (k_one hM.1) 0 rfl rfl 12 (by decide) (hts _ kw_593) (fun _ h9 => h9) rfl d_Mod_rule_92 ?_
      refine lv_iconst (v := 1) hx hb d_Mod_rule_95 (by decide) ?_
      refine lv_isub hx hb d_Mod_rule_96 ?_
      rw [nI_pred]
      refine lv_iload_n hx hb d_Mod_rule_97 rfl (lv_at hl 4 rfl) ?_
      refine m_iast hx hb hK hM hL 3 sz (Or.inl (by decide)) (show sz < 340 by omega) d_Mod_rule_98 (fun H locs hM hE1 hL => ?_)
      have hE : kE (mA m0 ad) s.heap H := hE.tr hE1 (fun _ _ h => h)
      refine lv_aload_n hx hb d_Mod_rule_99 rfl (lv_at hl 1 rfl) ?_
      refine va_get (D := g.1) (ci := 10) (v := .int (nI (sz + 1))) (C := "BoxGlueModel") (T := kT_Mod) (N := 24) hx hb hts ki_Mod hown hK (k_one hM.1) 0 rfl rfl 12 (by decide) (hts _ kw_593) (fun _ h9 => h9) rfl d_Mod_rule_100 ?_
      exact W.iret (v := (nI (sz + 1))) hx hb hr (fun t ht hW => ⟨_, rfl, rfl, by rw [ht]; exact hE, by rw [ht]; exact hM⟩) hL d_Mod_rule_103
  · skip
    refine lv_iload_n hx hb d_Mod_rule_16 rfl (lv_at hl 2 rfl) ?_
    refine lv_iconst (v := 0) hx hb d_Mod_rule_17 (by decide) ?_
    refine lv_ldc (own := "BoxGlueModel") (index := 78) (v := 100000) hx hb hown (hts _ kw_660) d_Mod_rule_18 ?_
    refine k_pure (r := .int (f_Mod_isIn p1 0 100000)) (W.runS (As := [.int p1, .int 0, .int 100000]) (rest := []) ⟨hx, hb, hml, hown, hts⟩ (c_Mod_isIn l g s.heap p1 0 100000) (va_cwS 3 hts (kS_good kw_663 kw_661 kw_662 kw_5) rfl rfl rfl (by decide +kernel) ⟨Nat.le_of_ble_eq_true rfl, Nat.le_of_ble_eq_true rfl⟩) (k_pre (KK_st g) hKK) rfl rfl hl.1 rfl (lv_room (Nat.le_of_ble_eq_true rfl)) d_Mod_rule_20 ⟨Nat.zero_le _, Nat.zero_le _⟩) ?_
    refine lv_if_eq (tgt := 46) hx hb d_Mod_rule_23 (by decide) (fun c_9 => ?_) (fun c_9 => ?_)
    · exact absurd c_9 (hR.2.1.resolve_left c_2)
    refine lv_iload_n hx hb d_Mod_rule_26 rfl (lv_at hl 3 rfl) ?_
    refine lv_ldc (own := "BoxGlueModel") (index := 95) (v := (-1000000)) hx hb hown (hts _ kw_689) d_Mod_rule_27 ?_
    refine lv_icmp_eq (tgt := 42) hx hb d_Mod_rule_29 (by decide) (fun c_10 => ?_) (fun c_10 => ?_)
    · skip
      refine lv_iconst (v := 1) hx hb d_Mod_rule_42 (by decide) ?_
      refine lv_goto (tgt := 47) hx hb d_Mod_rule_43 (by decide) ?_
      refine lv_istore (lv' := [(4, .int 1), (0, .ref m0), (1, .int p0), (2, .int p1), (3, .int p2)]) hx hb d_Mod_rule_47 hl (by decide) rfl (fun ls hl => ?_)
      refine lv_iload hx hb d_Mod_rule_49 (lv_at hl 0 rfl) ?_
      refine lv_if_ne (tgt := 56) hx hb d_Mod_rule_51 (by decide) (fun c_11 => ?_) (fun c_11 => ?_)
      rotate_left
      · exact absurd c_11 (by decide)
      refine lv_aload_n hx hb d_Mod_rule_56 rfl (lv_at hl 1 rfl) ?_
      refine va_get (D := g.1) (ci := 10) (v := .int (nI sz)) (C := "BoxGlueModel") (T := kT_Mod) (N := 24) hx hb hts ki_Mod hown hK (k_one hM.1) 0 rfl rfl 12 (by decide) (hts _ kw_593) (fun _ h9 => h9) rfl d_Mod_rule_57 ?_
      refine lv_bipush (v := 40) hx hb d_Mod_rule_60 (by decide) ?_
      refine lv_icmp_ne (tgt := 68) hx hb d_Mod_rule_62 (by decide) (fun c_12 => ?_) (fun c_12 => ?_)
      rotate_left
      · exact absurd c_12 (fun z => absurd ((nI_eq (by omega) (by decide)).mp (z.trans (show (40 : Int32) = nI 40 from rfl))) (by omega))
      refine lv_aload_n hx hb d_Mod_rule_68 rfl (lv_at hl 1 rfl) ?_
      refine lv_iconst (v := 4) hx hb d_Mod_rule_69 (by decide) ?_
      refine lv_iload_n hx hb d_Mod_rule_70 rfl (lv_at hl 2 rfl) ?_
      refine k_call (A := (mA m0 ad)) (W.runV (As := [.int 4, .int p0]) (rest := []) ⟨hx, hb, hml, hown, hts⟩ (c_Mod_more l g s.heap m0 ad sz us bx F G hM 4 p0 (by omega)) (cwV 2 hts (kV_good kw_676 kw_673 kw_675 ks_Mod_more kw_5) rfl rfl rfl (by decide +kernel) ⟨Nat.le_of_ble_eq_true rfl, Nat.le_of_ble_eq_true rfl⟩) (k_preV (KK_st g) hKK (va_recv hK (k_one hM.1) (ci := 10) (q0 := 0) rfl rfl)) rfl rfl hl.1 rfl (lv_room (Nat.le_of_ble_eq_true rfl)) d_Mod_rule_71 ⟨Nat.le_of_ble_eq_true rfl, Nat.le_of_ble_eq_true rfl⟩) (fun _ h => by cases h) (fun q h => h) (fun v H locs hv hL => ?_)
      obtain ⟨rfl, hE1, hM⟩ := hv
      have hE : kE (mA m0 ad) s.heap H := hE1
      refine lv_pop hx hb d_Mod_rule_74 rfl ?_
      refine lv_aload_n hx hb d_Mod_rule_75 rfl (lv_at hl 1 rfl) ?_
      refine va_get (D := g.1) (ci := 10) (v := .ref (ad 2)) (C := "BoxGlueModel") (T := kT_Mod) (N := 24) hx hb hts ki_Mod hown hK (k_one hM.1) 0 rfl rfl 2 (by decide) (hts _ kw_583) (fun _ h9 => h9) rfl d_Mod_rule_76 ?_
      refine lv_aload_n hx hb d_Mod_rule_79 rfl (lv_at hl 1 rfl) ?_
      refine va_get (D := g.1) (ci := 10) (v := .int (nI (sz + 1))) (C := "BoxGlueModel") (T := kT_Mod) (N := 24) hx hb hts ki_Mod hown hK (k_one hM.1) 0 rfl rfl 12 (by decide) (hts _ kw_593) (fun _ h9 => h9) rfl d_Mod_rule_80 ?_
      refine lv_iconst (v := 1) hx hb d_Mod_rule_83 (by decide) ?_
      refine lv_isub hx hb d_Mod_rule_84 ?_
      rw [nI_pred]
      refine lv_iload_n hx hb d_Mod_rule_85 rfl (lv_at hl 3 rfl) ?_
      refine m_iast hx hb hK hM hL 2 sz (Or.inl (by decide)) (show sz < 340 by omega) d_Mod_rule_86 (fun H locs hM hE1 hL => ?_)
      have hE : kE (mA m0 ad) s.heap H := hE.tr hE1 (fun _ _ h => h)
      refine lv_aload_n hx hb d_Mod_rule_87 rfl (lv_at hl 1 rfl) ?_
      refine va_get (D := g.1) (ci := 10) (v := .ref (ad 3)) (C := "BoxGlueModel") (T := kT_Mod) (N := 24) hx hb hts ki_Mod hown hK (k_one hM.1) 0 rfl rfl 3 (by decide) (hts _ kw_584) (fun _ h9 => h9) rfl d_Mod_rule_88 ?_
      refine lv_aload_n hx hb d_Mod_rule_91 rfl (lv_at hl 1 rfl) ?_
      refine va_get (D := g.1) (ci := 10) (v := .int (nI (sz + 1))) (C := "BoxGlueModel") (T := kT_Mod) (N := 24) hx hb hts ki_Mod hown hK (k_one hM.1) 0 rfl rfl 12 (by decide) (hts _ kw_593) (fun _ h9 => h9) rfl d_Mod_rule_92 ?_
      refine lv_iconst (v := 1) hx hb d_Mod_rule_95 (by decide) ?_
      refine lv_isub hx hb d_Mod_rule_96 ?_
      rw [nI_pred]
      refine lv_iload_n hx hb d_Mod_rule_97 rfl (lv_at hl 4 rfl) ?_
      refine m_iast hx hb hK hM hL 3 sz (Or.inl (by decide)) (show sz < 340 by omega) d_Mod_rule_98 (fun H locs hM hE1 hL => ?_)
      have hE : kE (mA m0 ad) s.heap H := hE.tr hE1 (fun _ _ h => h)
      refine lv_aload_n hx hb d_Mod_rule_99 rfl (lv_at hl 1 rfl) ?_
      refine va_get (D := g.1) (ci := 10) (v := .int (nI (sz + 1))) (C := "BoxGlueModel") (T := kT_Mod) (N := 24) hx hb hts ki_Mod hown hK (k_one hM.1) 0 rfl rfl 12 (by decide) (hts _ kw_593) (fun _ h9 => h9) rfl d_Mod_rule_100 ?_
      exact W.iret (v := (nI (sz + 1))) hx hb hr (fun t ht hW => ⟨_, rfl, rfl, by rw [ht]; exact hE, by rw [ht]; exact hM⟩) hL d_Mod_rule_103
    · skip
      refine lv_iload_n hx hb d_Mod_rule_32 rfl (lv_at hl 3 rfl) ?_
      refine lv_iconst (v := 0) hx hb d_Mod_rule_33 (by decide) ?_
      refine lv_ldc (own := "BoxGlueModel") (index := 78) (v := 100000) hx hb hown (hts _ kw_660) d_Mod_rule_34 ?_
      refine k_pure (r := .int (f_Mod_isIn p2 0 100000)) (W.runS (As := [.int p2, .int 0, .int 100000]) (rest := []) ⟨hx, hb, hml, hown, hts⟩ (c_Mod_isIn l g s.heap p2 0 100000) (va_cwS 3 hts (kS_good kw_663 kw_661 kw_662 kw_5) rfl rfl rfl (by decide +kernel) ⟨Nat.le_of_ble_eq_true rfl, Nat.le_of_ble_eq_true rfl⟩) (k_pre (KK_st g) hKK) rfl rfl hl.1 rfl (lv_room (Nat.le_of_ble_eq_true rfl)) d_Mod_rule_36 ⟨Nat.zero_le _, Nat.zero_le _⟩) ?_
      refine lv_if_eq (tgt := 46) hx hb d_Mod_rule_39 (by decide) (fun c_13 => ?_) (fun c_13 => ?_)
      · exact absurd c_13 (hR.2.2.resolve_left c_10)
      refine lv_iconst (v := 1) hx hb d_Mod_rule_42 (by decide) ?_
      refine lv_goto (tgt := 47) hx hb d_Mod_rule_43 (by decide) ?_
      refine lv_istore (lv' := [(4, .int 1), (0, .ref m0), (1, .int p0), (2, .int p1), (3, .int p2)]) hx hb d_Mod_rule_47 hl (by decide) rfl (fun ls hl => ?_)
      refine lv_iload hx hb d_Mod_rule_49 (lv_at hl 0 rfl) ?_
      refine lv_if_ne (tgt := 56) hx hb d_Mod_rule_51 (by decide) (fun c_14 => ?_) (fun c_14 => ?_)
      rotate_left
      · exact absurd c_14 (by decide)
      refine lv_aload_n hx hb d_Mod_rule_56 rfl (lv_at hl 1 rfl) ?_
      refine va_get (D := g.1) (ci := 10) (v := .int (nI sz)) (C := "BoxGlueModel") (T := kT_Mod) (N := 24) hx hb hts ki_Mod hown hK (k_one hM.1) 0 rfl rfl 12 (by decide) (hts _ kw_593) (fun _ h9 => h9) rfl d_Mod_rule_57 ?_
      refine lv_bipush (v := 40) hx hb d_Mod_rule_60 (by decide) ?_
      refine lv_icmp_ne (tgt := 68) hx hb d_Mod_rule_62 (by decide) (fun c_15 => ?_) (fun c_15 => ?_)
      rotate_left
      · exact absurd c_15 (fun z => absurd ((nI_eq (by omega) (by decide)).mp (z.trans (show (40 : Int32) = nI 40 from rfl))) (by omega))
      refine lv_aload_n hx hb d_Mod_rule_68 rfl (lv_at hl 1 rfl) ?_
      refine lv_iconst (v := 4) hx hb d_Mod_rule_69 (by decide) ?_
      refine lv_iload_n hx hb d_Mod_rule_70 rfl (lv_at hl 2 rfl) ?_
      refine k_call (A := (mA m0 ad)) (W.runV (As := [.int 4, .int p0]) (rest := []) ⟨hx, hb, hml, hown, hts⟩ (c_Mod_more l g s.heap m0 ad sz us bx F G hM 4 p0 (by omega)) (cwV 2 hts (kV_good kw_676 kw_673 kw_675 ks_Mod_more kw_5) rfl rfl rfl (by decide +kernel) ⟨Nat.le_of_ble_eq_true rfl, Nat.le_of_ble_eq_true rfl⟩) (k_preV (KK_st g) hKK (va_recv hK (k_one hM.1) (ci := 10) (q0 := 0) rfl rfl)) rfl rfl hl.1 rfl (lv_room (Nat.le_of_ble_eq_true rfl)) d_Mod_rule_71 ⟨Nat.le_of_ble_eq_true rfl, Nat.le_of_ble_eq_true rfl⟩) (fun _ h => by cases h) (fun q h => h) (fun v H locs hv hL => ?_)
      obtain ⟨rfl, hE1, hM⟩ := hv
      have hE : kE (mA m0 ad) s.heap H := hE1
      refine lv_pop hx hb d_Mod_rule_74 rfl ?_
      refine lv_aload_n hx hb d_Mod_rule_75 rfl (lv_at hl 1 rfl) ?_
      refine va_get (D := g.1) (ci := 10) (v := .ref (ad 2)) (C := "BoxGlueModel") (T := kT_Mod) (N := 24) hx hb hts ki_Mod hown hK (k_one hM.1) 0 rfl rfl 2 (by decide) (hts _ kw_583) (fun _ h9 => h9) rfl d_Mod_rule_76 ?_
      refine lv_aload_n hx hb d_Mod_rule_79 rfl (lv_at hl 1 rfl) ?_
      refine va_get (D := g.1) (ci := 10) (v := .int (nI (sz + 1))) (C := "BoxGlueModel") (T := kT_Mod) (N := 24) hx hb hts ki_Mod hown hK (k_one hM.1) 0 rfl rfl 12 (by decide) (hts _ kw_593) (fun _ h9 => h9) rfl d_Mod_rule_80 ?_
      refine lv_iconst (v := 1) hx hb d_Mod_rule_83 (by decide) ?_
      refine lv_isub hx hb d_Mod_rule_84 ?_
      rw [nI_pred]
      refine lv_iload_n hx hb d_Mod_rule_85 rfl (lv_at hl 3 rfl) ?_
      refine m_iast hx hb hK hM hL 2 sz (Or.inl (by decide)) (show sz < 340 by omega) d_Mod_rule_86 (fun H locs hM hE1 hL => ?_)
      have hE : kE (mA m0 ad) s.heap H := hE.tr hE1 (fun _ _ h => h)
      refine lv_aload_n hx hb d_Mod_rule_87 rfl (lv_at hl 1 rfl) ?_
      refine va_get (D := g.1) (ci := 10) (v := .ref (ad 3)) (C := "BoxGlueModel") (T := kT_Mod) (N := 24) hx hb hts ki_Mod hown hK (k_one hM.1) 0 rfl rfl 3 (by decide) (hts _ kw_584) (fun _ h9 => h9) rfl d_Mod_rule_88 ?_
      refine lv_aload_n hx hb d_Mod_rule_91 rfl (lv_at hl 1 rfl) ?_
      refine va_get (D := g.1) (ci := 10) (v := .int (nI (sz + 1))) (C := "BoxGlueModel") (T := kT_Mod) (N := 24) hx hb hts ki_Mod hown hK (k_one hM.1) 0 rfl rfl 12 (by decide) (hts _ kw_593) (fun _ h9 => h9) rfl d_Mod_rule_92 ?_
      refine lv_iconst (v := 1) hx hb d_Mod_rule_95 (by decide) ?_
      refine lv_isub hx hb d_Mod_rule_96 ?_
      rw [nI_pred]
      refine lv_iload_n hx hb d_Mod_rule_97 rfl (lv_at hl 4 rfl) ?_
      refine m_iast hx hb hK hM hL 3 sz (Or.inl (by decide)) (show sz < 340 by omega) d_Mod_rule_98 (fun H locs hM hE1 hL => ?_)
      have hE : kE (mA m0 ad) s.heap H := hE.tr hE1 (fun _ _ h => h)
      refine lv_aload_n hx hb d_Mod_rule_99 rfl (lv_at hl 1 rfl) ?_
      refine va_get (D := g.1) (ci := 10) (v := .int (nI (sz + 1))) (C := "BoxGlueModel") (T := kT_Mod) (N := 24) hx hb hts ki_Mod hown hK (k_one hM.1) 0 rfl rfl 12 (by decide) (hts _ kw_593) (fun _ h9 => h9) rfl d_Mod_rule_100 ?_
      exact W.iret (v := (nI (sz + 1))) hx hb hr (fun t ht hW => ⟨_, rfl, rfl, by rw [ht]; exact hE, by rw [ht]; exact hM⟩) hL d_Mod_rule_103
set_option maxHeartbeats 4000000 in
set_option maxRecDepth 100000 in
theorem c_Mod_put_bad1 (l : Launch) (g : KGt) (H0 : Heap) (m0 : Nat) (ad : Nat → Nat) (sz us bx : Nat) (F : Nat → Nat → Int32) (G : Nat → Nat → Int64) (hM : kMod g m0 ad sz us bx F G H0) (p0 : Int32) (p1 : Int32) (h : p0 < 0 ∨ nI bx ≤ p0) : Met l y_Mod_put (kW y_Mod_put b_Mod_put 3 (.some .int)) ({ frames := 1, cells := 0, slots := 0, locals := 21 }) (kPc [.ref m0, .int p0, .int p1] (KK g) H0) (kQc (kPure (.int (-1)) H0)) 0 0 (fun _ => False) := by
  refine Met.ofW (cc := b_Mod_put) (maxL := 3) (ret := (.some .int)) (by decide) rfl ?_
  intro p e s m args below meth c s₁ B hml hv
  obtain ⟨rfl, hH, hKK⟩ := hv
  have hx := B.exec
  have hb := B.bytes
  have hr := B.returns
  have hts := kW_ts (atoms_spec (ws := kW y_Mod_put b_Mod_put 3 (.some .int)) B.pre)
  have hown : s.vm.findClass "BoxGlueModel" = some m.cls := findClass_of_methodNamed B.named
  have hlocks := B.notSynchronized
  have hK := hKK.1
  subst hH
  have hl := lv_entry ([.ref m0, .int p0, .int p1]) (n := 3) (Nat.le_of_ble_eq_true rfl)
  rw [lg_entry_eq]
  generalize (lg_sl ([.ref m0, .int p0, .int p1]) ++ List.replicate (3 - (lg_sl ([.ref m0, .int p0, .int p1])).length) Slot.unset).toArray = ls at hl ⊢
  have hl : lv_has ls 3 [(0, .ref m0), (1, .int p0), (2, .int p1)] := hl
  refine lv_aload_n hx hb d_Mod_put_0 rfl (lv_at hl 0 rfl) ?_
  refine lv_iload_n hx hb d_Mod_put_1 rfl (lv_at hl 1 rfl) ?_
  refine k_pure (r := .int 0) (W.runV (As := [.int p0]) (rest := []) ⟨hx, hb, hml, hown, hts⟩ (c_Mod_isBox_no l g s.heap m0 ad sz us bx F G hM p0 h) (cwV 1 hts (kV_good kw_671 kw_668 kw_670 ks_Mod_isBox kw_5) rfl rfl rfl (by decide +kernel) ⟨Nat.le_of_ble_eq_true rfl, Nat.le_of_ble_eq_true rfl⟩) (k_preV (KK_st g) hKK (va_recv hK (k_one hM.1) (ci := 10) (q0 := 0) rfl rfl)) rfl rfl hl.1 rfl (lv_room (Nat.le_of_ble_eq_true rfl)) d_Mod_put_2 ⟨Nat.zero_le _, Nat.zero_le _⟩) ?_
  refine lv_if_eq (tgt := 19) hx hb d_Mod_put_5 (by decide) (fun c_1 => ?_) (fun c_1 => ?_)
  rotate_left
  · exact absurd c_1 (fun q => q rfl)
  refine lv_iconst (v := (-1)) hx hb d_Mod_put_19 (by decide) ?_
  exact W.iret (v := (-1)) hx hb hr (fun t ht hW => ⟨_, rfl, rfl, ht⟩) (fun _ h => by cases h) d_Mod_put_20
set_option maxHeartbeats 4000000 in
set_option maxRecDepth 100000 in
theorem c_Mod_put_bad2 (l : Launch) (g : KGt) (H0 : Heap) (m0 : Nat) (ad : Nat → Nat) (sz us bx : Nat) (F : Nat → Nat → Int32) (G : Nat → Nat → Int64) (hM : kMod g m0 ad sz us bx F G H0) (p1 : Int32) (k : Nat) (hk : k < bx) (hb60 : bx ≤ 60) (h : f_Mod_isIn p1 (-100000) 100000 = 0) : Met l y_Mod_put (kW y_Mod_put b_Mod_put 3 (.some .int)) ({ frames := 1, cells := 0, slots := 0, locals := 22 }) (kPc [.ref m0, .int (nI k), .int p1] (KK g) H0) (kQc (kPure (.int (-1)) H0)) 0 0 (fun _ => False) := by
  refine Met.ofW (cc := b_Mod_put) (maxL := 3) (ret := (.some .int)) (by decide) rfl ?_
  intro p e s m args below meth c s₁ B hml hv
  obtain ⟨rfl, hH, hKK⟩ := hv
  have hx := B.exec
  have hb := B.bytes
  have hr := B.returns
  have hts := kW_ts (atoms_spec (ws := kW y_Mod_put b_Mod_put 3 (.some .int)) B.pre)
  have hown : s.vm.findClass "BoxGlueModel" = some m.cls := findClass_of_methodNamed B.named
  have hlocks := B.notSynchronized
  have hK := hKK.1
  subst hH
  have hl := lv_entry ([.ref m0, .int (nI k), .int p1]) (n := 3) (Nat.le_of_ble_eq_true rfl)
  rw [lg_entry_eq]
  generalize (lg_sl ([.ref m0, .int (nI k), .int p1]) ++ List.replicate (3 - (lg_sl ([.ref m0, .int (nI k), .int p1])).length) Slot.unset).toArray = ls at hl ⊢
  have hl : lv_has ls 3 [(0, .ref m0), (1, .int (nI k)), (2, .int p1)] := hl
  refine lv_aload_n hx hb d_Mod_put_0 rfl (lv_at hl 0 rfl) ?_
  refine lv_iload_n hx hb d_Mod_put_1 rfl (lv_at hl 1 rfl) ?_
  refine k_pure (r := .int 1) (W.runV (As := [.int (nI k)]) (rest := []) ⟨hx, hb, hml, hown, hts⟩ (c_Mod_isBox_yes l g s.heap m0 ad sz us bx F G hM k hk hb60) (cwV 1 hts (kV_good kw_671 kw_668 kw_670 ks_Mod_isBox kw_5) rfl rfl rfl (by decide +kernel) ⟨Nat.le_of_ble_eq_true rfl, Nat.le_of_ble_eq_true rfl⟩) (k_preV (KK_st g) hKK (va_recv hK (k_one hM.1) (ci := 10) (q0 := 0) rfl rfl)) rfl rfl hl.1 rfl (lv_room (Nat.le_of_ble_eq_true rfl)) d_Mod_put_2 ⟨Nat.zero_le _, Nat.zero_le _⟩) ?_
  refine lv_if_eq (tgt := 19) hx hb d_Mod_put_5 (by decide) (fun c_1 => ?_) (fun c_1 => ?_)
  · exact absurd c_1 (by decide)
  refine lv_iload_n hx hb d_Mod_put_8 rfl (lv_at hl 2 rfl) ?_
  refine lv_ldc (own := "BoxGlueModel") (index := 90) (v := (-100000)) hx hb hown (hts _ kw_672) d_Mod_put_9 ?_
  refine lv_ldc (own := "BoxGlueModel") (index := 78) (v := 100000) hx hb hown (hts _ kw_660) d_Mod_put_11 ?_
  refine k_pure (r := .int (f_Mod_isIn p1 (-100000) 100000)) (W.runS (As := [.int p1, .int (-100000), .int 100000]) (rest := []) ⟨hx, hb, hml, hown, hts⟩ (c_Mod_isIn l g s.heap p1 (-100000) 100000) (va_cwS 3 hts (kS_good kw_663 kw_661 kw_662 kw_5) rfl rfl rfl (by decide +kernel) ⟨Nat.le_of_ble_eq_true rfl, Nat.le_of_ble_eq_true rfl⟩) (k_pre (KK_st g) hKK) rfl rfl hl.1 rfl (lv_room (Nat.le_of_ble_eq_true rfl)) d_Mod_put_13 ⟨Nat.zero_le _, Nat.zero_le _⟩) ?_
  refine lv_if_ne (tgt := 21) hx hb d_Mod_put_16 (by decide) (fun c_2 => ?_) (fun c_2 => ?_)
  · exact absurd c_2 (fun q => q h)
  refine lv_iconst (v := (-1)) hx hb d_Mod_put_19 (by decide) ?_
  exact W.iret (v := (-1)) hx hb hr (fun t ht hW => ⟨_, rfl, rfl, ht⟩) (fun _ h => by cases h) d_Mod_put_20
set_option maxHeartbeats 4000000 in
set_option maxRecDepth 100000 in
theorem c_Mod_put_full (l : Launch) (g : KGt) (H0 : Heap) (m0 : Nat) (ad : Nat → Nat) (sz us bx : Nat) (F : Nat → Nat → Int32) (G : Nat → Nat → Int64) (hM : kMod g m0 ad sz us bx F G H0) (p1 : Int32) (k : Nat) (hk : k < bx) (hb60 : bx ≤ 60) (h0 : ¬ f_Mod_isIn p1 (-100000) 100000 = 0) (hf : sz = 40) : Met l y_Mod_put (kW y_Mod_put b_Mod_put 3 (.some .int)) ({ frames := 1, cells := 0, slots := 0, locals := 22 }) (kPc [.ref m0, .int (nI k), .int p1] (KK g) H0) (kQc (kPure (.int (-2)) H0)) 0 0 (fun _ => False) := by
  refine Met.ofW (cc := b_Mod_put) (maxL := 3) (ret := (.some .int)) (by decide) rfl ?_
  intro p e s m args below meth c s₁ B hml hv
  obtain ⟨rfl, hH, hKK⟩ := hv
  have hx := B.exec
  have hb := B.bytes
  have hr := B.returns
  have hts := kW_ts (atoms_spec (ws := kW y_Mod_put b_Mod_put 3 (.some .int)) B.pre)
  have hown : s.vm.findClass "BoxGlueModel" = some m.cls := findClass_of_methodNamed B.named
  have hlocks := B.notSynchronized
  have hK := hKK.1
  subst hH
  have hl := lv_entry ([.ref m0, .int (nI k), .int p1]) (n := 3) (Nat.le_of_ble_eq_true rfl)
  rw [lg_entry_eq]
  generalize (lg_sl ([.ref m0, .int (nI k), .int p1]) ++ List.replicate (3 - (lg_sl ([.ref m0, .int (nI k), .int p1])).length) Slot.unset).toArray = ls at hl ⊢
  have hl : lv_has ls 3 [(0, .ref m0), (1, .int (nI k)), (2, .int p1)] := hl
  refine lv_aload_n hx hb d_Mod_put_0 rfl (lv_at hl 0 rfl) ?_
  refine lv_iload_n hx hb d_Mod_put_1 rfl (lv_at hl 1 rfl) ?_
  refine k_pure (r := .int 1) (W.runV (As := [.int (nI k)]) (rest := []) ⟨hx, hb, hml, hown, hts⟩ (c_Mod_isBox_yes l g s.heap m0 ad sz us bx F G hM k hk hb60) (cwV 1 hts (kV_good kw_671 kw_668 kw_670 ks_Mod_isBox kw_5) rfl rfl rfl (by decide +kernel) ⟨Nat.le_of_ble_eq_true rfl, Nat.le_of_ble_eq_true rfl⟩) (k_preV (KK_st g) hKK (va_recv hK (k_one hM.1) (ci := 10) (q0 := 0) rfl rfl)) rfl rfl hl.1 rfl (lv_room (Nat.le_of_ble_eq_true rfl)) d_Mod_put_2 ⟨Nat.zero_le _, Nat.zero_le _⟩) ?_
  refine lv_if_eq (tgt := 19) hx hb d_Mod_put_5 (by decide) (fun c_1 => ?_) (fun c_1 => ?_)
  · exact absurd c_1 (by decide)
  refine lv_iload_n hx hb d_Mod_put_8 rfl (lv_at hl 2 rfl) ?_
  refine lv_ldc (own := "BoxGlueModel") (index := 90) (v := (-100000)) hx hb hown (hts _ kw_672) d_Mod_put_9 ?_
  refine lv_ldc (own := "BoxGlueModel") (index := 78) (v := 100000) hx hb hown (hts _ kw_660) d_Mod_put_11 ?_
  refine k_pure (r := .int (f_Mod_isIn p1 (-100000) 100000)) (W.runS (As := [.int p1, .int (-100000), .int 100000]) (rest := []) ⟨hx, hb, hml, hown, hts⟩ (c_Mod_isIn l g s.heap p1 (-100000) 100000) (va_cwS 3 hts (kS_good kw_663 kw_661 kw_662 kw_5) rfl rfl rfl (by decide +kernel) ⟨Nat.le_of_ble_eq_true rfl, Nat.le_of_ble_eq_true rfl⟩) (k_pre (KK_st g) hKK) rfl rfl hl.1 rfl (lv_room (Nat.le_of_ble_eq_true rfl)) d_Mod_put_13 ⟨Nat.zero_le _, Nat.zero_le _⟩) ?_
  refine lv_if_ne (tgt := 21) hx hb d_Mod_put_16 (by decide) (fun c_2 => ?_) (fun c_2 => ?_)
  rotate_left
  · exact absurd c_2 h0
  refine lv_aload_n hx hb d_Mod_put_21 rfl (lv_at hl 0 rfl) ?_
  refine va_get (D := g.1) (ci := 10) (v := .int (nI sz)) (C := "BoxGlueModel") (T := kT_Mod) (N := 24) hx hb hts ki_Mod hown hK (k_one hM.1) 0 rfl rfl 12 (by decide) (hts _ kw_593) (fun _ h9 => h9) rfl d_Mod_put_22 ?_
  refine lv_bipush (v := 40) hx hb d_Mod_put_25 (by decide) ?_
  refine lv_icmp_ne (tgt := 33) hx hb d_Mod_put_27 (by decide) (fun c_3 => ?_) (fun c_3 => ?_)
  · exact absurd c_3 (fun q => q (by rw [hf]; rfl))
  refine lv_bipush (v := (-2)) hx hb d_Mod_put_30 (by decide) ?_
  exact W.iret (v := (-2)) hx hb hr (fun t ht hW => ⟨_, rfl, rfl, ht⟩) (fun _ h => by cases h) d_Mod_put_32
def mo_put (F : Nat → Nat → Int32) (sz k : Nat) (p1 : Int32) : Nat → Nat → Int32 := mF (mo_more (mF F 2 sz 0) sz 1 (nI k)) 2 sz p1
set_option maxHeartbeats 4000000 in
set_option maxRecDepth 100000 in
theorem c_Mod_put_ok (l : Launch) (g : KGt) (H0 : Heap) (m0 : Nat) (ad : Nat → Nat) (sz us bx : Nat) (F : Nat → Nat → Int32) (G : Nat → Nat → Int64) (hM : kMod g m0 ad sz us bx F G H0) (p1 : Int32) (k : Nat) (hk : k < bx) (hb60 : bx ≤ 60) (h0 : ¬ f_Mod_isIn p1 (-100000) 100000 = 0) (hf : sz < 40) : Met l y_Mod_put (kW y_Mod_put b_Mod_put 3 (.some .int)) ({ frames := 1, cells := 0, slots := 0, locals := 22 }) (kPc [.ref m0, .int (nI k), .int p1] (KK g) H0) (kQc (fun v H1 => v = some (.int (nI (sz + 1))) ∧ kE (mA m0 ad) H0 H1 ∧ kMod g m0 ad (sz + 1) us bx (mo_put F sz k p1) G H1)) 0 0 (mA m0 ad) := by
  refine Met.ofW (cc := b_Mod_put) (maxL := 3) (ret := (.some .int)) (by decide) rfl ?_
  intro p e s m args below meth c s₁ B hml hv
  obtain ⟨rfl, hH, hKK⟩ := hv
  have hx := B.exec
  have hb := B.bytes
  have hr := B.returns
  have hts := kW_ts (atoms_spec (ws := kW y_Mod_put b_Mod_put 3 (.some .int)) B.pre)
  have hown : s.vm.findClass "BoxGlueModel" = some m.cls := findClass_of_methodNamed B.named
  have hlocks := B.notSynchronized
  have hK := hKK.1
  subst hH
  have hl := lv_entry ([.ref m0, .int (nI k), .int p1]) (n := 3) (Nat.le_of_ble_eq_true rfl)
  rw [lg_entry_eq]
  generalize (lg_sl ([.ref m0, .int (nI k), .int p1]) ++ List.replicate (3 - (lg_sl ([.ref m0, .int (nI k), .int p1])).length) Slot.unset).toArray = ls at hl ⊢
  have hl : lv_has ls 3 [(0, .ref m0), (1, .int (nI k)), (2, .int p1)] := hl
  refine lv_aload_n hx hb d_Mod_put_0 rfl (lv_at hl 0 rfl) ?_
  refine lv_iload_n hx hb d_Mod_put_1 rfl (lv_at hl 1 rfl) ?_
  refine k_pure (r := .int 1) (W.runV (As := [.int (nI k)]) (rest := []) ⟨hx, hb, hml, hown, hts⟩ (c_Mod_isBox_yes l g s.heap m0 ad sz us bx F G hM k hk hb60) (cwV 1 hts (kV_good kw_671 kw_668 kw_670 ks_Mod_isBox kw_5) rfl rfl rfl (by decide +kernel) ⟨Nat.le_of_ble_eq_true rfl, Nat.le_of_ble_eq_true rfl⟩) (k_preV (KK_st g) hKK (va_recv hK (k_one hM.1) (ci := 10) (q0 := 0) rfl rfl)) rfl rfl hl.1 rfl (lv_room (Nat.le_of_ble_eq_true rfl)) d_Mod_put_2 ⟨Nat.zero_le _, Nat.zero_le _⟩) ?_
  refine lv_if_eq (tgt := 19) hx hb d_Mod_put_5 (by decide) (fun c_1 => ?_) (fun c_1 => ?_)
  · exact absurd c_1 (by decide)
  refine lv_iload_n hx hb d_Mod_put_8 rfl (lv_at hl 2 rfl) ?_
  refine lv_ldc (own := "BoxGlueModel") (index := 90) (v := (-100000)) hx hb hown (hts _ kw_672) d_Mod_put_9 ?_
  refine lv_ldc (own := "BoxGlueModel") (index := 78) (v := 100000) hx hb hown (hts _ kw_660) d_Mod_put_11 ?_
  refine k_pure (r := .int (f_Mod_isIn p1 (-100000) 100000)) (W.runS (As := [.int p1, .int (-100000), .int 100000]) (rest := []) ⟨hx, hb, hml, hown, hts⟩ (c_Mod_isIn l g s.heap p1 (-100000) 100000) (va_cwS 3 hts (kS_good kw_663 kw_661 kw_662 kw_5) rfl rfl rfl (by decide +kernel) ⟨Nat.le_of_ble_eq_true rfl, Nat.le_of_ble_eq_true rfl⟩) (k_pre (KK_st g) hKK) rfl rfl hl.1 rfl (lv_room (Nat.le_of_ble_eq_true rfl)) d_Mod_put_13 ⟨Nat.zero_le _, Nat.zero_le _⟩) ?_
  refine lv_if_ne (tgt := 21) hx hb d_Mod_put_16 (by decide) (fun c_2 => ?_) (fun c_2 => ?_)
  rotate_left
  · exact absurd c_2 h0
  refine lv_aload_n hx hb d_Mod_put_21 rfl (lv_at hl 0 rfl) ?_
  refine va_get (D := g.1) (ci := 10) (v := .int (nI sz)) (C := "BoxGlueModel") (T := kT_Mod) (N := 24) hx hb hts ki_Mod hown hK (k_one hM.1) 0 rfl rfl 12 (by decide) (hts _ kw_593) (fun _ h9 => h9) rfl d_Mod_put_22 ?_
  refine lv_bipush (v := 40) hx hb d_Mod_put_25 (by decide) ?_
  refine lv_icmp_ne (tgt := 33) hx hb d_Mod_put_27 (by decide) (fun c_3 => ?_) (fun c_3 => ?_)
  rotate_left
  · exact absurd c_3 (fun z => absurd ((nI_eq (by omega) (by decide)).mp (z.trans (show (40 : Int32) = nI 40 from rfl))) (by omega))
  refine lv_aload_n hx hb d_Mod_put_33 rfl (lv_at hl 0 rfl) ?_
  refine va_get (D := g.1) (ci := 10) (v := .ref (ad 2)) (C := "BoxGlueModel") (T := kT_Mod) (N := 24) hx hb hts ki_Mod hown hK (k_one hM.1) 0 rfl rfl 2 (by decide) (hts _ kw_583) (fun _ h9 => h9) rfl d_Mod_put_34 ?_
  refine lv_aload_n hx hb d_Mod_put_37 rfl (lv_at hl 0 rfl) ?_
  refine va_get (D := g.1) (ci := 10) (v := .int (nI sz)) (C := "BoxGlueModel") (T := kT_Mod) (N := 24) hx hb hts ki_Mod hown hK (k_one hM.1) 0 rfl rfl 12 (by decide) (hts _ kw_593) (fun _ h9 => h9) rfl d_Mod_put_38 ?_
  refine lv_iconst (v := 0) hx hb d_Mod_put_41 (by decide) ?_
  refine m_iast hx hb hK hM (fun _ h => by cases h) 2 sz (Or.inl (by decide)) (show sz < 340 by omega) d_Mod_put_42 (fun H locs hM hE1 hL => ?_)
  have hE : kE (mA m0 ad) s.heap H := hE1
  refine lv_aload_n hx hb d_Mod_put_43 rfl (lv_at hl 0 rfl) ?_
  refine lv_iconst (v := 1) hx hb d_Mod_put_44 (by decide) ?_
  refine lv_iload_n hx hb d_Mod_put_45 rfl (lv_at hl 1 rfl) ?_
  refine k_call (A := (mA m0 ad)) (W.runV (As := [.int 1, .int (nI k)]) (rest := []) ⟨hx, hb, hml, hown, hts⟩ (c_Mod_more l g H m0 ad sz us bx (mF F 2 sz 0) G hM 1 (nI k) (by omega)) (cwV 2 hts (kV_good kw_676 kw_673 kw_675 ks_Mod_more kw_5) rfl rfl rfl (by decide +kernel) ⟨Nat.le_of_ble_eq_true rfl, Nat.le_of_ble_eq_true rfl⟩) (k_preV (KK_st g) hKK (va_recv hK (k_one hM.1) (ci := 10) (q0 := 0) rfl rfl)) rfl rfl hl.1 rfl (lv_room (Nat.le_of_ble_eq_true rfl)) d_Mod_put_46 ⟨Nat.le_of_ble_eq_true rfl, Nat.le_of_ble_eq_true rfl⟩) hL (fun q h => h) (fun v H locs hv hL => ?_)
  obtain ⟨rfl, hE1, hM⟩ := hv
  have hE : kE (mA m0 ad) s.heap H := hE.tr hE1 (fun _ _ h => h)
  refine lv_pop hx hb d_Mod_put_49 rfl ?_
  refine lv_aload_n hx hb d_Mod_put_50 rfl (lv_at hl 0 rfl) ?_
  refine va_get (D := g.1) (ci := 10) (v := .ref (ad 2)) (C := "BoxGlueModel") (T := kT_Mod) (N := 24) hx hb hts ki_Mod hown hK (k_one hM.1) 0 rfl rfl 2 (by decide) (hts _ kw_583) (fun _ h9 => h9) rfl d_Mod_put_51 ?_
  refine lv_aload_n hx hb d_Mod_put_54 rfl (lv_at hl 0 rfl) ?_
  refine va_get (D := g.1) (ci := 10) (v := .int (nI (sz + 1))) (C := "BoxGlueModel") (T := kT_Mod) (N := 24) hx hb hts ki_Mod hown hK (k_one hM.1) 0 rfl rfl 12 (by decide) (hts _ kw_593) (fun _ h9 => h9) rfl d_Mod_put_55 ?_
  refine lv_iconst (v := 1) hx hb d_Mod_put_58 (by decide) ?_
  refine lv_isub hx hb d_Mod_put_59 ?_
  rw [nI_pred]
  refine lv_iload_n hx hb d_Mod_put_60 rfl (lv_at hl 2 rfl) ?_
  refine m_iast hx hb hK hM hL 2 sz (Or.inl (by decide)) (show sz < 340 by omega) d_Mod_put_61 (fun H locs hM hE1 hL => ?_)
  have hE : kE (mA m0 ad) s.heap H := hE.tr hE1 (fun _ _ h => h)
  refine lv_aload_n hx hb d_Mod_put_62 rfl (lv_at hl 0 rfl) ?_
  refine va_get (D := g.1) (ci := 10) (v := .int (nI (sz + 1))) (C := "BoxGlueModel") (T := kT_Mod) (N := 24) hx hb hts ki_Mod hown hK (k_one hM.1) 0 rfl rfl 12 (by decide) (hts _ kw_593) (fun _ h9 => h9) rfl d_Mod_put_63 ?_
  exact W.iret (v := (nI (sz + 1))) hx hb hr (fun t ht hW => ⟨_, rfl, rfl, by rw [ht]; exact hE, by rw [ht]; exact hM⟩) hL d_Mod_put_66
set_option maxHeartbeats 4000000 in
set_option maxRecDepth 100000 in
theorem c_Mod_leaders_bad1 (l : Launch) (g : KGt) (H0 : Heap) (m0 : Nat) (ad : Nat → Nat) (sz us bx : Nat) (F : Nat → Nat → Int32) (G : Nat → Nat → Int64) (hM : kMod g m0 ad sz us bx F G H0) (p0 : Int32) (p1 : Int32) (h : f_Mod_isIn p0 1 3 = 0) : Met l y_Mod_leaders (kW y_Mod_leaders b_Mod_leaders 3 (.some .int)) ({ frames := 1, cells := 0, slots := 0, locals := 22 }) (kPc [.ref m0, .int p0, .int p1] (KK g) H0) (kQc (kPure (.int (-1)) H0)) 0 0 (fun _ => False) := by
  refine Met.ofW (cc := b_Mod_leaders) (maxL := 3) (ret := (.some .int)) (by decide) rfl ?_
  intro p e s m args below meth c s₁ B hml hv
  obtain ⟨rfl, hH, hKK⟩ := hv
  have hx := B.exec
  have hb := B.bytes
  have hr := B.returns
  have hts := kW_ts (atoms_spec (ws := kW y_Mod_leaders b_Mod_leaders 3 (.some .int)) B.pre)
  have hown : s.vm.findClass "BoxGlueModel" = some m.cls := findClass_of_methodNamed B.named
  have hlocks := B.notSynchronized
  have hK := hKK.1
  subst hH
  have hl := lv_entry ([.ref m0, .int p0, .int p1]) (n := 3) (Nat.le_of_ble_eq_true rfl)
  rw [lg_entry_eq]
  generalize (lg_sl ([.ref m0, .int p0, .int p1]) ++ List.replicate (3 - (lg_sl ([.ref m0, .int p0, .int p1])).length) Slot.unset).toArray = ls at hl ⊢
  have hl : lv_has ls 3 [(0, .ref m0), (1, .int p0), (2, .int p1)] := hl
  refine lv_iload_n hx hb d_Mod_leaders_0 rfl (lv_at hl 1 rfl) ?_
  refine lv_iconst (v := 1) hx hb d_Mod_leaders_1 (by decide) ?_
  refine lv_iconst (v := 3) hx hb d_Mod_leaders_2 (by decide) ?_
  refine k_pure (r := .int (f_Mod_isIn p0 1 3)) (W.runS (As := [.int p0, .int 1, .int 3]) (rest := []) ⟨hx, hb, hml, hown, hts⟩ (c_Mod_isIn l g s.heap p0 1 3) (va_cwS 3 hts (kS_good kw_663 kw_661 kw_662 kw_5) rfl rfl rfl (by decide +kernel) ⟨Nat.le_of_ble_eq_true rfl, Nat.le_of_ble_eq_true rfl⟩) (k_pre (KK_st g) hKK) rfl rfl hl.1 rfl (lv_room (Nat.le_of_ble_eq_true rfl)) d_Mod_leaders_3 ⟨Nat.zero_le _, Nat.zero_le _⟩) ?_
  refine lv_if_eq (tgt := 17) hx hb d_Mod_leaders_6 (by decide) (fun c_1 => ?_) (fun c_1 => ?_)
  rotate_left
  · exact absurd c_1 (fun q => q h)
  refine lv_iconst (v := (-1)) hx hb d_Mod_leaders_17 (by decide) ?_
  exact W.iret (v := (-1)) hx hb hr (fun t ht hW => ⟨_, rfl, rfl, ht⟩) (fun _ h => by cases h) d_Mod_leaders_18
set_option maxHeartbeats 4000000 in
set_option maxRecDepth 100000 in
theorem c_Mod_leaders_bad2 (l : Launch) (g : KGt) (H0 : Heap) (m0 : Nat) (ad : Nat → Nat) (sz us bx : Nat) (F : Nat → Nat → Int32) (G : Nat → Nat → Int64) (hM : kMod g m0 ad sz us bx F G H0) (p0 : Int32) (p1 : Int32) (h0 : ¬ f_Mod_isIn p0 1 3 = 0) (h : p1 < 0 ∨ nI bx ≤ p1) : Met l y_Mod_leaders (kW y_Mod_leaders b_Mod_leaders 3 (.some .int)) ({ frames := 1, cells := 0, slots := 0, locals := 22 }) (kPc [.ref m0, .int p0, .int p1] (KK g) H0) (kQc (kPure (.int (-1)) H0)) 0 0 (fun _ => False) := by
  refine Met.ofW (cc := b_Mod_leaders) (maxL := 3) (ret := (.some .int)) (by decide) rfl ?_
  intro p e s m args below meth c s₁ B hml hv
  obtain ⟨rfl, hH, hKK⟩ := hv
  have hx := B.exec
  have hb := B.bytes
  have hr := B.returns
  have hts := kW_ts (atoms_spec (ws := kW y_Mod_leaders b_Mod_leaders 3 (.some .int)) B.pre)
  have hown : s.vm.findClass "BoxGlueModel" = some m.cls := findClass_of_methodNamed B.named
  have hlocks := B.notSynchronized
  have hK := hKK.1
  subst hH
  have hl := lv_entry ([.ref m0, .int p0, .int p1]) (n := 3) (Nat.le_of_ble_eq_true rfl)
  rw [lg_entry_eq]
  generalize (lg_sl ([.ref m0, .int p0, .int p1]) ++ List.replicate (3 - (lg_sl ([.ref m0, .int p0, .int p1])).length) Slot.unset).toArray = ls at hl ⊢
  have hl : lv_has ls 3 [(0, .ref m0), (1, .int p0), (2, .int p1)] := hl
  refine lv_iload_n hx hb d_Mod_leaders_0 rfl (lv_at hl 1 rfl) ?_
  refine lv_iconst (v := 1) hx hb d_Mod_leaders_1 (by decide) ?_
  refine lv_iconst (v := 3) hx hb d_Mod_leaders_2 (by decide) ?_
  refine k_pure (r := .int (f_Mod_isIn p0 1 3)) (W.runS (As := [.int p0, .int 1, .int 3]) (rest := []) ⟨hx, hb, hml, hown, hts⟩ (c_Mod_isIn l g s.heap p0 1 3) (va_cwS 3 hts (kS_good kw_663 kw_661 kw_662 kw_5) rfl rfl rfl (by decide +kernel) ⟨Nat.le_of_ble_eq_true rfl, Nat.le_of_ble_eq_true rfl⟩) (k_pre (KK_st g) hKK) rfl rfl hl.1 rfl (lv_room (Nat.le_of_ble_eq_true rfl)) d_Mod_leaders_3 ⟨Nat.zero_le _, Nat.zero_le _⟩) ?_
  refine lv_if_eq (tgt := 17) hx hb d_Mod_leaders_6 (by decide) (fun c_1 => ?_) (fun c_1 => ?_)
  · exact absurd c_1 h0
  refine lv_aload_n hx hb d_Mod_leaders_9 rfl (lv_at hl 0 rfl) ?_
  refine lv_iload_n hx hb d_Mod_leaders_10 rfl (lv_at hl 2 rfl) ?_
  refine k_pure (r := .int 0) (W.runV (As := [.int p1]) (rest := []) ⟨hx, hb, hml, hown, hts⟩ (c_Mod_isBox_no l g s.heap m0 ad sz us bx F G hM p1 h) (cwV 1 hts (kV_good kw_671 kw_668 kw_670 ks_Mod_isBox kw_5) rfl rfl rfl (by decide +kernel) ⟨Nat.le_of_ble_eq_true rfl, Nat.le_of_ble_eq_true rfl⟩) (k_preV (KK_st g) hKK (va_recv hK (k_one hM.1) (ci := 10) (q0 := 0) rfl rfl)) rfl rfl hl.1 rfl (lv_room (Nat.le_of_ble_eq_true rfl)) d_Mod_leaders_11 ⟨Nat.zero_le _, Nat.zero_le _⟩) ?_
  refine lv_if_ne (tgt := 19) hx hb d_Mod_leaders_14 (by decide) (fun c_2 => ?_) (fun c_2 => ?_)
  · exact absurd c_2 (fun q => q rfl)
  refine lv_iconst (v := (-1)) hx hb d_Mod_leaders_17 (by decide) ?_
  exact W.iret (v := (-1)) hx hb hr (fun t ht hW => ⟨_, rfl, rfl, ht⟩) (fun _ h => by cases h) d_Mod_leaders_18
set_option maxHeartbeats 4000000 in
set_option maxRecDepth 100000 in
theorem c_Mod_leaders_no1 (l : Launch) (g : KGt) (H0 : Heap) (m0 : Nat) (ad : Nat → Nat) (sz us bx : Nat) (F : Nat → Nat → Int32) (G : Nat → Nat → Int64) (hM : kMod g m0 ad sz us bx F G H0) (p0 : Int32) (kb : Nat) (hkb : kb < bx) (hb60 : bx ≤ 60) (h0 : ¬ f_Mod_isIn p0 1 3 = 0) (h : sz = 0) : Met l y_Mod_leaders (kW y_Mod_leaders b_Mod_leaders 3 (.some .int)) ({ frames := 1, cells := 0, slots := 0, locals := 22 }) (kPc [.ref m0, .int p0, .int (nI kb)] (KK g) H0) (kQc (kPure (.int (-3)) H0)) 0 0 (fun _ => False) := by
  refine Met.ofW (cc := b_Mod_leaders) (maxL := 3) (ret := (.some .int)) (by decide) rfl ?_
  intro p e s m args below meth c s₁ B hml hv
  obtain ⟨rfl, hH, hKK⟩ := hv
  have hx := B.exec
  have hb := B.bytes
  have hr := B.returns
  have hts := kW_ts (atoms_spec (ws := kW y_Mod_leaders b_Mod_leaders 3 (.some .int)) B.pre)
  have hown : s.vm.findClass "BoxGlueModel" = some m.cls := findClass_of_methodNamed B.named
  have hlocks := B.notSynchronized
  have hK := hKK.1
  subst hH
  have hl := lv_entry ([.ref m0, .int p0, .int (nI kb)]) (n := 3) (Nat.le_of_ble_eq_true rfl)
  rw [lg_entry_eq]
  generalize (lg_sl ([.ref m0, .int p0, .int (nI kb)]) ++ List.replicate (3 - (lg_sl ([.ref m0, .int p0, .int (nI kb)])).length) Slot.unset).toArray = ls at hl ⊢
  have hl : lv_has ls 3 [(0, .ref m0), (1, .int p0), (2, .int (nI kb))] := hl
  refine lv_iload_n hx hb d_Mod_leaders_0 rfl (lv_at hl 1 rfl) ?_
  refine lv_iconst (v := 1) hx hb d_Mod_leaders_1 (by decide) ?_
  refine lv_iconst (v := 3) hx hb d_Mod_leaders_2 (by decide) ?_
  refine k_pure (r := .int (f_Mod_isIn p0 1 3)) (W.runS (As := [.int p0, .int 1, .int 3]) (rest := []) ⟨hx, hb, hml, hown, hts⟩ (c_Mod_isIn l g s.heap p0 1 3) (va_cwS 3 hts (kS_good kw_663 kw_661 kw_662 kw_5) rfl rfl rfl (by decide +kernel) ⟨Nat.le_of_ble_eq_true rfl, Nat.le_of_ble_eq_true rfl⟩) (k_pre (KK_st g) hKK) rfl rfl hl.1 rfl (lv_room (Nat.le_of_ble_eq_true rfl)) d_Mod_leaders_3 ⟨Nat.zero_le _, Nat.zero_le _⟩) ?_
  refine lv_if_eq (tgt := 17) hx hb d_Mod_leaders_6 (by decide) (fun c_1 => ?_) (fun c_1 => ?_)
  · exact absurd c_1 h0
  refine lv_aload_n hx hb d_Mod_leaders_9 rfl (lv_at hl 0 rfl) ?_
  refine lv_iload_n hx hb d_Mod_leaders_10 rfl (lv_at hl 2 rfl) ?_
  refine k_pure (r := .int 1) (W.runV (As := [.int (nI kb)]) (rest := []) ⟨hx, hb, hml, hown, hts⟩ (c_Mod_isBox_yes l g s.heap m0 ad sz us bx F G hM kb hkb hb60) (cwV 1 hts (kV_good kw_671 kw_668 kw_670 ks_Mod_isBox kw_5) rfl rfl rfl (by decide +kernel) ⟨Nat.le_of_ble_eq_true rfl, Nat.le_of_ble_eq_true rfl⟩) (k_preV (KK_st g) hKK (va_recv hK (k_one hM.1) (ci := 10) (q0 := 0) rfl rfl)) rfl rfl hl.1 rfl (lv_room (Nat.le_of_ble_eq_true rfl)) d_Mod_leaders_11 ⟨Nat.zero_le _, Nat.zero_le _⟩) ?_
  refine lv_if_ne (tgt := 19) hx hb d_Mod_leaders_14 (by decide) (fun c_2 => ?_) (fun c_2 => ?_)
  rotate_left
  · exact absurd c_2 (by decide)
  refine lv_aload_n hx hb d_Mod_leaders_19 rfl (lv_at hl 0 rfl) ?_
  refine va_get (D := g.1) (ci := 10) (v := .int (nI sz)) (C := "BoxGlueModel") (T := kT_Mod) (N := 24) hx hb hts ki_Mod hown hK (k_one hM.1) 0 rfl rfl 12 (by decide) (hts _ kw_593) (fun _ h9 => h9) rfl d_Mod_leaders_20 ?_
  refine lv_if_eq (tgt := 41) hx hb d_Mod_leaders_23 (by decide) (fun c_3 => ?_) (fun c_3 => ?_)
  rotate_left
  · exact absurd c_3 (fun q => q (by rw [h]; exact nI_0))
  refine lv_bipush (v := (-3)) hx hb d_Mod_leaders_41 (by decide) ?_
  exact W.iret (v := (-3)) hx hb hr (fun t ht hW => ⟨_, rfl, rfl, ht⟩) (fun _ h => by cases h) d_Mod_leaders_43
set_option maxHeartbeats 4000000 in
set_option maxRecDepth 100000 in
theorem c_Mod_leaders_no2 (l : Launch) (g : KGt) (H0 : Heap) (m0 : Nat) (ad : Nat → Nat) (sz us bx : Nat) (F : Nat → Nat → Int32) (G : Nat → Nat → Int64) (hM : kMod g m0 ad sz us bx F G H0) (p0 : Int32) (kb : Nat) (hkb : kb < bx) (hb60 : bx ≤ 60) (h0 : ¬ f_Mod_isIn p0 1 3 = 0) (k : Nat) (hs : sz = k + 1) (hk40 : k < 40) (hng : ¬ F 0 k = 2) : Met l y_Mod_leaders (kW y_Mod_leaders b_Mod_leaders 3 (.some .int)) ({ frames := 1, cells := 0, slots := 0, locals := 22 }) (kPc [.ref m0, .int p0, .int (nI kb)] (KK g) H0) (kQc (kPure (.int (-3)) H0)) 0 0 (fun _ => False) := by
  refine Met.ofW (cc := b_Mod_leaders) (maxL := 3) (ret := (.some .int)) (by decide) rfl ?_
  intro p e s m args below meth c s₁ B hml hv
  obtain ⟨rfl, hH, hKK⟩ := hv
  have hx := B.exec
  have hb := B.bytes
  have hr := B.returns
  have hts := kW_ts (atoms_spec (ws := kW y_Mod_leaders b_Mod_leaders 3 (.some .int)) B.pre)
  have hown : s.vm.findClass "BoxGlueModel" = some m.cls := findClass_of_methodNamed B.named
  have hlocks := B.notSynchronized
  have hK := hKK.1
  subst hH
  have hl := lv_entry ([.ref m0, .int p0, .int (nI kb)]) (n := 3) (Nat.le_of_ble_eq_true rfl)
  rw [lg_entry_eq]
  generalize (lg_sl ([.ref m0, .int p0, .int (nI kb)]) ++ List.replicate (3 - (lg_sl ([.ref m0, .int p0, .int (nI kb)])).length) Slot.unset).toArray = ls at hl ⊢
  have hl : lv_has ls 3 [(0, .ref m0), (1, .int p0), (2, .int (nI kb))] := hl
  subst hs
  refine lv_iload_n hx hb d_Mod_leaders_0 rfl (lv_at hl 1 rfl) ?_
  refine lv_iconst (v := 1) hx hb d_Mod_leaders_1 (by decide) ?_
  refine lv_iconst (v := 3) hx hb d_Mod_leaders_2 (by decide) ?_
  refine k_pure (r := .int (f_Mod_isIn p0 1 3)) (W.runS (As := [.int p0, .int 1, .int 3]) (rest := []) ⟨hx, hb, hml, hown, hts⟩ (c_Mod_isIn l g s.heap p0 1 3) (va_cwS 3 hts (kS_good kw_663 kw_661 kw_662 kw_5) rfl rfl rfl (by decide +kernel) ⟨Nat.le_of_ble_eq_true rfl, Nat.le_of_ble_eq_true rfl⟩) (k_pre (KK_st g) hKK) rfl rfl hl.1 rfl (lv_room (Nat.le_of_ble_eq_true rfl)) d_Mod_leaders_3 ⟨Nat.zero_le _, Nat.zero_le _⟩) ?_
  refine lv_if_eq (tgt := 17) hx hb d_Mod_leaders_6 (by decide) (fun c_1 => ?_) (fun c_1 => ?_)
  · exact absurd c_1 h0
  refine lv_aload_n hx hb d_Mod_leaders_9 rfl (lv_at hl 0 rfl) ?_
  refine lv_iload_n hx hb d_Mod_leaders_10 rfl (lv_at hl 2 rfl) ?_
  refine k_pure (r := .int 1) (W.runV (As := [.int (nI kb)]) (rest := []) ⟨hx, hb, hml, hown, hts⟩ (c_Mod_isBox_yes l g s.heap m0 ad (k + 1) us bx F G hM kb hkb hb60) (cwV 1 hts (kV_good kw_671 kw_668 kw_670 ks_Mod_isBox kw_5) rfl rfl rfl (by decide +kernel) ⟨Nat.le_of_ble_eq_true rfl, Nat.le_of_ble_eq_true rfl⟩) (k_preV (KK_st g) hKK (va_recv hK (k_one hM.1) (ci := 10) (q0 := 0) rfl rfl)) rfl rfl hl.1 rfl (lv_room (Nat.le_of_ble_eq_true rfl)) d_Mod_leaders_11 ⟨Nat.zero_le _, Nat.zero_le _⟩) ?_
  refine lv_if_ne (tgt := 19) hx hb d_Mod_leaders_14 (by decide) (fun c_2 => ?_) (fun c_2 => ?_)
  rotate_left
  · exact absurd c_2 (by decide)
  refine lv_aload_n hx hb d_Mod_leaders_19 rfl (lv_at hl 0 rfl) ?_
  refine va_get (D := g.1) (ci := 10) (v := .int (nI (k + 1))) (C := "BoxGlueModel") (T := kT_Mod) (N := 24) hx hb hts ki_Mod hown hK (k_one hM.1) 0 rfl rfl 12 (by decide) (hts _ kw_593) (fun _ h9 => h9) rfl d_Mod_leaders_20 ?_
  refine lv_if_eq (tgt := 41) hx hb d_Mod_leaders_23 (by decide) (fun c_3 => ?_) (fun c_3 => ?_)
  · exact absurd c_3 (nI_ne0 (by omega) (by omega))
  refine lv_aload_n hx hb d_Mod_leaders_26 rfl (lv_at hl 0 rfl) ?_
  refine va_get (D := g.1) (ci := 10) (v := .ref (ad 0)) (C := "BoxGlueModel") (T := kT_Mod) (N := 24) hx hb hts ki_Mod hown hK (k_one hM.1) 0 rfl rfl 0 (by decide) (hts _ kw_581) (fun _ h9 => h9) rfl d_Mod_leaders_27 ?_
  refine lv_aload_n hx hb d_Mod_leaders_30 rfl (lv_at hl 0 rfl) ?_
  refine va_get (D := g.1) (ci := 10) (v := .int (nI (k + 1))) (C := "BoxGlueModel") (T := kT_Mod) (N := 24) hx hb hts ki_Mod hown hK (k_one hM.1) 0 rfl rfl 12 (by decide) (hts _ kw_593) (fun _ h9 => h9) rfl d_Mod_leaders_31 ?_
  refine lv_iconst (v := 1) hx hb d_Mod_leaders_34 (by decide) ?_
  refine lv_isub hx hb d_Mod_leaders_35 ?_
  rw [nI_pred]
  refine m_iald hx hb hK hM 0 k (Or.inl (by decide)) (show k < 340 by omega) d_Mod_leaders_36 ?_
  refine lv_iconst (v := 2) hx hb d_Mod_leaders_37 (by decide) ?_
  refine lv_icmp_eq (tgt := 44) hx hb d_Mod_leaders_38 (by decide) (fun c_4 => ?_) (fun c_4 => ?_)
  · exact absurd c_4 hng
  refine lv_bipush (v := (-3)) hx hb d_Mod_leaders_41 (by decide) ?_
  exact W.iret (v := (-3)) hx hb hr (fun t ht hW => ⟨_, rfl, rfl, ht⟩) (fun _ h => by cases h) d_Mod_leaders_43
set_option maxHeartbeats 4000000 in
set_option maxRecDepth 100000 in
theorem c_Mod_leaders_ok (l : Launch) (g : KGt) (H0 : Heap) (m0 : Nat) (ad : Nat → Nat) (sz us bx : Nat) (F : Nat → Nat → Int32) (G : Nat → Nat → Int64) (hM : kMod g m0 ad sz us bx F G H0) (p0 : Int32) (kb : Nat) (hkb : kb < bx) (hb60 : bx ≤ 60) (h0 : ¬ f_Mod_isIn p0 1 3 = 0) (k : Nat) (hs : sz = k + 1) (hk40 : k < 40) (hgl : F 0 k = 2) : Met l y_Mod_leaders (kW y_Mod_leaders b_Mod_leaders 3 (.some .int)) ({ frames := 1, cells := 0, slots := 0, locals := 22 }) (kPc [.ref m0, .int p0, .int (nI kb)] (KK g) H0) (kQc (fun v H1 => v = some (.int 1) ∧ kE (mA m0 ad) H0 H1 ∧ kMod g m0 ad sz us bx (mF (mF F 8 k p0) 9 k (nI kb)) G H1)) 0 0 (mA m0 ad) := by
  refine Met.ofW (cc := b_Mod_leaders) (maxL := 3) (ret := (.some .int)) (by decide) rfl ?_
  intro p e s m args below meth c s₁ B hml hv
  obtain ⟨rfl, hH, hKK⟩ := hv
  have hx := B.exec
  have hb := B.bytes
  have hr := B.returns
  have hts := kW_ts (atoms_spec (ws := kW y_Mod_leaders b_Mod_leaders 3 (.some .int)) B.pre)
  have hown : s.vm.findClass "BoxGlueModel" = some m.cls := findClass_of_methodNamed B.named
  have hlocks := B.notSynchronized
  have hK := hKK.1
  subst hH
  have hl := lv_entry ([.ref m0, .int p0, .int (nI kb)]) (n := 3) (Nat.le_of_ble_eq_true rfl)
  rw [lg_entry_eq]
  generalize (lg_sl ([.ref m0, .int p0, .int (nI kb)]) ++ List.replicate (3 - (lg_sl ([.ref m0, .int p0, .int (nI kb)])).length) Slot.unset).toArray = ls at hl ⊢
  have hl : lv_has ls 3 [(0, .ref m0), (1, .int p0), (2, .int (nI kb))] := hl
  subst hs
  refine lv_iload_n hx hb d_Mod_leaders_0 rfl (lv_at hl 1 rfl) ?_
  refine lv_iconst (v := 1) hx hb d_Mod_leaders_1 (by decide) ?_
  refine lv_iconst (v := 3) hx hb d_Mod_leaders_2 (by decide) ?_
  refine k_pure (r := .int (f_Mod_isIn p0 1 3)) (W.runS (As := [.int p0, .int 1, .int 3]) (rest := []) ⟨hx, hb, hml, hown, hts⟩ (c_Mod_isIn l g s.heap p0 1 3) (va_cwS 3 hts (kS_good kw_663 kw_661 kw_662 kw_5) rfl rfl rfl (by decide +kernel) ⟨Nat.le_of_ble_eq_true rfl, Nat.le_of_ble_eq_true rfl⟩) (k_pre (KK_st g) hKK) rfl rfl hl.1 rfl (lv_room (Nat.le_of_ble_eq_true rfl)) d_Mod_leaders_3 ⟨Nat.zero_le _, Nat.zero_le _⟩) ?_
  refine lv_if_eq (tgt := 17) hx hb d_Mod_leaders_6 (by decide) (fun c_1 => ?_) (fun c_1 => ?_)
  · exact absurd c_1 h0
  refine lv_aload_n hx hb d_Mod_leaders_9 rfl (lv_at hl 0 rfl) ?_
  refine lv_iload_n hx hb d_Mod_leaders_10 rfl (lv_at hl 2 rfl) ?_
  refine k_pure (r := .int 1) (W.runV (As := [.int (nI kb)]) (rest := []) ⟨hx, hb, hml, hown, hts⟩ (c_Mod_isBox_yes l g s.heap m0 ad (k + 1) us bx F G hM kb hkb hb60) (cwV 1 hts (kV_good kw_671 kw_668 kw_670 ks_Mod_isBox kw_5) rfl rfl rfl (by decide +kernel) ⟨Nat.le_of_ble_eq_true rfl, Nat.le_of_ble_eq_true rfl⟩) (k_preV (KK_st g) hKK (va_recv hK (k_one hM.1) (ci := 10) (q0 := 0) rfl rfl)) rfl rfl hl.1 rfl (lv_room (Nat.le_of_ble_eq_true rfl)) d_Mod_leaders_11 ⟨Nat.zero_le _, Nat.zero_le _⟩) ?_
  refine lv_if_ne (tgt := 19) hx hb d_Mod_leaders_14 (by decide) (fun c_2 => ?_) (fun c_2 => ?_)
  rotate_left
  · exact absurd c_2 (by decide)
  refine lv_aload_n hx hb d_Mod_leaders_19 rfl (lv_at hl 0 rfl) ?_
  refine va_get (D := g.1) (ci := 10) (v := .int (nI (k + 1))) (C := "BoxGlueModel") (T := kT_Mod) (N := 24) hx hb hts ki_Mod hown hK (k_one hM.1) 0 rfl rfl 12 (by decide) (hts _ kw_593) (fun _ h9 => h9) rfl d_Mod_leaders_20 ?_
  refine lv_if_eq (tgt := 41) hx hb d_Mod_leaders_23 (by decide) (fun c_3 => ?_) (fun c_3 => ?_)
  · exact absurd c_3 (nI_ne0 (by omega) (by omega))
  refine lv_aload_n hx hb d_Mod_leaders_26 rfl (lv_at hl 0 rfl) ?_
  refine va_get (D := g.1) (ci := 10) (v := .ref (ad 0)) (C := "BoxGlueModel") (T := kT_Mod) (N := 24) hx hb hts ki_Mod hown hK (k_one hM.1) 0 rfl rfl 0 (by decide) (hts _ kw_581) (fun _ h9 => h9) rfl d_Mod_leaders_27 ?_
  refine lv_aload_n hx hb d_Mod_leaders_30 rfl (lv_at hl 0 rfl) ?_
  refine va_get (D := g.1) (ci := 10) (v := .int (nI (k + 1))) (C := "BoxGlueModel") (T := kT_Mod) (N := 24) hx hb hts ki_Mod hown hK (k_one hM.1) 0 rfl rfl 12 (by decide) (hts _ kw_593) (fun _ h9 => h9) rfl d_Mod_leaders_31 ?_
  refine lv_iconst (v := 1) hx hb d_Mod_leaders_34 (by decide) ?_
  refine lv_isub hx hb d_Mod_leaders_35 ?_
  rw [nI_pred]
  refine m_iald hx hb hK hM 0 k (Or.inl (by decide)) (show k < 340 by omega) d_Mod_leaders_36 ?_
  refine lv_iconst (v := 2) hx hb d_Mod_leaders_37 (by decide) ?_
  refine lv_icmp_eq (tgt := 44) hx hb d_Mod_leaders_38 (by decide) (fun c_4 => ?_) (fun c_4 => ?_)
  rotate_left
  · exact absurd c_4 (fun q => q hgl)
  refine lv_aload_n hx hb d_Mod_leaders_44 rfl (lv_at hl 0 rfl) ?_
  refine va_get (D := g.1) (ci := 10) (v := .ref (ad 8)) (C := "BoxGlueModel") (T := kT_Mod) (N := 24) hx hb hts ki_Mod hown hK (k_one hM.1) 0 rfl rfl 8 (by decide) (hts _ kw_589) (fun _ h9 => h9) rfl d_Mod_leaders_45 ?_
  refine lv_aload_n hx hb d_Mod_leaders_48 rfl (lv_at hl 0 rfl) ?_
  refine va_get (D := g.1) (ci := 10) (v := .int (nI (k + 1))) (C := "BoxGlueModel") (T := kT_Mod) (N := 24) hx hb hts ki_Mod hown hK (k_one hM.1) 0 rfl rfl 12 (by decide) (hts _ kw_593) (fun _ h9 => h9) rfl d_Mod_leaders_49 ?_
  refine lv_iconst (v := 1) hx hb d_Mod_leaders_52 (by decide) ?_
  refine lv_isub hx hb d_Mod_leaders_53 ?_
  rw [nI_pred]
  refine lv_iload_n hx hb d_Mod_leaders_54 rfl (lv_at hl 1 rfl) ?_
  refine m_iast hx hb hK hM (fun _ h => by cases h) 8 k (Or.inl (by decide)) (show k < 340 by omega) d_Mod_leaders_55 (fun H locs hM hE1 hL => ?_)
  have hE : kE (mA m0 ad) s.heap H := hE1
  refine lv_aload_n hx hb d_Mod_leaders_56 rfl (lv_at hl 0 rfl) ?_
  refine va_get (D := g.1) (ci := 10) (v := .ref (ad 9)) (C := "BoxGlueModel") (T := kT_Mod) (N := 24) hx hb hts ki_Mod hown hK (k_one hM.1) 0 rfl rfl 9 (by decide) (hts _ kw_590) (fun _ h9 => h9) rfl d_Mod_leaders_57 ?_
  refine lv_aload_n hx hb d_Mod_leaders_60 rfl (lv_at hl 0 rfl) ?_
  refine va_get (D := g.1) (ci := 10) (v := .int (nI (k + 1))) (C := "BoxGlueModel") (T := kT_Mod) (N := 24) hx hb hts ki_Mod hown hK (k_one hM.1) 0 rfl rfl 12 (by decide) (hts _ kw_593) (fun _ h9 => h9) rfl d_Mod_leaders_61 ?_
  refine lv_iconst (v := 1) hx hb d_Mod_leaders_64 (by decide) ?_
  refine lv_isub hx hb d_Mod_leaders_65 ?_
  rw [nI_pred]
  refine lv_iload_n hx hb d_Mod_leaders_66 rfl (lv_at hl 2 rfl) ?_
  refine m_iast hx hb hK hM hL 9 k (Or.inl (by decide)) (show k < 340 by omega) d_Mod_leaders_67 (fun H locs hM hE1 hL => ?_)
  have hE : kE (mA m0 ad) s.heap H := hE.tr hE1 (fun _ _ h => h)
  refine lv_iconst (v := 1) hx hb d_Mod_leaders_68 (by decide) ?_
  exact W.iret (v := 1) hx hb hr (fun t ht hW => ⟨_, rfl, rfl, by rw [ht]; exact hE, by rw [ht]; exact hM⟩) hL d_Mod_leaders_69
set_option maxHeartbeats 4000000 in
set_option maxRecDepth 100000 in
theorem c_Mod_drop_no (l : Launch) (g : KGt) (H0 : Heap) (m0 : Nat) (ad : Nat → Nat) (sz us bx : Nat) (F : Nat → Nat → Int32) (G : Nat → Nat → Int64) (hM : kMod g m0 ad sz us bx F G H0) (h : sz = 0) : Met l y_Mod_drop (kW y_Mod_drop b_Mod_drop 1 (.some .int)) ({ frames := 0, cells := 0, slots := 0, locals := 0 }) (kPc [.ref m0] (KK g) H0) (kQc (kPure (.int (-3)) H0)) 0 0 (fun _ => False) := by
  refine Met.ofW (cc := b_Mod_drop) (maxL := 1) (ret := (.some .int)) (by decide) rfl ?_
  intro p e s m args below meth c s₁ B hml hv
  obtain ⟨rfl, hH, hKK⟩ := hv
  have hx := B.exec
  have hb := B.bytes
  have hr := B.returns
  have hts := kW_ts (atoms_spec (ws := kW y_Mod_drop b_Mod_drop 1 (.some .int)) B.pre)
  have hown : s.vm.findClass "BoxGlueModel" = some m.cls := findClass_of_methodNamed B.named
  have hlocks := B.notSynchronized
  have hK := hKK.1
  subst hH
  have hl := lv_entry ([.ref m0]) (n := 1) (Nat.le_of_ble_eq_true rfl)
  rw [lg_entry_eq]
  generalize (lg_sl ([.ref m0]) ++ List.replicate (1 - (lg_sl ([.ref m0])).length) Slot.unset).toArray = ls at hl ⊢
  have hl : lv_has ls 1 [(0, .ref m0)] := hl
  refine lv_aload_n hx hb d_Mod_drop_0 rfl (lv_at hl 0 rfl) ?_
  refine va_get (D := g.1) (ci := 10) (v := .int (nI sz)) (C := "BoxGlueModel") (T := kT_Mod) (N := 24) hx hb hts ki_Mod hown hK (k_one hM.1) 0 rfl rfl 12 (by decide) (hts _ kw_593) (fun _ h9 => h9) rfl d_Mod_drop_1 ?_
  refine lv_if_ne (tgt := 10) hx hb d_Mod_drop_4 (by decide) (fun c_1 => ?_) (fun c_1 => ?_)
  · exact absurd c_1 (fun q => q (by rw [h]; exact nI_0))
  refine lv_bipush (v := (-3)) hx hb d_Mod_drop_7 (by decide) ?_
  exact W.iret (v := (-3)) hx hb hr (fun t ht hW => ⟨_, rfl, rfl, ht⟩) (fun _ h => by cases h) d_Mod_drop_9
set_option maxHeartbeats 4000000 in
set_option maxRecDepth 100000 in
theorem c_Mod_drop_ok (l : Launch) (g : KGt) (H0 : Heap) (m0 : Nat) (ad : Nat → Nat) (sz us bx : Nat) (F : Nat → Nat → Int32) (G : Nat → Nat → Int64) (hM : kMod g m0 ad sz us bx F G H0) (k : Nat) (hs : sz = k + 1) (hk40 : k < 40) : Met l y_Mod_drop (kW y_Mod_drop b_Mod_drop 1 (.some .int)) ({ frames := 0, cells := 0, slots := 0, locals := 0 }) (kPc [.ref m0] (KK g) H0) (kQc (fun v H1 => v = some (.int (nI k)) ∧ kE (mA m0 ad) H0 H1 ∧ kMod g m0 ad k us bx F G H1)) 0 0 (mA m0 ad) := by
  refine Met.ofW (cc := b_Mod_drop) (maxL := 1) (ret := (.some .int)) (by decide) rfl ?_
  intro p e s m args below meth c s₁ B hml hv
  obtain ⟨rfl, hH, hKK⟩ := hv
  have hx := B.exec
  have hb := B.bytes
  have hr := B.returns
  have hts := kW_ts (atoms_spec (ws := kW y_Mod_drop b_Mod_drop 1 (.some .int)) B.pre)
  have hown : s.vm.findClass "BoxGlueModel" = some m.cls := findClass_of_methodNamed B.named
  have hlocks := B.notSynchronized
  have hK := hKK.1
  subst hH
  have hl := lv_entry ([.ref m0]) (n := 1) (Nat.le_of_ble_eq_true rfl)
  rw [lg_entry_eq]
  generalize (lg_sl ([.ref m0]) ++ List.replicate (1 - (lg_sl ([.ref m0])).length) Slot.unset).toArray = ls at hl ⊢
  have hl : lv_has ls 1 [(0, .ref m0)] := hl
  subst hs
  refine lv_aload_n hx hb d_Mod_drop_0 rfl (lv_at hl 0 rfl) ?_
  refine va_get (D := g.1) (ci := 10) (v := .int (nI (k + 1))) (C := "BoxGlueModel") (T := kT_Mod) (N := 24) hx hb hts ki_Mod hown hK (k_one hM.1) 0 rfl rfl 12 (by decide) (hts _ kw_593) (fun _ h9 => h9) rfl d_Mod_drop_1 ?_
  refine lv_if_ne (tgt := 10) hx hb d_Mod_drop_4 (by decide) (fun c_1 => ?_) (fun c_1 => ?_)
  rotate_left
  · exact absurd c_1 (nI_ne0 (by omega) (by omega))
  refine lv_aload_n hx hb d_Mod_drop_10 rfl (lv_at hl 0 rfl) ?_
  refine lv_dup hx hb d_Mod_drop_11 rfl ?_
  refine va_get (D := g.1) (ci := 10) (v := .int (nI (k + 1))) (C := "BoxGlueModel") (T := kT_Mod) (N := 24) hx hb hts ki_Mod hown hK (k_one hM.1) 0 rfl rfl 12 (by decide) (hts _ kw_593) (fun _ h9 => h9) rfl d_Mod_drop_12 ?_
  refine lv_iconst (v := 1) hx hb d_Mod_drop_15 (by decide) ?_
  refine lv_isub hx hb d_Mod_drop_16 ?_
  rw [nI_pred]
  refine m_psz (sz2 := k) hx hb hts hown hK hM (fun _ h => by cases h) (hts _ kw_593) d_Mod_drop_17 (fun H locs hM hE1 hL => ?_)
  have hE : kE (mA m0 ad) s.heap H := hE1
  refine lv_aload_n hx hb d_Mod_drop_20 rfl (lv_at hl 0 rfl) ?_
  refine va_get (D := g.1) (ci := 10) (v := .int (nI k)) (C := "BoxGlueModel") (T := kT_Mod) (N := 24) hx hb hts ki_Mod hown hK (k_one hM.1) 0 rfl rfl 12 (by decide) (hts _ kw_593) (fun _ h9 => h9) rfl d_Mod_drop_21 ?_
  exact W.iret (v := (nI k)) hx hb hr (fun t ht hW => ⟨_, rfl, rfl, by rw [ht]; exact hE, by rw [ht]; exact hM⟩) hL d_Mod_drop_24
/-- the row i of the reference is well made: a put's box, a leaders' box are boxes -/
def mW (F : Nat → Nat → Int32) (bx i : Nat) : Prop := (F 0 i = 1 → ∃ b, b < bx ∧ F 1 i = nI b) ∧ (¬ F 8 i = 0 → ∃ b, b < bx ∧ F 9 i = nI b)
def md_len (F : Nat → Nat → Int32) (i : Nat) : Int32 := if F 0 i = 1 then F 15 (F 1 i).toNatClampNeg else F 1 i
def md_h (F : Nat → Nat → Int32) (i : Nat) (r : Int32) : Int32 := if F 0 i = 1 then F 16 (F 1 i).toNatClampNeg - F 2 i else if F 0 i = 4 then (if F 2 i = (-1000000) then r else F 2 i) else 0
def md_d (F : Nat → Nat → Int32) (i : Nat) (r : Int32) : Int32 := if F 0 i = 1 then F 17 (F 1 i).toNatClampNeg + F 2 i else if F 0 i = 4 then (if F 3 i = (-1000000) then r else F 3 i) else 0
def md_ll (F : Nat → Nat → Int32) (i : Nat) : Int32 := F 15 (F 9 i).toNatClampNeg
set_option maxHeartbeats 4000000 in
set_option maxRecDepth 100000 in
theorem c_Mod_lengthOf (l : Launch) (g : KGt) (H0 : Heap) (m0 : Nat) (ad : Nat → Nat) (sz us bx : Nat) (F : Nat → Nat → Int32) (G : Nat → Nat → Int64) (hM : kMod g m0 ad sz us bx F G H0) (i : Nat) (hi : i < 340) (hb60 : bx ≤ 60) (hw : mW F bx i) : Met l y_Mod_lengthOf (kW y_Mod_lengthOf b_Mod_lengthOf 2 (.some .int)) ({ frames := 0, cells := 0, slots := 0, locals := 0 }) (kPc [.ref m0, .int (nI i)] (KK g) H0) (kQc (kPure (.int (md_len F i)) H0)) 0 0 (fun _ => False) := by
  refine Met.ofW (cc := b_Mod_lengthOf) (maxL := 2) (ret := (.some .int)) (by decide) rfl ?_
  intro p e s m args below meth c s₁ B hml hv
  obtain ⟨rfl, hH, hKK⟩ := hv
  have hx := B.exec
  have hb := B.bytes
  have hr := B.returns
  have hts := kW_ts (atoms_spec (ws := kW y_Mod_lengthOf b_Mod_lengthOf 2 (.some .int)) B.pre)
  have hown : s.vm.findClass "BoxGlueModel" = some m.cls := findClass_of_methodNamed B.named
  have hlocks := B.notSynchronized
  have hK := hKK.1
  subst hH
  have hl := lv_entry ([.ref m0, .int (nI i)]) (n := 2) (Nat.le_of_ble_eq_true rfl)
  rw [lg_entry_eq]
  generalize (lg_sl ([.ref m0, .int (nI i)]) ++ List.replicate (2 - (lg_sl ([.ref m0, .int (nI i)])).length) Slot.unset).toArray = ls at hl ⊢
  have hl : lv_has ls 2 [(0, .ref m0), (1, .int (nI i))] := hl
  refine lv_aload_n hx hb d_Mod_lengthOf_0 rfl (lv_at hl 0 rfl) ?_
  refine va_get (D := g.1) (ci := 10) (v := .ref (ad 0)) (C := "BoxGlueModel") (T := kT_Mod) (N := 24) hx hb hts ki_Mod hown hK (k_one hM.1) 0 rfl rfl 0 (by decide) (hts _ kw_581) (fun _ h9 => h9) rfl d_Mod_lengthOf_1 ?_
  refine lv_iload_n hx hb d_Mod_lengthOf_4 rfl (lv_at hl 1 rfl) ?_
  refine m_iald hx hb hK hM 0 i (Or.inl (by decide)) (show i < 340 by omega) d_Mod_lengthOf_5 ?_
  refine lv_iconst (v := 1) hx hb d_Mod_lengthOf_6 (by decide) ?_
  refine lv_icmp_ne (tgt := 24) hx hb d_Mod_lengthOf_7 (by decide) (fun c_1 => ?_) (fun c_1 => ?_)
  · skip
    refine lv_aload_n hx hb d_Mod_lengthOf_24 rfl (lv_at hl 0 rfl) ?_
    refine va_get (D := g.1) (ci := 10) (v := .ref (ad 1)) (C := "BoxGlueModel") (T := kT_Mod) (N := 24) hx hb hts ki_Mod hown hK (k_one hM.1) 0 rfl rfl 1 (by decide) (hts _ kw_582) (fun _ h9 => h9) rfl d_Mod_lengthOf_25 ?_
    refine lv_iload_n hx hb d_Mod_lengthOf_28 rfl (lv_at hl 1 rfl) ?_
    refine m_iald hx hb hK hM 1 i (Or.inl (by decide)) (show i < 340 by omega) d_Mod_lengthOf_29 ?_
    exact W.iret (v := (F 1 i)) hx hb hr (fun t ht hW => ⟨_, rfl, (by unfold md_len; rw [if_neg c_1]), ht⟩) (fun _ h => by cases h) d_Mod_lengthOf_30
  · skip
    refine lv_aload_n hx hb d_Mod_lengthOf_10 rfl (lv_at hl 0 rfl) ?_
    refine va_get (D := g.1) (ci := 10) (v := .ref (ad 15)) (C := "BoxGlueModel") (T := kT_Mod) (N := 24) hx hb hts ki_Mod hown hK (k_one hM.1) 0 rfl rfl 15 (by decide) (hts _ kw_596) (fun _ h9 => h9) rfl d_Mod_lengthOf_11 ?_
    refine lv_aload_n hx hb d_Mod_lengthOf_14 rfl (lv_at hl 0 rfl) ?_
    refine va_get (D := g.1) (ci := 10) (v := .ref (ad 1)) (C := "BoxGlueModel") (T := kT_Mod) (N := 24) hx hb hts ki_Mod hown hK (k_one hM.1) 0 rfl rfl 1 (by decide) (hts _ kw_582) (fun _ h9 => h9) rfl d_Mod_lengthOf_15 ?_
    refine lv_iload_n hx hb d_Mod_lengthOf_18 rfl (lv_at hl 1 rfl) ?_
    refine m_iald hx hb hK hM 1 i (Or.inl (by decide)) (show i < 340 by omega) d_Mod_lengthOf_19 ?_
    obtain ⟨b, hb1, hb2⟩ := hw.1 c_1
    rw [hb2]
    refine m_iald hx hb hK hM 15 b (Or.inr ⟨by decide, by decide⟩) (show b < 60 by omega) d_Mod_lengthOf_20 ?_
    refine lv_goto (tgt := 30) hx hb d_Mod_lengthOf_21 (by decide) ?_
    exact W.iret (v := (F 15 b)) hx hb hr (fun t ht hW => ⟨_, rfl, (by unfold md_len; rw [if_pos c_1, hb2, nI_clamp (by omega)]), ht⟩) (fun _ h => by cases h) d_Mod_lengthOf_30
set_option maxHeartbeats 4000000 in
set_option maxRecDepth 100000 in
theorem c_Mod_heightOf (l : Launch) (g : KGt) (H0 : Heap) (m0 : Nat) (ad : Nat → Nat) (sz us bx : Nat) (F : Nat → Nat → Int32) (G : Nat → Nat → Int64) (hM : kMod g m0 ad sz us bx F G H0) (p0 : Int32) (i : Nat) (hi : i < 340) (hb60 : bx ≤ 60) (hw : mW F bx i) : Met l y_Mod_heightOf (kW y_Mod_heightOf b_Mod_heightOf 3 (.some .int)) ({ frames := 0, cells := 0, slots := 0, locals := 0 }) (kPc [.ref m0, .int (nI i), .int p0] (KK g) H0) (kQc (kPure (.int (md_h F i p0)) H0)) 0 0 (fun _ => False) := by
  refine Met.ofW (cc := b_Mod_heightOf) (maxL := 3) (ret := (.some .int)) (by decide) rfl ?_
  intro p e s m args below meth c s₁ B hml hv
  obtain ⟨rfl, hH, hKK⟩ := hv
  have hx := B.exec
  have hb := B.bytes
  have hr := B.returns
  have hts := kW_ts (atoms_spec (ws := kW y_Mod_heightOf b_Mod_heightOf 3 (.some .int)) B.pre)
  have hown : s.vm.findClass "BoxGlueModel" = some m.cls := findClass_of_methodNamed B.named
  have hlocks := B.notSynchronized
  have hK := hKK.1
  subst hH
  have hl := lv_entry ([.ref m0, .int (nI i), .int p0]) (n := 3) (Nat.le_of_ble_eq_true rfl)
  rw [lg_entry_eq]
  generalize (lg_sl ([.ref m0, .int (nI i), .int p0]) ++ List.replicate (3 - (lg_sl ([.ref m0, .int (nI i), .int p0])).length) Slot.unset).toArray = ls at hl ⊢
  have hl : lv_has ls 3 [(0, .ref m0), (1, .int (nI i)), (2, .int p0)] := hl
  refine lv_aload_n hx hb d_Mod_heightOf_0 rfl (lv_at hl 0 rfl) ?_
  refine va_get (D := g.1) (ci := 10) (v := .ref (ad 0)) (C := "BoxGlueModel") (T := kT_Mod) (N := 24) hx hb hts ki_Mod hown hK (k_one hM.1) 0 rfl rfl 0 (by decide) (hts _ kw_581) (fun _ h9 => h9) rfl d_Mod_heightOf_1 ?_
  refine lv_iload_n hx hb d_Mod_heightOf_4 rfl (lv_at hl 1 rfl) ?_
  refine m_iald hx hb hK hM 0 i (Or.inl (by decide)) (show i < 340 by omega) d_Mod_heightOf_5 ?_
  refine lv_iconst (v := 1) hx hb d_Mod_heightOf_6 (by decide) ?_
  refine lv_icmp_ne (tgt := 29) hx hb d_Mod_heightOf_7 (by decide) (fun c_1 => ?_) (fun c_1 => ?_)
  · skip
    refine lv_aload_n hx hb d_Mod_heightOf_29 rfl (lv_at hl 0 rfl) ?_
    refine va_get (D := g.1) (ci := 10) (v := .ref (ad 0)) (C := "BoxGlueModel") (T := kT_Mod) (N := 24) hx hb hts ki_Mod hown hK (k_one hM.1) 0 rfl rfl 0 (by decide) (hts _ kw_581) (fun _ h9 => h9) rfl d_Mod_heightOf_30 ?_
    refine lv_iload_n hx hb d_Mod_heightOf_33 rfl (lv_at hl 1 rfl) ?_
    refine m_iald hx hb hK hM 0 i (Or.inl (by decide)) (show i < 340 by omega) d_Mod_heightOf_34 ?_
    refine lv_iconst (v := 4) hx hb d_Mod_heightOf_35 (by decide) ?_
    refine lv_icmp_eq (tgt := 43) hx hb d_Mod_heightOf_36 (by decide) (fun c_2 => ?_) (fun c_2 => ?_)
    · skip
      refine lv_aload_n hx hb d_Mod_heightOf_43 rfl (lv_at hl 0 rfl) ?_
      refine va_get (D := g.1) (ci := 10) (v := .ref (ad 2)) (C := "BoxGlueModel") (T := kT_Mod) (N := 24) hx hb hts ki_Mod hown hK (k_one hM.1) 0 rfl rfl 2 (by decide) (hts _ kw_583) (fun _ h9 => h9) rfl d_Mod_heightOf_44 ?_
      refine lv_iload_n hx hb d_Mod_heightOf_47 rfl (lv_at hl 1 rfl) ?_
      refine m_iald hx hb hK hM 2 i (Or.inl (by decide)) (show i < 340 by omega) d_Mod_heightOf_48 ?_
      refine lv_ldc (own := "BoxGlueModel") (index := 95) (v := (-1000000)) hx hb hown (hts _ kw_689) d_Mod_heightOf_49 ?_
      refine lv_icmp_ne (tgt := 58) hx hb d_Mod_heightOf_51 (by decide) (fun c_3 => ?_) (fun c_3 => ?_)
      · skip
        refine lv_aload_n hx hb d_Mod_heightOf_58 rfl (lv_at hl 0 rfl) ?_
        refine va_get (D := g.1) (ci := 10) (v := .ref (ad 2)) (C := "BoxGlueModel") (T := kT_Mod) (N := 24) hx hb hts ki_Mod hown hK (k_one hM.1) 0 rfl rfl 2 (by decide) (hts _ kw_583) (fun _ h9 => h9) rfl d_Mod_heightOf_59 ?_
        refine lv_iload_n hx hb d_Mod_heightOf_62 rfl (lv_at hl 1 rfl) ?_
        refine m_iald hx hb hK hM 2 i (Or.inl (by decide)) (show i < 340 by omega) d_Mod_heightOf_63 ?_
        exact W.iret (v := (F 2 i)) hx hb hr (fun t ht hW => ⟨_, rfl, (by unfold md_h; rw [if_neg c_1, if_pos c_2, if_neg c_3]), ht⟩) (fun _ h => by cases h) d_Mod_heightOf_64
      · skip
        refine lv_iload_n hx hb d_Mod_heightOf_54 rfl (lv_at hl 2 rfl) ?_
        refine lv_goto (tgt := 64) hx hb d_Mod_heightOf_55 (by decide) ?_
        exact W.iret (v := p0) hx hb hr (fun t ht hW => ⟨_, rfl, (by unfold md_h; rw [if_neg c_1, if_pos c_2, if_pos c_3]), ht⟩) (fun _ h => by cases h) d_Mod_heightOf_64
    · skip
      refine lv_iconst (v := 0) hx hb d_Mod_heightOf_39 (by decide) ?_
      refine lv_goto (tgt := 64) hx hb d_Mod_heightOf_40 (by decide) ?_
      exact W.iret (v := 0) hx hb hr (fun t ht hW => ⟨_, rfl, (by unfold md_h; rw [if_neg c_1, if_neg c_2]), ht⟩) (fun _ h => by cases h) d_Mod_heightOf_64
  · skip
    refine lv_aload_n hx hb d_Mod_heightOf_10 rfl (lv_at hl 0 rfl) ?_
    refine va_get (D := g.1) (ci := 10) (v := .ref (ad 16)) (C := "BoxGlueModel") (T := kT_Mod) (N := 24) hx hb hts ki_Mod hown hK (k_one hM.1) 0 rfl rfl 16 (by decide) (hts _ kw_597) (fun _ h9 => h9) rfl d_Mod_heightOf_11 ?_
    refine lv_aload_n hx hb d_Mod_heightOf_14 rfl (lv_at hl 0 rfl) ?_
    refine va_get (D := g.1) (ci := 10) (v := .ref (ad 1)) (C := "BoxGlueModel") (T := kT_Mod) (N := 24) hx hb hts ki_Mod hown hK (k_one hM.1) 0 rfl rfl 1 (by decide) (hts _ kw_582) (fun _ h9 => h9) rfl d_Mod_heightOf_15 ?_
    refine lv_iload_n hx hb d_Mod_heightOf_18 rfl (lv_at hl 1 rfl) ?_
    refine m_iald hx hb hK hM 1 i (Or.inl (by decide)) (show i < 340 by omega) d_Mod_heightOf_19 ?_
    obtain ⟨b, hb1, hb2⟩ := hw.1 c_1
    rw [hb2]
    refine m_iald hx hb hK hM 16 b (Or.inr ⟨by decide, by decide⟩) (show b < 60 by omega) d_Mod_heightOf_20 ?_
    refine lv_aload_n hx hb d_Mod_heightOf_21 rfl (lv_at hl 0 rfl) ?_
    refine va_get (D := g.1) (ci := 10) (v := .ref (ad 2)) (C := "BoxGlueModel") (T := kT_Mod) (N := 24) hx hb hts ki_Mod hown hK (k_one hM.1) 0 rfl rfl 2 (by decide) (hts _ kw_583) (fun _ h9 => h9) rfl d_Mod_heightOf_22 ?_
    refine lv_iload_n hx hb d_Mod_heightOf_25 rfl (lv_at hl 1 rfl) ?_
    refine m_iald hx hb hK hM 2 i (Or.inl (by decide)) (show i < 340 by omega) d_Mod_heightOf_26 ?_
    refine lv_isub hx hb d_Mod_heightOf_27 ?_
    exact W.iret (v := ((F 16 b) - (F 2 i))) hx hb hr (fun t ht hW => ⟨_, rfl, (by unfold md_h; rw [if_pos c_1, hb2, nI_clamp (by omega)]), ht⟩) (fun _ h => by cases h) d_Mod_heightOf_28
set_option maxHeartbeats 4000000 in
set_option maxRecDepth 100000 in
theorem c_Mod_depthOf (l : Launch) (g : KGt) (H0 : Heap) (m0 : Nat) (ad : Nat → Nat) (sz us bx : Nat) (F : Nat → Nat → Int32) (G : Nat → Nat → Int64) (hM : kMod g m0 ad sz us bx F G H0) (p0 : Int32) (i : Nat) (hi : i < 340) (hb60 : bx ≤ 60) (hw : mW F bx i) : Met l y_Mod_depthOf (kW y_Mod_depthOf b_Mod_depthOf 3 (.some .int)) ({ frames := 0, cells := 0, slots := 0, locals := 0 }) (kPc [.ref m0, .int (nI i), .int p0] (KK g) H0) (kQc (kPure (.int (md_d F i p0)) H0)) 0 0 (fun _ => False) := by
  refine Met.ofW (cc := b_Mod_depthOf) (maxL := 3) (ret := (.some .int)) (by decide) rfl ?_
  intro p e s m args below meth c s₁ B hml hv
  obtain ⟨rfl, hH, hKK⟩ := hv
  have hx := B.exec
  have hb := B.bytes
  have hr := B.returns
  have hts := kW_ts (atoms_spec (ws := kW y_Mod_depthOf b_Mod_depthOf 3 (.some .int)) B.pre)
  have hown : s.vm.findClass "BoxGlueModel" = some m.cls := findClass_of_methodNamed B.named
  have hlocks := B.notSynchronized
  have hK := hKK.1
  subst hH
  have hl := lv_entry ([.ref m0, .int (nI i), .int p0]) (n := 3) (Nat.le_of_ble_eq_true rfl)
  rw [lg_entry_eq]
  generalize (lg_sl ([.ref m0, .int (nI i), .int p0]) ++ List.replicate (3 - (lg_sl ([.ref m0, .int (nI i), .int p0])).length) Slot.unset).toArray = ls at hl ⊢
  have hl : lv_has ls 3 [(0, .ref m0), (1, .int (nI i)), (2, .int p0)] := hl
  refine lv_aload_n hx hb d_Mod_depthOf_0 rfl (lv_at hl 0 rfl) ?_
  refine va_get (D := g.1) (ci := 10) (v := .ref (ad 0)) (C := "BoxGlueModel") (T := kT_Mod) (N := 24) hx hb hts ki_Mod hown hK (k_one hM.1) 0 rfl rfl 0 (by decide) (hts _ kw_581) (fun _ h9 => h9) rfl d_Mod_depthOf_1 ?_
  refine lv_iload_n hx hb d_Mod_depthOf_4 rfl (lv_at hl 1 rfl) ?_
  refine m_iald hx hb hK hM 0 i (Or.inl (by decide)) (show i < 340 by omega) d_Mod_depthOf_5 ?_
  refine lv_iconst (v := 1) hx hb d_Mod_depthOf_6 (by decide) ?_
  refine lv_icmp_ne (tgt := 29) hx hb d_Mod_depthOf_7 (by decide) (fun c_1 => ?_) (fun c_1 => ?_)
  · skip
    refine lv_aload_n hx hb d_Mod_depthOf_29 rfl (lv_at hl 0 rfl) ?_
    refine va_get (D := g.1) (ci := 10) (v := .ref (ad 0)) (C := "BoxGlueModel") (T := kT_Mod) (N := 24) hx hb hts ki_Mod hown hK (k_one hM.1) 0 rfl rfl 0 (by decide) (hts _ kw_581) (fun _ h9 => h9) rfl d_Mod_depthOf_30 ?_
    refine lv_iload_n hx hb d_Mod_depthOf_33 rfl (lv_at hl 1 rfl) ?_
    refine m_iald hx hb hK hM 0 i (Or.inl (by decide)) (show i < 340 by omega) d_Mod_depthOf_34 ?_
    refine lv_iconst (v := 4) hx hb d_Mod_depthOf_35 (by decide) ?_
    refine lv_icmp_eq (tgt := 43) hx hb d_Mod_depthOf_36 (by decide) (fun c_2 => ?_) (fun c_2 => ?_)
    · skip
      refine lv_aload_n hx hb d_Mod_depthOf_43 rfl (lv_at hl 0 rfl) ?_
      refine va_get (D := g.1) (ci := 10) (v := .ref (ad 3)) (C := "BoxGlueModel") (T := kT_Mod) (N := 24) hx hb hts ki_Mod hown hK (k_one hM.1) 0 rfl rfl 3 (by decide) (hts _ kw_584) (fun _ h9 => h9) rfl d_Mod_depthOf_44 ?_
      refine lv_iload_n hx hb d_Mod_depthOf_47 rfl (lv_at hl 1 rfl) ?_
      refine m_iald hx hb hK hM 3 i (Or.inl (by decide)) (show i < 340 by omega) d_Mod_depthOf_48 ?_
      refine lv_ldc (own := "BoxGlueModel") (index := 95) (v := (-1000000)) hx hb hown (hts _ kw_689) d_Mod_depthOf_49 ?_
      refine lv_icmp_ne (tgt := 58) hx hb d_Mod_depthOf_51 (by decide) (fun c_3 => ?_) (fun c_3 => ?_)
      · skip
        refine lv_aload_n hx hb d_Mod_depthOf_58 rfl (lv_at hl 0 rfl) ?_
        refine va_get (D := g.1) (ci := 10) (v := .ref (ad 3)) (C := "BoxGlueModel") (T := kT_Mod) (N := 24) hx hb hts ki_Mod hown hK (k_one hM.1) 0 rfl rfl 3 (by decide) (hts _ kw_584) (fun _ h9 => h9) rfl d_Mod_depthOf_59 ?_
        refine lv_iload_n hx hb d_Mod_depthOf_62 rfl (lv_at hl 1 rfl) ?_
        refine m_iald hx hb hK hM 3 i (Or.inl (by decide)) (show i < 340 by omega) d_Mod_depthOf_63 ?_
        exact W.iret (v := (F 3 i)) hx hb hr (fun t ht hW => ⟨_, rfl, (by unfold md_d; rw [if_neg c_1, if_pos c_2, if_neg c_3]), ht⟩) (fun _ h => by cases h) d_Mod_depthOf_64
      · skip
        refine lv_iload_n hx hb d_Mod_depthOf_54 rfl (lv_at hl 2 rfl) ?_
        refine lv_goto (tgt := 64) hx hb d_Mod_depthOf_55 (by decide) ?_
        exact W.iret (v := p0) hx hb hr (fun t ht hW => ⟨_, rfl, (by unfold md_d; rw [if_neg c_1, if_pos c_2, if_pos c_3]), ht⟩) (fun _ h => by cases h) d_Mod_depthOf_64
    · skip
      refine lv_iconst (v := 0) hx hb d_Mod_depthOf_39 (by decide) ?_
      refine lv_goto (tgt := 64) hx hb d_Mod_depthOf_40 (by decide) ?_
      exact W.iret (v := 0) hx hb hr (fun t ht hW => ⟨_, rfl, (by unfold md_d; rw [if_neg c_1, if_neg c_2]), ht⟩) (fun _ h => by cases h) d_Mod_depthOf_64
  · skip
    refine lv_aload_n hx hb d_Mod_depthOf_10 rfl (lv_at hl 0 rfl) ?_
    refine va_get (D := g.1) (ci := 10) (v := .ref (ad 17)) (C := "BoxGlueModel") (T := kT_Mod) (N := 24) hx hb hts ki_Mod hown hK (k_one hM.1) 0 rfl rfl 17 (by decide) (hts _ kw_598) (fun _ h9 => h9) rfl d_Mod_depthOf_11 ?_
    refine lv_aload_n hx hb d_Mod_depthOf_14 rfl (lv_at hl 0 rfl) ?_
    refine va_get (D := g.1) (ci := 10) (v := .ref (ad 1)) (C := "BoxGlueModel") (T := kT_Mod) (N := 24) hx hb hts ki_Mod hown hK (k_one hM.1) 0 rfl rfl 1 (by decide) (hts _ kw_582) (fun _ h9 => h9) rfl d_Mod_depthOf_15 ?_
    refine lv_iload_n hx hb d_Mod_depthOf_18 rfl (lv_at hl 1 rfl) ?_
    refine m_iald hx hb hK hM 1 i (Or.inl (by decide)) (show i < 340 by omega) d_Mod_depthOf_19 ?_
    obtain ⟨b, hb1, hb2⟩ := hw.1 c_1
    rw [hb2]
    refine m_iald hx hb hK hM 17 b (Or.inr ⟨by decide, by decide⟩) (show b < 60 by omega) d_Mod_depthOf_20 ?_
    refine lv_aload_n hx hb d_Mod_depthOf_21 rfl (lv_at hl 0 rfl) ?_
    refine va_get (D := g.1) (ci := 10) (v := .ref (ad 2)) (C := "BoxGlueModel") (T := kT_Mod) (N := 24) hx hb hts ki_Mod hown hK (k_one hM.1) 0 rfl rfl 2 (by decide) (hts _ kw_583) (fun _ h9 => h9) rfl d_Mod_depthOf_22 ?_
    refine lv_iload_n hx hb d_Mod_depthOf_25 rfl (lv_at hl 1 rfl) ?_
    refine m_iald hx hb hK hM 2 i (Or.inl (by decide)) (show i < 340 by omega) d_Mod_depthOf_26 ?_
    refine lv_iadd hx hb d_Mod_depthOf_27 ?_
    exact W.iret (v := ((F 17 b) + (F 2 i))) hx hb hr (fun t ht hW => ⟨_, rfl, (by unfold md_d; rw [if_pos c_1, hb2, nI_clamp (by omega)]), ht⟩) (fun _ h => by cases h) d_Mod_depthOf_28
set_option maxHeartbeats 4000000 in
set_option maxRecDepth 100000 in
theorem c_Mod_leaderLength (l : Launch) (g : KGt) (H0 : Heap) (m0 : Nat) (ad : Nat → Nat) (sz us bx : Nat) (F : Nat → Nat → Int32) (G : Nat → Nat → Int64) (hM : kMod g m0 ad sz us bx F G H0) (i : Nat) (hi : i < 340) (hb60 : bx ≤ 60) (hw : mW F bx i) (hk0 : ¬ F 8 i = 0) : Met l y_Mod_leaderLength (kW y_Mod_leaderLength b_Mod_leaderLength 2 (.some .int)) ({ frames := 0, cells := 0, slots := 0, locals := 0 }) (kPc [.ref m0, .int (nI i)] (KK g) H0) (kQc (kPure (.int (md_ll F i)) H0)) 0 0 (fun _ => False) := by
  refine Met.ofW (cc := b_Mod_leaderLength) (maxL := 2) (ret := (.some .int)) (by decide) rfl ?_
  intro p e s m args below meth c s₁ B hml hv
  obtain ⟨rfl, hH, hKK⟩ := hv
  have hx := B.exec
  have hb := B.bytes
  have hr := B.returns
  have hts := kW_ts (atoms_spec (ws := kW y_Mod_leaderLength b_Mod_leaderLength 2 (.some .int)) B.pre)
  have hown : s.vm.findClass "BoxGlueModel" = some m.cls := findClass_of_methodNamed B.named
  have hlocks := B.notSynchronized
  have hK := hKK.1
  subst hH
  have hl := lv_entry ([.ref m0, .int (nI i)]) (n := 2) (Nat.le_of_ble_eq_true rfl)
  rw [lg_entry_eq]
  generalize (lg_sl ([.ref m0, .int (nI i)]) ++ List.replicate (2 - (lg_sl ([.ref m0, .int (nI i)])).length) Slot.unset).toArray = ls at hl ⊢
  have hl : lv_has ls 2 [(0, .ref m0), (1, .int (nI i))] := hl
  refine lv_aload_n hx hb d_Mod_leaderLength_0 rfl (lv_at hl 0 rfl) ?_
  refine va_get (D := g.1) (ci := 10) (v := .ref (ad 15)) (C := "BoxGlueModel") (T := kT_Mod) (N := 24) hx hb hts ki_Mod hown hK (k_one hM.1) 0 rfl rfl 15 (by decide) (hts _ kw_596) (fun _ h9 => h9) rfl d_Mod_leaderLength_1 ?_
  refine lv_aload_n hx hb d_Mod_leaderLength_4 rfl (lv_at hl 0 rfl) ?_
  refine va_get (D := g.1) (ci := 10) (v := .ref (ad 9)) (C := "BoxGlueModel") (T := kT_Mod) (N := 24) hx hb hts ki_Mod hown hK (k_one hM.1) 0 rfl rfl 9 (by decide) (hts _ kw_590) (fun _ h9 => h9) rfl d_Mod_leaderLength_5 ?_
  refine lv_iload_n hx hb d_Mod_leaderLength_8 rfl (lv_at hl 1 rfl) ?_
  refine m_iald hx hb hK hM 9 i (Or.inl (by decide)) (show i < 340 by omega) d_Mod_leaderLength_9 ?_
  obtain ⟨b, hb1, hb2⟩ := hw.2 hk0
  rw [hb2]
  refine m_iald hx hb hK hM 15 b (Or.inr ⟨by decide, by decide⟩) (show b < 60 by omega) d_Mod_leaderLength_10 ?_
  exact W.iret (v := (F 15 b)) hx hb hr (fun t ht hW => ⟨_, rfl, (by unfold md_ll; rw [hb2, nI_clamp (by omega)]), ht⟩) (fun _ h => by cases h) d_Mod_leaderLength_11
